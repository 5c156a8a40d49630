/-! the constructors of the office and of the reference -/
section ZB4
variable {D : va_G} {ks : Nat → ClassId} {ad : Nat → Nat} {np ng : Nat} {G : Nat → Nat} {MI : Nat → Nat → Int32} {MJ : Nat → Nat → Int64} {XI : Nat → Nat → Int32} {XJ : Nat → Nat → Int64} {Rs : List Nat}
section
variable {p : Program} {l : Launch} {e : Env} {R : Room} {s : State} {m : MethodId} {args : Array Value} {below : List Frame} {meth : Method} {c : Code} {H : Heap} {locs : List Loc} {cells slots : Nat} {Q : State → Prop}
variable {cc : ByteArray} {pc : Nat} {ls : Array Slot} {rest : List Value} {A : Nat → Prop} {g : Nat → va_E}
theorem z_app {q r : Nat} {e0 : va_E} (hP : va_P D vwCl (zL Rs ad g ++ [(q, e0)]) H) (hD : va_D A (zL Rs ad g ++ [(q, e0)])) (hD0 : zD A Rs ad) (hr : r ∉ Rs) : zP D (r :: Rs) (va_up ad r q) (va_up g r e0) H ∧ zD A (r :: Rs) (va_up ad r q) := by
  have hl : (zL Rs ad g).length = Rs.length := by simp [zL]
  have hq : (zL Rs ad g ++ [(q, e0)])[Rs.length]? = some (q, e0) := by rw [← hl]; simp
  refine ⟨zP.push (fun x hx => ?_) (hP _ _ hq) hr, hD0.push hr (fun x hx e => ?_) (hD.2 _ _ hq)⟩
  · obtain ⟨k, h1, h2⟩ := zL_at g hx (ad := ad)
    exact hP k (ad x, g x) (by rw [List.getElem?_append_left (List.getElem?_eq_some_iff.mp h2).1]; exact h2)
  · obtain ⟨k, h1, h2⟩ := zL_at g hx (ad := ad)
    have hlt := (List.getElem?_eq_some_iff.mp h2).1
    have := hD.1 k Rs.length (ad x, g x) (q, e0) (by rw [List.getElem?_append_left hlt]; exact h2) hq e
    omega
theorem z_newq (hx : p.tables.exec = Jvm.exec) (hb : c.code = cc) (hT : ∀ w ∈ WS, w.before args s = true) {own C : String} {index k : Nat} (hown : s.vm.findClass own = some m.cls) (hcl : Cond.classLink own index C ∈ WS) (hover : va_AO C s) (hK : zK D ks s) (hk : (zT ks)[k]? = some (ks k, .object C)) (hP : zP D Rs ad g H) (hD : zD A Rs ad) (hS : va_S A s.heap H locs) (hA : ∀ q : Nat, s.heap.size ≤ q → A q) {r : Nat} (hr : r ∉ Rs) {n : Int32} {N : Nat} (hn : ¬ n < 0) (hN : n.toNatClampNeg = N) (hbytes : N * 4 ≤ 536870912) (hcells : cells + 1 ≤ R.cells) (hslots : slots + N ≤ R.slots) (hdg : decode cc pc = .ok (.anewarray index, 3))
    (kk : ∀ (q : Nat) (H1 : Heap), zP D (r :: Rs) (va_up ad r q) (va_up g r (aQ (ks k) N (fun _ => none))) H1 → zD A (r :: Rs) (va_up ad r q) → va_S A s.heap H1 locs → W p l e R s m args below meth c H1 locs (cells + 1) (slots + N) Q (F0 m (pc + 3) ls (.ref q :: rest))) : W p l e R s m args below meth c H locs cells slots Q (F0 m pc ls (.int n :: rest)) := by
  refine va_newq hx hb hown (hT _ hcl) hover hK.1 hP.ws (hD.ws g) hS hA hn hN hbytes hcells hslots hdg (fun q cA H1 hK1 hP1 hD1 hS1 => ?_)
  have h4 := (hK1.2 4 (cA, .object C) rfl).2
  have h0 := (hK.1.2 k _ hk).2
  obtain ⟨kA, comp, -, -, -, h5⟩ := h4
  obtain ⟨kA2, comp2, -, -, -, h6⟩ := h0
  have hc : cA = ks k := Option.some.inj (h5.symm.trans h6)
  subst hc
  obtain ⟨z1, z2⟩ := z_app hP1 hD1 hD hr
  exact kk q H1 z1 z2 hS1
theorem z_newJ (hx : p.tables.exec = Jvm.exec) (hb : c.code = cc) (hT : ∀ w ∈ WS, w.before args s = true) (hK : zK D ks s) (hP : zP D Rs ad g H) (hD : zD A Rs ad) (hS : va_S A s.heap H locs) (hA : ∀ q : Nat, s.heap.size ≤ q → A q) {r : Nat} (hr : r ∉ Rs) {n : Int32} {N : Nat} (hn : ¬ n < 0) (hN : n.toNatClampNeg = N) (hbytes : N * componentBytes .long ≤ 536870912) (hcells : cells + 1 ≤ R.cells) (hslots : slots + N ≤ R.slots) (hdg : decode cc pc = .ok (.newarray .long, 2))
    (kk : ∀ (q : Nat) (H1 : Heap), zP D (r :: Rs) (va_up ad r q) (va_up g r (aJ (ks 1) N (fun _ => 0))) H1 → zD A (r :: Rs) (va_up ad r q) → va_S A s.heap H1 locs → W p l e R s m args below meth c H1 locs (cells + 1) (slots + N) Q (F0 m (pc + 2) ls (.ref q :: rest))) : W p l e R s m args below meth c H locs cells slots Q (F0 m pc ls (.int n :: rest)) := by
  refine va_newa (atype := .long) (a0 := (N, .inr (.inl (fun _ => 0)))) hx hb (hT _ ac_long) rfl hK.1 hP.ws (hD.ws g) hS hA (fun cA => rfl) hn hN hbytes hcells hslots hdg (fun q cA H1 hK1 hP1 hD1 hS1 => ?_)
  have h4 : s.vm.findClass _ = some cA := (hK1.2 4 (cA, .long) rfl).2
  have h0 : s.vm.findClass _ = some (ks 1) := (hK.1.2 1 (ks 1, .long) rfl).2
  have hc : cA = ks 1 := Option.some.inj (h4.symm.trans h0)
  subst hc
  obtain ⟨z1, z2⟩ := z_app hP1 hD1 hD hr
  exact kk q H1 z1 z2 hS1
theorem pa_X3_11 {a : Nat} (hx : p.tables.exec = Jvm.exec) (hb : c.code = cc) (hT : ∀ w ∈ WS, w.before args s = true) (hown : s.vm.findClass RX3 = some m.cls) (hK : zK D ks s) (hin : meth.name = "<init>") (hP : zP D Rs ad g H) (hD : zD A Rs ad) (hS : va_S A s.heap H locs) {r : Nat} (hr : r ∈ Rs) (har : ad r = a) {fs : List Value} {v : Nat} (he : g r = .inr (3, fs)) (hl : 0 < fs.length) (hdg : decode cc pc = .ok (.putfield 11, 3)) (kk : ∀ (H1 : Heap) (locs1 : List Loc), zP D Rs ad (va_up g r (.inr (3, fs.set 0 (.ref v)))) H1 → va_S A s.heap H1 locs1 → W p l e R s m args below meth c H1 locs1 cells slots Q (F0 m (pc + 3) ls rest)) : W p l e R s m args below meth c H locs cells slots Q (F0 m pc ls (.ref v :: .ref a :: rest)) := by
  subst har
  exact pg_X3_11 hx hb hT hown hK hin hP hD hS hr he hl hdg kk
theorem pa_X3_17 {a : Nat} (hx : p.tables.exec = Jvm.exec) (hb : c.code = cc) (hT : ∀ w ∈ WS, w.before args s = true) (hown : s.vm.findClass RX3 = some m.cls) (hK : zK D ks s) (hin : meth.name = "<init>") (hP : zP D Rs ad g H) (hD : zD A Rs ad) (hS : va_S A s.heap H locs) {r : Nat} (hr : r ∈ Rs) (har : ad r = a) {fs : List Value} {v : Nat} (he : g r = .inr (3, fs)) (hl : 1 < fs.length) (hdg : decode cc pc = .ok (.putfield 17, 3)) (kk : ∀ (H1 : Heap) (locs1 : List Loc), zP D Rs ad (va_up g r (.inr (3, fs.set 1 (.ref v)))) H1 → va_S A s.heap H1 locs1 → W p l e R s m args below meth c H1 locs1 cells slots Q (F0 m (pc + 3) ls rest)) : W p l e R s m args below meth c H locs cells slots Q (F0 m pc ls (.ref v :: .ref a :: rest)) := by
  subst har
  exact pg_X3_17 hx hb hT hown hK hin hP hD hS hr he hl hdg kk
theorem pa_X3_21 {a : Nat} (hx : p.tables.exec = Jvm.exec) (hb : c.code = cc) (hT : ∀ w ∈ WS, w.before args s = true) (hown : s.vm.findClass RX3 = some m.cls) (hK : zK D ks s) (hin : meth.name = "<init>") (hP : zP D Rs ad g H) (hD : zD A Rs ad) (hS : va_S A s.heap H locs) {r : Nat} (hr : r ∈ Rs) (har : ad r = a) {fs : List Value} {v : Nat} (he : g r = .inr (3, fs)) (hl : 2 < fs.length) (hdg : decode cc pc = .ok (.putfield 21, 3)) (kk : ∀ (H1 : Heap) (locs1 : List Loc), zP D Rs ad (va_up g r (.inr (3, fs.set 2 (.ref v)))) H1 → va_S A s.heap H1 locs1 → W p l e R s m args below meth c H1 locs1 cells slots Q (F0 m (pc + 3) ls rest)) : W p l e R s m args below meth c H locs cells slots Q (F0 m pc ls (.ref v :: .ref a :: rest)) := by
  subst har
  exact pg_X3_21 hx hb hT hown hK hin hP hD hS hr he hl hdg kk
theorem pa_X3_25 {a : Nat} (hx : p.tables.exec = Jvm.exec) (hb : c.code = cc) (hT : ∀ w ∈ WS, w.before args s = true) (hown : s.vm.findClass RX3 = some m.cls) (hK : zK D ks s) (hin : meth.name = "<init>") (hP : zP D Rs ad g H) (hD : zD A Rs ad) (hS : va_S A s.heap H locs) {r : Nat} (hr : r ∈ Rs) (har : ad r = a) {fs : List Value} {v : Nat} (he : g r = .inr (3, fs)) (hl : 3 < fs.length) (hdg : decode cc pc = .ok (.putfield 25, 3)) (kk : ∀ (H1 : Heap) (locs1 : List Loc), zP D Rs ad (va_up g r (.inr (3, fs.set 3 (.ref v)))) H1 → va_S A s.heap H1 locs1 → W p l e R s m args below meth c H1 locs1 cells slots Q (F0 m (pc + 3) ls rest)) : W p l e R s m args below meth c H locs cells slots Q (F0 m pc ls (.ref v :: .ref a :: rest)) := by
  subst har
  exact pg_X3_25 hx hb hT hown hK hin hP hD hS hr he hl hdg kk
theorem pa_X3_30 {a : Nat} (hx : p.tables.exec = Jvm.exec) (hb : c.code = cc) (hT : ∀ w ∈ WS, w.before args s = true) (hown : s.vm.findClass RX3 = some m.cls) (hK : zK D ks s) (hP : zP D Rs ad g H) (hD : zD A Rs ad) (hS : va_S A s.heap H locs) {r : Nat} (hr : r ∈ Rs) (har : ad r = a) {fs : List Value} {v : Int32} (he : g r = .inr (3, fs)) (hl : 7 < fs.length) (hdg : decode cc pc = .ok (.putfield 30, 3)) (kk : ∀ (H1 : Heap) (locs1 : List Loc), zP D Rs ad (va_up g r (.inr (3, fs.set 7 (.int v)))) H1 → va_S A s.heap H1 locs1 → W p l e R s m args below meth c H1 locs1 cells slots Q (F0 m (pc + 3) ls rest)) : W p l e R s m args below meth c H locs cells slots Q (F0 m pc ls (.int v :: .ref a :: rest)) := by
  subst har
  exact pg_X3_30 hx hb hT hown hK hP hD hS hr he hl hdg kk
theorem pa_X3_34 {a : Nat} (hx : p.tables.exec = Jvm.exec) (hb : c.code = cc) (hT : ∀ w ∈ WS, w.before args s = true) (hown : s.vm.findClass RX3 = some m.cls) (hK : zK D ks s) (hP : zP D Rs ad g H) (hD : zD A Rs ad) (hS : va_S A s.heap H locs) {r : Nat} (hr : r ∈ Rs) (har : ad r = a) {fs : List Value} {v : Int32} (he : g r = .inr (3, fs)) (hl : 8 < fs.length) (hdg : decode cc pc = .ok (.putfield 34, 3)) (kk : ∀ (H1 : Heap) (locs1 : List Loc), zP D Rs ad (va_up g r (.inr (3, fs.set 8 (.int v)))) H1 → va_S A s.heap H1 locs1 → W p l e R s m args below meth c H1 locs1 cells slots Q (F0 m (pc + 3) ls rest)) : W p l e R s m args below meth c H locs cells slots Q (F0 m pc ls (.int v :: .ref a :: rest)) := by
  subst har
  exact pg_X3_34 hx hb hT hown hK hP hD hS hr he hl hdg kk
theorem pa_X3_37 {a : Nat} (hx : p.tables.exec = Jvm.exec) (hb : c.code = cc) (hT : ∀ w ∈ WS, w.before args s = true) (hown : s.vm.findClass RX3 = some m.cls) (hK : zK D ks s) (hP : zP D Rs ad g H) (hD : zD A Rs ad) (hS : va_S A s.heap H locs) {r : Nat} (hr : r ∈ Rs) (har : ad r = a) {fs : List Value} {v : Int32} (he : g r = .inr (3, fs)) (hl : 9 < fs.length) (hdg : decode cc pc = .ok (.putfield 37, 3)) (kk : ∀ (H1 : Heap) (locs1 : List Loc), zP D Rs ad (va_up g r (.inr (3, fs.set 9 (.int v)))) H1 → va_S A s.heap H1 locs1 → W p l e R s m args below meth c H1 locs1 cells slots Q (F0 m (pc + 3) ls rest)) : W p l e R s m args below meth c H locs cells slots Q (F0 m pc ls (.int v :: .ref a :: rest)) := by
  subst har
  exact pg_X3_37 hx hb hT hown hK hP hD hS hr he hl hdg kk
theorem pa_X3_40 {a : Nat} (hx : p.tables.exec = Jvm.exec) (hb : c.code = cc) (hT : ∀ w ∈ WS, w.before args s = true) (hown : s.vm.findClass RX3 = some m.cls) (hK : zK D ks s) (hP : zP D Rs ad g H) (hD : zD A Rs ad) (hS : va_S A s.heap H locs) {r : Nat} (hr : r ∈ Rs) (har : ad r = a) {fs : List Value} {v : Int32} (he : g r = .inr (3, fs)) (hl : 10 < fs.length) (hdg : decode cc pc = .ok (.putfield 40, 3)) (kk : ∀ (H1 : Heap) (locs1 : List Loc), zP D Rs ad (va_up g r (.inr (3, fs.set 10 (.int v)))) H1 → va_S A s.heap H1 locs1 → W p l e R s m args below meth c H1 locs1 cells slots Q (F0 m (pc + 3) ls rest)) : W p l e R s m args below meth c H locs cells slots Q (F0 m pc ls (.int v :: .ref a :: rest)) := by
  subst har
  exact pg_X3_40 hx hb hT hown hK hP hD hS hr he hl hdg kk
theorem pa_X3_43 {a : Nat} (hx : p.tables.exec = Jvm.exec) (hb : c.code = cc) (hT : ∀ w ∈ WS, w.before args s = true) (hown : s.vm.findClass RX3 = some m.cls) (hK : zK D ks s) (hP : zP D Rs ad g H) (hD : zD A Rs ad) (hS : va_S A s.heap H locs) {r : Nat} (hr : r ∈ Rs) (har : ad r = a) {fs : List Value} {v : Int32} (he : g r = .inr (3, fs)) (hl : 11 < fs.length) (hdg : decode cc pc = .ok (.putfield 43, 3)) (kk : ∀ (H1 : Heap) (locs1 : List Loc), zP D Rs ad (va_up g r (.inr (3, fs.set 11 (.int v)))) H1 → va_S A s.heap H1 locs1 → W p l e R s m args below meth c H1 locs1 cells slots Q (F0 m (pc + 3) ls rest)) : W p l e R s m args below meth c H locs cells slots Q (F0 m pc ls (.int v :: .ref a :: rest)) := by
  subst har
  exact pg_X3_43 hx hb hT hown hK hP hD hS hr he hl hdg kk
end
def cF (n : Nat) : Nat → Int64 := fun j => if j < n then -1 else 0
theorem cF_up (n : Nat) : vp_updL (cF n) n (-1) = cF (n + 1) := by
  funext j
  unfold vp_updL cF
  by_cases h : j = n
  · subst h; simp
  · simp only [h]; by_cases h2 : j < n
    · simp [h2, show j < n + 1 by omega]
    · simp [h2, show ¬ j < n + 1 by omega]
theorem cF_0 : cF 0 = fun _ => 0 := by funext j; simp [cF]
/-- what a constructor of the office leaves -/
def nX3 (D : va_G) (ks : Nat → ClassId) (Rs : List Nat) (ad : Nat → Nat) (g : Nat → va_E) (sz : Nat) (H : Heap) : Prop := ∃ (ad' : Nat → Nat) (g' : Nat → va_E), (∀ r ∈ Rs, ad' r = ad r) ∧ (∀ r ∈ Rs, r ≠ 13 → g' r = g r) ∧
  g' 13 = .inr (3, [.ref (ad' 14), .ref (ad' 15), .ref (ad' 16), .ref (ad' 17), .int 0, .int 0, .int 0, .int 20, .int 5, .int 1000, .int 100, .int 500, .long 0, .long 0]) ∧ g' 14 = aQ (ks 3) 30 (fun _ => none) ∧ g' 15 = aQ (ks 2) 30 (fun _ => none) ∧ g' 16 = aJ (ks 1) 21 (cF 21) ∧ g' 17 = aJ (ks 1) 21 (fun _ => 0) ∧
  zP D (17 :: 16 :: 15 :: 14 :: Rs) ad' g' H ∧ zD (zA Rs ad sz) (17 :: 16 :: 15 :: 14 :: Rs) ad' 
set_option maxHeartbeats 4000000 in
set_option maxRecDepth 100000 in
theorem c_X3_init (l : Launch) (hD0 : zD (fun _ => True) Rs ad) {g : Nat → va_E} (h0m : 13 ∈ Rs) (hn14 : 14 ∉ Rs) (hn15 : 15 ∉ Rs) (hn16 : 16 ∉ Rs) (hn17 : 17 ∉ Rs) (he : g 13 = .inr (3, [.null, .null, .null, .null, .int 0, .int 0, .int 0, .int 0, .int 0, .int 0, .int 0, .int 0, .long 0, .long 0])) (sz : Nat) :
    Met l yX3_init (Cond.code yX3_init cX3_init 2 none :: WS) (zRm 2 32 4 102) (fun a s => zPW D ks sz [.ref (ad 13)] (zP D Rs ad g) a s ∧ va_AO RX2 s ∧ va_AO RX1 s) (zQW none (nX3 D ks Rs ad g sz) (zA Rs ad sz)) 4 102 (zA Rs ad sz) := by
  refine Met.ofW (cc := cX3_init) (maxL := 2) (ret := none) (by decide +kernel) rfl ?_
  intro p e s m args below meth c s₁ B hml hv
  obtain ⟨⟨rfl, hsz, hP, hK⟩, hO2, hO1⟩ := hv
  rw [lg_entry_eq]
  have hx := B.exec
  have hb := B.bytes
  have hr := B.returns
  have hown : s.vm.findClass RX3 = some m.cls := findClass_of_methodNamed B.named
  have hlk := B.notSynchronized
  have hin : meth.name = "<init>" := (name_of_methodNamed B.named B.method).1
  have hT : ∀ w ∈ WS, w.before #[.ref (ad 13)] s = true := fun w hw => atoms_spec (ws := Cond.code yX3_init cX3_init 2 none :: WS) B.pre w (List.mem_cons_of_mem _ hw)
  have hl := lv_entry [.ref (ad 13)] (n := 2) (Nat.le_of_ble_eq_true rfl)
  generalize (lg_sl ([.ref (ad 13)]) ++ List.replicate (2 - (lg_sl ([.ref (ad 13)])).length) Slot.unset).toArray = ls at hl ⊢
  have hl : lv_has ls 2 [(0, .ref (ad 13))] := hl
  subst hsz
  have hD := hD0.self (sz := s.heap.size)
  have hA : ∀ q : Nat, s.heap.size ≤ q → zA Rs ad s.heap.size q := fun q h => Or.inr h
  have hS : va_S (zA Rs ad s.heap.size) s.heap s.heap [] := va_S.rf
  refine lv_aload_n hx hb dX3_init_0 rfl (lv_at hl 0 rfl) ?_
  refine z_obj hx hb hT hown ml_X3_1 hml hl.1 dX3_init_1 (Nat.le_of_ble_eq_true rfl) (Nat.le_of_ble_eq_true rfl) ?_
  refine lv_aload_n hx hb dX3_init_4 rfl (lv_at hl 0 rfl) ?_
  refine lv_bipush (v := 30) hx hb dX3_init_5 (by decide) ?_
  have hn0_14 : 14 ∉ Rs := hn14
  refine z_newq (k := 3) (r := 14) (N := 30) hx hb hT hown cl_X3_9 hO2 hK rfl hP hD hS hA hn0_14 (by decide) (by decide) (Nat.le_of_ble_eq_true rfl) (Nat.le_of_ble_eq_true rfl) (Nat.le_of_ble_eq_true rfl) dX3_init_7 (fun q14 H hP hD hS => ?_)
  obtain ⟨g1, hg1⟩ : ∃ z, z = va_up g 14 (aQ (ks 3) 30 (fun _ => none)) := ⟨_, rfl⟩
  rw [← hg1] at hP
  obtain ⟨ad1, had1⟩ : ∃ z, z = va_up ad 14 q14 := ⟨_, rfl⟩
  rw [← had1] at hP hD
  have a1_13 := (congrFun had1 13).trans ((va_up_ne _ _ (by decide)).trans rfl)
  have a1_14 : ad1 14 = q14 := by rw [had1, va_up_self]
  have hAo1 : ∀ r ∈ Rs, ad1 r = ad r := fun r hr => by rw [had1, va_up_ne _ _ (show r ≠ 14 from fun h => hn14 (h ▸ hr))]
  have e1_13 : g1 13 = Sum.inr (3, [.null, .null, .null, .null, .int 0, .int 0, .int 0, .int 0, .int 0, .int 0, .int 0, .int 0, .long 0, .long 0]) := by rw [hg1, va_up_ne _ _ (by decide)]; exact he
  have e1_14 : g1 14 = aQ (ks 3) 30 (fun _ => none) := by rw [hg1, va_up_self]
  have hGo1 : ∀ r ∈ Rs, r ≠ 13 → g1 r = g r := fun r hr h => by rw [hg1, va_up_ne _ _ (show r ≠ 14 from fun h2 => hn14 (h2 ▸ hr))]
  refine pa_X3_11 hx hb hT hown hK hin hP hD hS (List.mem_cons_of_mem _ h0m) a1_13 e1_13 (Nat.le_of_ble_eq_true rfl) dX3_init_10 (fun H locs hP hS => ?_)
  obtain ⟨g2, hg2⟩ : ∃ z, z = va_up g1 13 (.inr (3, List.set [.null, .null, .null, .null, .int 0, .int 0, .int 0, .int 0, .int 0, .int 0, .int 0, .int 0, .long 0, .long 0] 0 (.ref q14))) := ⟨_, rfl⟩
  rw [← hg2] at hP
  have e2_13 : g2 13 = Sum.inr (3, [.ref q14, .null, .null, .null, .int 0, .int 0, .int 0, .int 0, .int 0, .int 0, .int 0, .int 0, .long 0, .long 0]) := by rw [hg2, va_up_self]; rfl
  have e2_14 : g2 14 = aQ (ks 3) 30 (fun _ => none) := by rw [hg2, va_up_ne _ _ (by decide)]; exact e1_14
  have hGo2 : ∀ r ∈ Rs, r ≠ 13 → g2 r = g r := fun r hr h => by rw [hg2, va_up_ne _ _ h]; exact hGo1 r hr h
  refine lv_aload_n hx hb dX3_init_13 rfl (lv_at hl 0 rfl) ?_
  refine lv_bipush (v := 30) hx hb dX3_init_14 (by decide) ?_
  have hn2_15 : 15 ∉ (14 :: Rs) := by simp only [List.mem_cons, not_or]; exact ⟨by decide, hn15⟩
  refine z_newq (k := 2) (r := 15) (N := 30) hx hb hT hown cl_X3_15 hO1 hK rfl hP hD hS hA hn2_15 (by decide) (by decide) (Nat.le_of_ble_eq_true rfl) (Nat.le_of_ble_eq_true rfl) (Nat.le_of_ble_eq_true rfl) dX3_init_16 (fun q15 H hP hD hS => ?_)
  obtain ⟨g3, hg3⟩ : ∃ z, z = va_up g2 15 (aQ (ks 2) 30 (fun _ => none)) := ⟨_, rfl⟩
  rw [← hg3] at hP
  obtain ⟨ad3, had3⟩ : ∃ z, z = va_up ad1 15 q15 := ⟨_, rfl⟩
  rw [← had3] at hP hD
  have a3_13 := (congrFun had3 13).trans ((va_up_ne _ _ (by decide)).trans a1_13)
  have a3_14 := (congrFun had3 14).trans ((va_up_ne _ _ (by decide)).trans a1_14)
  have a3_15 : ad3 15 = q15 := by rw [had3, va_up_self]
  have hAo3 : ∀ r ∈ Rs, ad3 r = ad r := fun r hr => by rw [had3, va_up_ne _ _ (show r ≠ 15 from fun h => hn15 (h ▸ hr))]; exact hAo1 r hr
  have e3_13 : g3 13 = Sum.inr (3, [.ref q14, .null, .null, .null, .int 0, .int 0, .int 0, .int 0, .int 0, .int 0, .int 0, .int 0, .long 0, .long 0]) := by rw [hg3, va_up_ne _ _ (by decide)]; exact e2_13
  have e3_14 : g3 14 = aQ (ks 3) 30 (fun _ => none) := by rw [hg3, va_up_ne _ _ (by decide)]; exact e2_14
  have e3_15 : g3 15 = aQ (ks 2) 30 (fun _ => none) := by rw [hg3, va_up_self]
  have hGo3 : ∀ r ∈ Rs, r ≠ 13 → g3 r = g r := fun r hr h => by rw [hg3, va_up_ne _ _ (show r ≠ 15 from fun h2 => hn15 (h2 ▸ hr))]; exact hGo2 r hr h
  refine pa_X3_17 hx hb hT hown hK hin hP hD hS (List.mem_cons_of_mem _ (List.mem_cons_of_mem _ h0m)) a3_13 e3_13 (Nat.le_of_ble_eq_true rfl) dX3_init_19 (fun H locs hP hS => ?_)
  obtain ⟨g4, hg4⟩ : ∃ z, z = va_up g3 13 (.inr (3, List.set [.ref q14, .null, .null, .null, .int 0, .int 0, .int 0, .int 0, .int 0, .int 0, .int 0, .int 0, .long 0, .long 0] 1 (.ref q15))) := ⟨_, rfl⟩
  rw [← hg4] at hP
  have e4_13 : g4 13 = Sum.inr (3, [.ref q14, .ref q15, .null, .null, .int 0, .int 0, .int 0, .int 0, .int 0, .int 0, .int 0, .int 0, .long 0, .long 0]) := by rw [hg4, va_up_self]; rfl
  have e4_14 : g4 14 = aQ (ks 3) 30 (fun _ => none) := by rw [hg4, va_up_ne _ _ (by decide)]; exact e3_14
  have e4_15 : g4 15 = aQ (ks 2) 30 (fun _ => none) := by rw [hg4, va_up_ne _ _ (by decide)]; exact e3_15
  have hGo4 : ∀ r ∈ Rs, r ≠ 13 → g4 r = g r := fun r hr h => by rw [hg4, va_up_ne _ _ h]; exact hGo3 r hr h
  refine lv_aload_n hx hb dX3_init_22 rfl (lv_at hl 0 rfl) ?_
  refine lv_bipush (v := 21) hx hb dX3_init_23 (by decide) ?_
  have hn4_16 : 16 ∉ (15 :: 14 :: Rs) := by simp only [List.mem_cons, not_or]; exact ⟨by decide, by decide, hn16⟩
  refine z_newJ (r := 16) (N := 21) hx hb hT hK hP hD hS hA hn4_16 (by decide) (by decide) (by decide) (Nat.le_of_ble_eq_true rfl) (Nat.le_of_ble_eq_true rfl) dX3_init_25 (fun q16 H hP hD hS => ?_)
  obtain ⟨g5, hg5⟩ : ∃ z, z = va_up g4 16 (aJ (ks 1) 21 (fun _ => 0)) := ⟨_, rfl⟩
  rw [← hg5] at hP
  obtain ⟨ad5, had5⟩ : ∃ z, z = va_up ad3 16 q16 := ⟨_, rfl⟩
  rw [← had5] at hP hD
  have a5_13 := (congrFun had5 13).trans ((va_up_ne _ _ (by decide)).trans a3_13)
  have a5_14 := (congrFun had5 14).trans ((va_up_ne _ _ (by decide)).trans a3_14)
  have a5_15 := (congrFun had5 15).trans ((va_up_ne _ _ (by decide)).trans a3_15)
  have a5_16 : ad5 16 = q16 := by rw [had5, va_up_self]
  have hAo5 : ∀ r ∈ Rs, ad5 r = ad r := fun r hr => by rw [had5, va_up_ne _ _ (show r ≠ 16 from fun h => hn16 (h ▸ hr))]; exact hAo3 r hr
  have e5_13 : g5 13 = Sum.inr (3, [.ref q14, .ref q15, .null, .null, .int 0, .int 0, .int 0, .int 0, .int 0, .int 0, .int 0, .int 0, .long 0, .long 0]) := by rw [hg5, va_up_ne _ _ (by decide)]; exact e4_13
  have e5_14 : g5 14 = aQ (ks 3) 30 (fun _ => none) := by rw [hg5, va_up_ne _ _ (by decide)]; exact e4_14
  have e5_15 : g5 15 = aQ (ks 2) 30 (fun _ => none) := by rw [hg5, va_up_ne _ _ (by decide)]; exact e4_15
  have e5_16 : g5 16 = aJ (ks 1) 21 (fun _ => 0) := by rw [hg5, va_up_self]
  have hGo5 : ∀ r ∈ Rs, r ≠ 13 → g5 r = g r := fun r hr h => by rw [hg5, va_up_ne _ _ (show r ≠ 16 from fun h2 => hn16 (h2 ▸ hr))]; exact hGo4 r hr h
  refine pa_X3_21 hx hb hT hown hK hin hP hD hS (List.mem_cons_of_mem _ (List.mem_cons_of_mem _ (List.mem_cons_of_mem _ h0m))) a5_13 e5_13 (Nat.le_of_ble_eq_true rfl) dX3_init_27 (fun H locs hP hS => ?_)
  obtain ⟨g6, hg6⟩ : ∃ z, z = va_up g5 13 (.inr (3, List.set [.ref q14, .ref q15, .null, .null, .int 0, .int 0, .int 0, .int 0, .int 0, .int 0, .int 0, .int 0, .long 0, .long 0] 2 (.ref q16))) := ⟨_, rfl⟩
  rw [← hg6] at hP
  have e6_13 : g6 13 = Sum.inr (3, [.ref q14, .ref q15, .ref q16, .null, .int 0, .int 0, .int 0, .int 0, .int 0, .int 0, .int 0, .int 0, .long 0, .long 0]) := by rw [hg6, va_up_self]; rfl
  have e6_14 : g6 14 = aQ (ks 3) 30 (fun _ => none) := by rw [hg6, va_up_ne _ _ (by decide)]; exact e5_14
  have e6_15 : g6 15 = aQ (ks 2) 30 (fun _ => none) := by rw [hg6, va_up_ne _ _ (by decide)]; exact e5_15
  have e6_16 : g6 16 = aJ (ks 1) 21 (fun _ => 0) := by rw [hg6, va_up_ne _ _ (by decide)]; exact e5_16
  have hGo6 : ∀ r ∈ Rs, r ≠ 13 → g6 r = g r := fun r hr h => by rw [hg6, va_up_ne _ _ h]; exact hGo5 r hr h
  refine lv_aload_n hx hb dX3_init_30 rfl (lv_at hl 0 rfl) ?_
  refine lv_bipush (v := 21) hx hb dX3_init_31 (by decide) ?_
  have hn6_17 : 17 ∉ (16 :: 15 :: 14 :: Rs) := by simp only [List.mem_cons, not_or]; exact ⟨by decide, by decide, by decide, hn17⟩
  refine z_newJ (r := 17) (N := 21) hx hb hT hK hP hD hS hA hn6_17 (by decide) (by decide) (by decide) (Nat.le_of_ble_eq_true rfl) (Nat.le_of_ble_eq_true rfl) dX3_init_33 (fun q17 H hP hD hS => ?_)
  obtain ⟨g7, hg7⟩ : ∃ z, z = va_up g6 17 (aJ (ks 1) 21 (fun _ => 0)) := ⟨_, rfl⟩
  rw [← hg7] at hP
  obtain ⟨ad7, had7⟩ : ∃ z, z = va_up ad5 17 q17 := ⟨_, rfl⟩
  rw [← had7] at hP hD
  have a7_13 := (congrFun had7 13).trans ((va_up_ne _ _ (by decide)).trans a5_13)
  have a7_14 := (congrFun had7 14).trans ((va_up_ne _ _ (by decide)).trans a5_14)
  have a7_15 := (congrFun had7 15).trans ((va_up_ne _ _ (by decide)).trans a5_15)
  have a7_16 := (congrFun had7 16).trans ((va_up_ne _ _ (by decide)).trans a5_16)
  have a7_17 : ad7 17 = q17 := by rw [had7, va_up_self]
  have hAo7 : ∀ r ∈ Rs, ad7 r = ad r := fun r hr => by rw [had7, va_up_ne _ _ (show r ≠ 17 from fun h => hn17 (h ▸ hr))]; exact hAo5 r hr
  have e7_13 : g7 13 = Sum.inr (3, [.ref q14, .ref q15, .ref q16, .null, .int 0, .int 0, .int 0, .int 0, .int 0, .int 0, .int 0, .int 0, .long 0, .long 0]) := by rw [hg7, va_up_ne _ _ (by decide)]; exact e6_13
  have e7_14 : g7 14 = aQ (ks 3) 30 (fun _ => none) := by rw [hg7, va_up_ne _ _ (by decide)]; exact e6_14
  have e7_15 : g7 15 = aQ (ks 2) 30 (fun _ => none) := by rw [hg7, va_up_ne _ _ (by decide)]; exact e6_15
  have e7_16 : g7 16 = aJ (ks 1) 21 (fun _ => 0) := by rw [hg7, va_up_ne _ _ (by decide)]; exact e6_16
  have e7_17 : g7 17 = aJ (ks 1) 21 (fun _ => 0) := by rw [hg7, va_up_self]
  have hGo7 : ∀ r ∈ Rs, r ≠ 13 → g7 r = g r := fun r hr h => by rw [hg7, va_up_ne _ _ (show r ≠ 17 from fun h2 => hn17 (h2 ▸ hr))]; exact hGo6 r hr h
  refine pa_X3_25 hx hb hT hown hK hin hP hD hS (List.mem_cons_of_mem _ (List.mem_cons_of_mem _ (List.mem_cons_of_mem _ (List.mem_cons_of_mem _ h0m)))) a7_13 e7_13 (Nat.le_of_ble_eq_true rfl) dX3_init_35 (fun H locs hP hS => ?_)
  obtain ⟨g8, hg8⟩ : ∃ z, z = va_up g7 13 (.inr (3, List.set [.ref q14, .ref q15, .ref q16, .null, .int 0, .int 0, .int 0, .int 0, .int 0, .int 0, .int 0, .int 0, .long 0, .long 0] 3 (.ref q17))) := ⟨_, rfl⟩
  rw [← hg8] at hP
  have e8_13 : g8 13 = Sum.inr (3, [.ref q14, .ref q15, .ref q16, .ref q17, .int 0, .int 0, .int 0, .int 0, .int 0, .int 0, .int 0, .int 0, .long 0, .long 0]) := by rw [hg8, va_up_self]; rfl
  have e8_14 : g8 14 = aQ (ks 3) 30 (fun _ => none) := by rw [hg8, va_up_ne _ _ (by decide)]; exact e7_14
  have e8_15 : g8 15 = aQ (ks 2) 30 (fun _ => none) := by rw [hg8, va_up_ne _ _ (by decide)]; exact e7_15
  have e8_16 : g8 16 = aJ (ks 1) 21 (fun _ => 0) := by rw [hg8, va_up_ne _ _ (by decide)]; exact e7_16
  have e8_17 : g8 17 = aJ (ks 1) 21 (fun _ => 0) := by rw [hg8, va_up_ne _ _ (by decide)]; exact e7_17
  have hGo8 : ∀ r ∈ Rs, r ≠ 13 → g8 r = g r := fun r hr h => by rw [hg8, va_up_ne _ _ h]; exact hGo7 r hr h
  refine lv_iconst (v := 0) hx hb dX3_init_38 (by decide) ?_
  refine lv_istore_n (lv' := [(1, .int 0), (0, .ref (ad 13))]) hx hb dX3_init_39 rfl hl (by decide) rfl (fun ls hl => ?_)
  have Lp : ∀ (n k : Nat) (g' : Nat → va_E) (H : Heap) (locs : List Loc) (ls : Array Slot), k + n = 21 → (∀ r, r ≠ 16 → g' r = g8 r) → g' 16 = aJ (ks 1) 21 (cF k) → zP D (17 :: 16 :: 15 :: 14 :: Rs) ad7 g' H → va_S (zA Rs ad s.heap.size) s.heap H locs → lv_has ls 2 [(1, .int (nI k)), (0, .ref (ad 13))] → W p l e (zRm 2 32 4 102) s m #[.ref (ad 13)] below meth c H locs 4 102 (MQ below (zQW none (nX3 D ks Rs ad g s.heap.size) (zA Rs ad s.heap.size)) #[.ref (ad 13)] s 4 102 (zA Rs ad s.heap.size)) (F0 m 40 ls []) := by
    intro n
    induction n with
    | zero =>
      intro k g' H locs ls hkn hgo hg16 hP hS hl
      have hk0 : k = 21 := by omega
      subst hk0
      refine lv_iload_n hx hb dX3_init_40 rfl (lv_at hl 0 rfl) ?_
      refine lv_aload_n hx hb dX3_init_41 rfl (lv_at hl 1 rfl) ?_
      have hat13 := hP.at (List.mem_cons_of_mem _ (List.mem_cons_of_mem _ (List.mem_cons_of_mem _ (List.mem_cons_of_mem _ h0m)))) ((hgo 13 (by decide)).trans e8_13)
      rw [a7_13] at hat13
      refine gf_X3_21 hx hb hT hown hK hat13 rfl dX3_init_42 ?_
      have hat16 := hP.at (List.mem_cons_of_mem _ List.mem_cons_self) hg16
      rw [a7_16] at hat16
      refine z_jlen hx hb hK hat16 (v := 21) rfl dX3_init_45 ?_
      refine lv_icmp_ge (tgt := 64) hx hb dX3_init_46 (by decide) (fun c1 => ?_) (fun c1 => ?_)
      · skip
        obtain ⟨g0, hg0⟩ : ∃ z, z = g' := ⟨_, rfl⟩
        rw [← hg0] at hP
        have e0_13 := (congrFun hg0 13).trans ((hgo 13 (by decide)).trans e8_13)
        have e0_14 := (congrFun hg0 14).trans ((hgo 14 (by decide)).trans e8_14)
        have e0_15 := (congrFun hg0 15).trans ((hgo 15 (by decide)).trans e8_15)
        have e0_17 := (congrFun hg0 17).trans ((hgo 17 (by decide)).trans e8_17)
        have e0_16 := (congrFun hg0 16).trans hg16
        have hGo0 : ∀ r ∈ Rs, r ≠ 13 → g0 r = g r := fun r hr h => by rw [hg0, hgo r (fun h2 => hn16 (h2 ▸ hr))]; exact hGo8 r hr h
        refine lv_aload_n hx hb dX3_init_64 rfl (lv_at hl 1 rfl) ?_
        refine lv_bipush (v := 20) hx hb dX3_init_65 (by decide) ?_
        refine pa_X3_30 hx hb hT hown hK hP hD hS (List.mem_cons_of_mem _ (List.mem_cons_of_mem _ (List.mem_cons_of_mem _ (List.mem_cons_of_mem _ h0m)))) a7_13 e0_13 (Nat.le_of_ble_eq_true rfl) dX3_init_67 (fun H locs hP hS => ?_)
        obtain ⟨g9, hg9⟩ : ∃ z, z = va_up g0 13 (.inr (3, List.set [.ref q14, .ref q15, .ref q16, .ref q17, .int 0, .int 0, .int 0, .int 0, .int 0, .int 0, .int 0, .int 0, .long 0, .long 0] 7 (.int 20))) := ⟨_, rfl⟩
        rw [← hg9] at hP
        have e9_13 : g9 13 = Sum.inr (3, [.ref q14, .ref q15, .ref q16, .ref q17, .int 0, .int 0, .int 0, .int 20, .int 0, .int 0, .int 0, .int 0, .long 0, .long 0]) := by rw [hg9, va_up_self]; rfl
        have e9_14 : g9 14 = aQ (ks 3) 30 (fun _ => none) := by rw [hg9, va_up_ne _ _ (by decide)]; exact e0_14
        have e9_15 : g9 15 = aQ (ks 2) 30 (fun _ => none) := by rw [hg9, va_up_ne _ _ (by decide)]; exact e0_15
        have e9_16 : g9 16 = aJ (ks 1) 21 (cF 21) := by rw [hg9, va_up_ne _ _ (by decide)]; exact e0_16
        have e9_17 : g9 17 = aJ (ks 1) 21 (fun _ => 0) := by rw [hg9, va_up_ne _ _ (by decide)]; exact e0_17
        have hGo9 : ∀ r ∈ Rs, r ≠ 13 → g9 r = g r := fun r hr h => by rw [hg9, va_up_ne _ _ h]; exact hGo0 r hr h
        refine lv_aload_n hx hb dX3_init_70 rfl (lv_at hl 1 rfl) ?_
        refine lv_iconst (v := 5) hx hb dX3_init_71 (by decide) ?_
        refine pa_X3_34 hx hb hT hown hK hP hD hS (List.mem_cons_of_mem _ (List.mem_cons_of_mem _ (List.mem_cons_of_mem _ (List.mem_cons_of_mem _ h0m)))) a7_13 e9_13 (Nat.le_of_ble_eq_true rfl) dX3_init_72 (fun H locs hP hS => ?_)
        obtain ⟨g10, hg10⟩ : ∃ z, z = va_up g9 13 (.inr (3, List.set [.ref q14, .ref q15, .ref q16, .ref q17, .int 0, .int 0, .int 0, .int 20, .int 0, .int 0, .int 0, .int 0, .long 0, .long 0] 8 (.int 5))) := ⟨_, rfl⟩
        rw [← hg10] at hP
        have e10_13 : g10 13 = Sum.inr (3, [.ref q14, .ref q15, .ref q16, .ref q17, .int 0, .int 0, .int 0, .int 20, .int 5, .int 0, .int 0, .int 0, .long 0, .long 0]) := by rw [hg10, va_up_self]; rfl
        have e10_14 : g10 14 = aQ (ks 3) 30 (fun _ => none) := by rw [hg10, va_up_ne _ _ (by decide)]; exact e9_14
        have e10_15 : g10 15 = aQ (ks 2) 30 (fun _ => none) := by rw [hg10, va_up_ne _ _ (by decide)]; exact e9_15
        have e10_16 : g10 16 = aJ (ks 1) 21 (cF 21) := by rw [hg10, va_up_ne _ _ (by decide)]; exact e9_16
        have e10_17 : g10 17 = aJ (ks 1) 21 (fun _ => 0) := by rw [hg10, va_up_ne _ _ (by decide)]; exact e9_17
        have hGo10 : ∀ r ∈ Rs, r ≠ 13 → g10 r = g r := fun r hr h => by rw [hg10, va_up_ne _ _ h]; exact hGo9 r hr h
        refine lv_aload_n hx hb dX3_init_75 rfl (lv_at hl 1 rfl) ?_
        refine lv_sipush (v := 1000) hx hb dX3_init_76 (by decide) ?_
        refine pa_X3_37 hx hb hT hown hK hP hD hS (List.mem_cons_of_mem _ (List.mem_cons_of_mem _ (List.mem_cons_of_mem _ (List.mem_cons_of_mem _ h0m)))) a7_13 e10_13 (Nat.le_of_ble_eq_true rfl) dX3_init_79 (fun H locs hP hS => ?_)
        obtain ⟨g11, hg11⟩ : ∃ z, z = va_up g10 13 (.inr (3, List.set [.ref q14, .ref q15, .ref q16, .ref q17, .int 0, .int 0, .int 0, .int 20, .int 5, .int 0, .int 0, .int 0, .long 0, .long 0] 9 (.int 1000))) := ⟨_, rfl⟩
        rw [← hg11] at hP
        have e11_13 : g11 13 = Sum.inr (3, [.ref q14, .ref q15, .ref q16, .ref q17, .int 0, .int 0, .int 0, .int 20, .int 5, .int 1000, .int 0, .int 0, .long 0, .long 0]) := by rw [hg11, va_up_self]; rfl
        have e11_14 : g11 14 = aQ (ks 3) 30 (fun _ => none) := by rw [hg11, va_up_ne _ _ (by decide)]; exact e10_14
        have e11_15 : g11 15 = aQ (ks 2) 30 (fun _ => none) := by rw [hg11, va_up_ne _ _ (by decide)]; exact e10_15
        have e11_16 : g11 16 = aJ (ks 1) 21 (cF 21) := by rw [hg11, va_up_ne _ _ (by decide)]; exact e10_16
        have e11_17 : g11 17 = aJ (ks 1) 21 (fun _ => 0) := by rw [hg11, va_up_ne _ _ (by decide)]; exact e10_17
        have hGo11 : ∀ r ∈ Rs, r ≠ 13 → g11 r = g r := fun r hr h => by rw [hg11, va_up_ne _ _ h]; exact hGo10 r hr h
        refine lv_aload_n hx hb dX3_init_82 rfl (lv_at hl 1 rfl) ?_
        refine lv_bipush (v := 100) hx hb dX3_init_83 (by decide) ?_
        refine pa_X3_40 hx hb hT hown hK hP hD hS (List.mem_cons_of_mem _ (List.mem_cons_of_mem _ (List.mem_cons_of_mem _ (List.mem_cons_of_mem _ h0m)))) a7_13 e11_13 (Nat.le_of_ble_eq_true rfl) dX3_init_85 (fun H locs hP hS => ?_)
        obtain ⟨g12, hg12⟩ : ∃ z, z = va_up g11 13 (.inr (3, List.set [.ref q14, .ref q15, .ref q16, .ref q17, .int 0, .int 0, .int 0, .int 20, .int 5, .int 1000, .int 0, .int 0, .long 0, .long 0] 10 (.int 100))) := ⟨_, rfl⟩
        rw [← hg12] at hP
        have e12_13 : g12 13 = Sum.inr (3, [.ref q14, .ref q15, .ref q16, .ref q17, .int 0, .int 0, .int 0, .int 20, .int 5, .int 1000, .int 100, .int 0, .long 0, .long 0]) := by rw [hg12, va_up_self]; rfl
        have e12_14 : g12 14 = aQ (ks 3) 30 (fun _ => none) := by rw [hg12, va_up_ne _ _ (by decide)]; exact e11_14
        have e12_15 : g12 15 = aQ (ks 2) 30 (fun _ => none) := by rw [hg12, va_up_ne _ _ (by decide)]; exact e11_15
        have e12_16 : g12 16 = aJ (ks 1) 21 (cF 21) := by rw [hg12, va_up_ne _ _ (by decide)]; exact e11_16
        have e12_17 : g12 17 = aJ (ks 1) 21 (fun _ => 0) := by rw [hg12, va_up_ne _ _ (by decide)]; exact e11_17
        have hGo12 : ∀ r ∈ Rs, r ≠ 13 → g12 r = g r := fun r hr h => by rw [hg12, va_up_ne _ _ h]; exact hGo11 r hr h
        refine lv_aload_n hx hb dX3_init_88 rfl (lv_at hl 1 rfl) ?_
        refine lv_sipush (v := 500) hx hb dX3_init_89 (by decide) ?_
        refine pa_X3_43 hx hb hT hown hK hP hD hS (List.mem_cons_of_mem _ (List.mem_cons_of_mem _ (List.mem_cons_of_mem _ (List.mem_cons_of_mem _ h0m)))) a7_13 e12_13 (Nat.le_of_ble_eq_true rfl) dX3_init_92 (fun H locs hP hS => ?_)
        obtain ⟨g13, hg13⟩ : ∃ z, z = va_up g12 13 (.inr (3, List.set [.ref q14, .ref q15, .ref q16, .ref q17, .int 0, .int 0, .int 0, .int 20, .int 5, .int 1000, .int 100, .int 0, .long 0, .long 0] 11 (.int 500))) := ⟨_, rfl⟩
        rw [← hg13] at hP
        have e13_13 : g13 13 = Sum.inr (3, [.ref q14, .ref q15, .ref q16, .ref q17, .int 0, .int 0, .int 0, .int 20, .int 5, .int 1000, .int 100, .int 500, .long 0, .long 0]) := by rw [hg13, va_up_self]; rfl
        have e13_14 : g13 14 = aQ (ks 3) 30 (fun _ => none) := by rw [hg13, va_up_ne _ _ (by decide)]; exact e12_14
        have e13_15 : g13 15 = aQ (ks 2) 30 (fun _ => none) := by rw [hg13, va_up_ne _ _ (by decide)]; exact e12_15
        have e13_16 : g13 16 = aJ (ks 1) 21 (cF 21) := by rw [hg13, va_up_ne _ _ (by decide)]; exact e12_16
        have e13_17 : g13 17 = aJ (ks 1) 21 (fun _ => 0) := by rw [hg13, va_up_ne _ _ (by decide)]; exact e12_17
        have hGo13 : ∀ r ∈ Rs, r ≠ 13 → g13 r = g r := fun r hr h => by rw [hg13, va_up_ne _ _ h]; exact hGo12 r hr h
        refine zW_v hx hb hr hlk hS (Nat.le_of_ble_eq_true rfl) (Nat.le_of_ble_eq_true rfl) dX3_init_95 ⟨ad7, g13, hAo7, hGo13, ?_, e13_14, e13_15, e13_16, e13_17, hP, hD⟩
        rw [e13_13, a7_14, a7_15, a7_16, a7_17]
      · exact absurd (nI_le (a := 21) (b := 21) (Nat.le_refl _) (by decide)) c1
    | succ n ih =>
      intro k g' H locs ls hkn hgo hg16 hP hS hl
      have hk : k < 21 := by omega
      refine lv_iload_n hx hb dX3_init_40 rfl (lv_at hl 0 rfl) ?_
      refine lv_aload_n hx hb dX3_init_41 rfl (lv_at hl 1 rfl) ?_
      have hat13 := hP.at (List.mem_cons_of_mem _ (List.mem_cons_of_mem _ (List.mem_cons_of_mem _ (List.mem_cons_of_mem _ h0m)))) ((hgo 13 (by decide)).trans e8_13)
      rw [a7_13] at hat13
      refine gf_X3_21 hx hb hT hown hK hat13 rfl dX3_init_42 ?_
      have hat16 := hP.at (List.mem_cons_of_mem _ List.mem_cons_self) hg16
      rw [a7_16] at hat16
      refine z_jlen hx hb hK hat16 (v := 21) rfl dX3_init_45 ?_
      refine lv_icmp_ge (tgt := 64) hx hb dX3_init_46 (by decide) (fun c1 => ?_) (fun c1 => ?_)
      · exact absurd c1 (nI_ge (a := k) (b := 21) hk (by decide))
      · skip
        refine lv_aload_n hx hb dX3_init_49 rfl (lv_at hl 1 rfl) ?_
        refine gf_X3_21 hx hb hT hown hK hat13 rfl dX3_init_50 ?_
        refine lv_iload_n hx hb dX3_init_53 rfl (lv_at hl 0 rfl) ?_
        refine lv_ldc2 (v := (-1)) hx hb hown (hT _ kl_X3_28) dX3_init_54 ?_
        rw [← a7_16]
        refine z_last hx hb hK hP hD hS (List.mem_cons_of_mem _ List.mem_cons_self) hg16 (vp_in_nI hk (by decide)) dX3_init_57 (fun H1 locs1 hP hS => ?_)
        rw [nI_clamp (by omega), cF_up] at hP
        refine lv_iinc (v := nI (k + 1)) (lv' := [(1, .int (nI (k + 1))), (0, .ref (ad 13))]) hx hb dX3_init_58 hl (k := 0) rfl (nI_1 k) (by decide) rfl (fun ls hl => ?_)
        refine lv_goto (tgt := 40) hx hb dX3_init_61 (by decide) ?_
        exact ih (k + 1) _ _ _ _ (by omega) (fun r h => (va_up_ne _ _ h).trans (hgo r h)) (va_up_self _ _ _) hP hS hl
  exact Lp 21 0 g8 H locs ls rfl (fun _ _ => rfl) (e8_16.trans (by rw [cF_0])) hP hS hl
end ZB4
