/-! the constructors of the office and of the reference -/
section ZB4
variable {D : va_G} {ks : Nat → ClassId} {ad : Nat → Nat} {np ng : Nat} {G : Nat → Nat} {MI : Nat → Nat → Int32} {MJ : Nat → Nat → Int64} {XI : Nat → Nat → Int32} {XJ : Nat → Nat → Int64} {Rs : List Nat}
section
variable {p : Program} {l : Launch} {e : Env} {R : Room} {s : State} {m : MethodId} {args : Array Value} {below : List Frame} {meth : Method} {c : Code} {H : Heap} {locs : List Loc} {cells slots : Nat} {Q : State → Prop}
variable {cc : ByteArray} {pc : Nat} {ls : Array Slot} {rest : List Value} {A : Nat → Prop} {g : Nat → va_E}
theorem z_app {q r : Nat} {e0 : va_E} (hP : va_P D vwCl (zL Rs ad g ++ [(q, e0)]) H) (hD : va_D A (zL Rs ad g ++ [(q, e0)])) (hD0 : zD A Rs ad) (hr : r ∉ Rs) : zP D (r :: Rs) (va_up ad r q) (va_up g r e0) H ∧ zD A (r :: Rs) (va_up ad r q) := by
  have hl : (zL Rs ad g).length = Rs.length := by simp [zL]
  have hq : (zL Rs ad g ++ [(q, e0)])[Rs.length]? = some (q, e0) := by rw [← hl]; simp
  refine ⟨zP.push (fun x hx => ?_) (hP _ _ hq) hr, hD0.push hr (fun x hx e => ?_) (hD.2 _ _ hq)⟩
  · obtain ⟨k, h1, h2⟩ := zL_at g hx (ad := ad)
    exact hP k (ad x, g x) (by rw [List.getElem?_append_left (List.getElem?_eq_some_iff.mp h2).1]; exact h2)
  · obtain ⟨k, h1, h2⟩ := zL_at g hx (ad := ad)
    have hlt := (List.getElem?_eq_some_iff.mp h2).1
    have := hD.1 k Rs.length (ad x, g x) (q, e0) (by rw [List.getElem?_append_left hlt]; exact h2) hq e
    omega
theorem z_newq (hx : p.tables.exec = Jvm.exec) (hb : c.code = cc) (hT : ∀ w ∈ WS, w.before args s = true) {own C : String} {index k : Nat} (hown : s.vm.findClass own = some m.cls) (hcl : Cond.classLink own index C ∈ WS) (hover : va_AO C s) (hK : zK D ks s) (hk : (zT ks)[k]? = some (ks k, .object C)) (hP : zP D Rs ad g H) (hD : zD A Rs ad) (hS : va_S A s.heap H locs) (hA : ∀ q : Nat, s.heap.size ≤ q → A q) {r : Nat} (hr : r ∉ Rs) {n : Int32} {N : Nat} (hn : ¬ n < 0) (hN : n.toNatClampNeg = N) (hbytes : N * 4 ≤ 536870912) (hcells : cells + 1 ≤ R.cells) (hslots : slots + N ≤ R.slots) (hdg : decode cc pc = .ok (.anewarray index, 3))
    (kk : ∀ (q : Nat) (H1 : Heap), zP D (r :: Rs) (va_up ad r q) (va_up g r (aQ (ks k) N (fun _ => none))) H1 → zD A (r :: Rs) (va_up ad r q) → va_S A s.heap H1 locs → W p l e R s m args below meth c H1 locs (cells + 1) (slots + N) Q (F0 m (pc + 3) ls (.ref q :: rest))) : W p l e R s m args below meth c H locs cells slots Q (F0 m pc ls (.int n :: rest)) := by
  refine va_newq hx hb hown (hT _ hcl) hover hK.1 hP.ws (hD.ws g) hS hA hn hN hbytes hcells hslots hdg (fun q cA H1 hK1 hP1 hD1 hS1 => ?_)
  have h4 := (hK1.2 4 (cA, .object C) rfl).2
  have h0 := (hK.1.2 k _ hk).2
  obtain ⟨kA, comp, -, -, -, h5⟩ := h4
  obtain ⟨kA2, comp2, -, -, -, h6⟩ := h0
  have hc : cA = ks k := Option.some.inj (h5.symm.trans h6)
  subst hc
  obtain ⟨z1, z2⟩ := z_app hP1 hD1 hD hr
  exact kk q H1 z1 z2 hS1
theorem z_newI (hx : p.tables.exec = Jvm.exec) (hb : c.code = cc) (hT : ∀ w ∈ WS, w.before args s = true) (hK : zK D ks s) (hP : zP D Rs ad g H) (hD : zD A Rs ad) (hS : va_S A s.heap H locs) (hA : ∀ q : Nat, s.heap.size ≤ q → A q) {r : Nat} (hr : r ∉ Rs) {n : Int32} {N : Nat} (hn : ¬ n < 0) (hN : n.toNatClampNeg = N) (hbytes : N * componentBytes .int ≤ 536870912) (hcells : cells + 1 ≤ R.cells) (hslots : slots + N ≤ R.slots) (hdg : decode cc pc = .ok (.newarray .int, 2))
    (kk : ∀ (q : Nat) (H1 : Heap), zP D (r :: Rs) (va_up ad r q) (va_up g r (aI (ks 0) N (fun _ => 0))) H1 → zD A (r :: Rs) (va_up ad r q) → va_S A s.heap H1 locs → W p l e R s m args below meth c H1 locs (cells + 1) (slots + N) Q (F0 m (pc + 2) ls (.ref q :: rest))) : W p l e R s m args below meth c H locs cells slots Q (F0 m pc ls (.int n :: rest)) := by
  refine va_newa (atype := .int) (a0 := (N, .inl (fun _ => 0))) hx hb (hT _ ac_int) rfl hK.1 hP.ws (hD.ws g) hS hA (fun cA => rfl) hn hN hbytes hcells hslots hdg (fun q cA H1 hK1 hP1 hD1 hS1 => ?_)
  have h4 : s.vm.findClass _ = some cA := (hK1.2 4 (cA, .int) rfl).2
  have h0 : s.vm.findClass _ = some (ks 0) := (hK.1.2 0 (ks 0, .int) rfl).2
  have hc : cA = ks 0 := Option.some.inj (h4.symm.trans h0)
  subst hc
  obtain ⟨z1, z2⟩ := z_app hP1 hD1 hD hr
  exact kk q H1 z1 z2 hS1
theorem z_newJ (hx : p.tables.exec = Jvm.exec) (hb : c.code = cc) (hT : ∀ w ∈ WS, w.before args s = true) (hK : zK D ks s) (hP : zP D Rs ad g H) (hD : zD A Rs ad) (hS : va_S A s.heap H locs) (hA : ∀ q : Nat, s.heap.size ≤ q → A q) {r : Nat} (hr : r ∉ Rs) {n : Int32} {N : Nat} (hn : ¬ n < 0) (hN : n.toNatClampNeg = N) (hbytes : N * componentBytes .long ≤ 536870912) (hcells : cells + 1 ≤ R.cells) (hslots : slots + N ≤ R.slots) (hdg : decode cc pc = .ok (.newarray .long, 2))
    (kk : ∀ (q : Nat) (H1 : Heap), zP D (r :: Rs) (va_up ad r q) (va_up g r (aJ (ks 1) N (fun _ => 0))) H1 → zD A (r :: Rs) (va_up ad r q) → va_S A s.heap H1 locs → W p l e R s m args below meth c H1 locs (cells + 1) (slots + N) Q (F0 m (pc + 2) ls (.ref q :: rest))) : W p l e R s m args below meth c H locs cells slots Q (F0 m pc ls (.int n :: rest)) := by
  refine va_newa (atype := .long) (a0 := (N, .inr (.inl (fun _ => 0)))) hx hb (hT _ ac_long) rfl hK.1 hP.ws (hD.ws g) hS hA (fun cA => rfl) hn hN hbytes hcells hslots hdg (fun q cA H1 hK1 hP1 hD1 hS1 => ?_)
  have h4 : s.vm.findClass _ = some cA := (hK1.2 4 (cA, .long) rfl).2
  have h0 : s.vm.findClass _ = some (ks 1) := (hK.1.2 1 (ks 1, .long) rfl).2
  have hc : cA = ks 1 := Option.some.inj (h4.symm.trans h0)
  subst hc
  obtain ⟨z1, z2⟩ := z_app hP1 hD1 hD hr
  exact kk q H1 z1 z2 hS1
theorem pa_X3_11 {a : Nat} (hx : p.tables.exec = Jvm.exec) (hb : c.code = cc) (hT : ∀ w ∈ WS, w.before args s = true) (hown : s.vm.findClass RX3 = some m.cls) (hK : zK D ks s) (hin : meth.name = "<init>") (hP : zP D Rs ad g H) (hD : zD A Rs ad) (hS : va_S A s.heap H locs) {r : Nat} (hr : r ∈ Rs) (har : ad r = a) {fs : List Value} {v : Nat} (he : g r = .inr (3, fs)) (hl : 0 < fs.length) (hdg : decode cc pc = .ok (.putfield 11, 3)) (kk : ∀ (H1 : Heap) (locs1 : List Loc), zP D Rs ad (va_up g r (.inr (3, fs.set 0 (.ref v)))) H1 → va_S A s.heap H1 locs1 → W p l e R s m args below meth c H1 locs1 cells slots Q (F0 m (pc + 3) ls rest)) : W p l e R s m args below meth c H locs cells slots Q (F0 m pc ls (.ref v :: .ref a :: rest)) := by
  subst har
  exact pg_X3_11 hx hb hT hown hK hin hP hD hS hr he hl hdg kk
theorem pa_X3_17 {a : Nat} (hx : p.tables.exec = Jvm.exec) (hb : c.code = cc) (hT : ∀ w ∈ WS, w.before args s = true) (hown : s.vm.findClass RX3 = some m.cls) (hK : zK D ks s) (hin : meth.name = "<init>") (hP : zP D Rs ad g H) (hD : zD A Rs ad) (hS : va_S A s.heap H locs) {r : Nat} (hr : r ∈ Rs) (har : ad r = a) {fs : List Value} {v : Nat} (he : g r = .inr (3, fs)) (hl : 1 < fs.length) (hdg : decode cc pc = .ok (.putfield 17, 3)) (kk : ∀ (H1 : Heap) (locs1 : List Loc), zP D Rs ad (va_up g r (.inr (3, fs.set 1 (.ref v)))) H1 → va_S A s.heap H1 locs1 → W p l e R s m args below meth c H1 locs1 cells slots Q (F0 m (pc + 3) ls rest)) : W p l e R s m args below meth c H locs cells slots Q (F0 m pc ls (.ref v :: .ref a :: rest)) := by
  subst har
  exact pg_X3_17 hx hb hT hown hK hin hP hD hS hr he hl hdg kk
theorem pa_X3_21 {a : Nat} (hx : p.tables.exec = Jvm.exec) (hb : c.code = cc) (hT : ∀ w ∈ WS, w.before args s = true) (hown : s.vm.findClass RX3 = some m.cls) (hK : zK D ks s) (hin : meth.name = "<init>") (hP : zP D Rs ad g H) (hD : zD A Rs ad) (hS : va_S A s.heap H locs) {r : Nat} (hr : r ∈ Rs) (har : ad r = a) {fs : List Value} {v : Nat} (he : g r = .inr (3, fs)) (hl : 2 < fs.length) (hdg : decode cc pc = .ok (.putfield 21, 3)) (kk : ∀ (H1 : Heap) (locs1 : List Loc), zP D Rs ad (va_up g r (.inr (3, fs.set 2 (.ref v)))) H1 → va_S A s.heap H1 locs1 → W p l e R s m args below meth c H1 locs1 cells slots Q (F0 m (pc + 3) ls rest)) : W p l e R s m args below meth c H locs cells slots Q (F0 m pc ls (.ref v :: .ref a :: rest)) := by
  subst har
  exact pg_X3_21 hx hb hT hown hK hin hP hD hS hr he hl hdg kk
theorem pa_X3_25 {a : Nat} (hx : p.tables.exec = Jvm.exec) (hb : c.code = cc) (hT : ∀ w ∈ WS, w.before args s = true) (hown : s.vm.findClass RX3 = some m.cls) (hK : zK D ks s) (hin : meth.name = "<init>") (hP : zP D Rs ad g H) (hD : zD A Rs ad) (hS : va_S A s.heap H locs) {r : Nat} (hr : r ∈ Rs) (har : ad r = a) {fs : List Value} {v : Nat} (he : g r = .inr (3, fs)) (hl : 3 < fs.length) (hdg : decode cc pc = .ok (.putfield 25, 3)) (kk : ∀ (H1 : Heap) (locs1 : List Loc), zP D Rs ad (va_up g r (.inr (3, fs.set 3 (.ref v)))) H1 → va_S A s.heap H1 locs1 → W p l e R s m args below meth c H1 locs1 cells slots Q (F0 m (pc + 3) ls rest)) : W p l e R s m args below meth c H locs cells slots Q (F0 m pc ls (.ref v :: .ref a :: rest)) := by
  subst har
  exact pg_X3_25 hx hb hT hown hK hin hP hD hS hr he hl hdg kk
theorem pa_X3_30 {a : Nat} (hx : p.tables.exec = Jvm.exec) (hb : c.code = cc) (hT : ∀ w ∈ WS, w.before args s = true) (hown : s.vm.findClass RX3 = some m.cls) (hK : zK D ks s) (hP : zP D Rs ad g H) (hD : zD A Rs ad) (hS : va_S A s.heap H locs) {r : Nat} (hr : r ∈ Rs) (har : ad r = a) {fs : List Value} {v : Int32} (he : g r = .inr (3, fs)) (hl : 7 < fs.length) (hdg : decode cc pc = .ok (.putfield 30, 3)) (kk : ∀ (H1 : Heap) (locs1 : List Loc), zP D Rs ad (va_up g r (.inr (3, fs.set 7 (.int v)))) H1 → va_S A s.heap H1 locs1 → W p l e R s m args below meth c H1 locs1 cells slots Q (F0 m (pc + 3) ls rest)) : W p l e R s m args below meth c H locs cells slots Q (F0 m pc ls (.int v :: .ref a :: rest)) := by
  subst har
  exact pg_X3_30 hx hb hT hown hK hP hD hS hr he hl hdg kk
theorem pa_X3_34 {a : Nat} (hx : p.tables.exec = Jvm.exec) (hb : c.code = cc) (hT : ∀ w ∈ WS, w.before args s = true) (hown : s.vm.findClass RX3 = some m.cls) (hK : zK D ks s) (hP : zP D Rs ad g H) (hD : zD A Rs ad) (hS : va_S A s.heap H locs) {r : Nat} (hr : r ∈ Rs) (har : ad r = a) {fs : List Value} {v : Int32} (he : g r = .inr (3, fs)) (hl : 8 < fs.length) (hdg : decode cc pc = .ok (.putfield 34, 3)) (kk : ∀ (H1 : Heap) (locs1 : List Loc), zP D Rs ad (va_up g r (.inr (3, fs.set 8 (.int v)))) H1 → va_S A s.heap H1 locs1 → W p l e R s m args below meth c H1 locs1 cells slots Q (F0 m (pc + 3) ls rest)) : W p l e R s m args below meth c H locs cells slots Q (F0 m pc ls (.int v :: .ref a :: rest)) := by
  subst har
  exact pg_X3_34 hx hb hT hown hK hP hD hS hr he hl hdg kk
theorem pa_X3_37 {a : Nat} (hx : p.tables.exec = Jvm.exec) (hb : c.code = cc) (hT : ∀ w ∈ WS, w.before args s = true) (hown : s.vm.findClass RX3 = some m.cls) (hK : zK D ks s) (hP : zP D Rs ad g H) (hD : zD A Rs ad) (hS : va_S A s.heap H locs) {r : Nat} (hr : r ∈ Rs) (har : ad r = a) {fs : List Value} {v : Int32} (he : g r = .inr (3, fs)) (hl : 9 < fs.length) (hdg : decode cc pc = .ok (.putfield 37, 3)) (kk : ∀ (H1 : Heap) (locs1 : List Loc), zP D Rs ad (va_up g r (.inr (3, fs.set 9 (.int v)))) H1 → va_S A s.heap H1 locs1 → W p l e R s m args below meth c H1 locs1 cells slots Q (F0 m (pc + 3) ls rest)) : W p l e R s m args below meth c H locs cells slots Q (F0 m pc ls (.int v :: .ref a :: rest)) := by
  subst har
  exact pg_X3_37 hx hb hT hown hK hP hD hS hr he hl hdg kk
theorem pa_X3_40 {a : Nat} (hx : p.tables.exec = Jvm.exec) (hb : c.code = cc) (hT : ∀ w ∈ WS, w.before args s = true) (hown : s.vm.findClass RX3 = some m.cls) (hK : zK D ks s) (hP : zP D Rs ad g H) (hD : zD A Rs ad) (hS : va_S A s.heap H locs) {r : Nat} (hr : r ∈ Rs) (har : ad r = a) {fs : List Value} {v : Int32} (he : g r = .inr (3, fs)) (hl : 10 < fs.length) (hdg : decode cc pc = .ok (.putfield 40, 3)) (kk : ∀ (H1 : Heap) (locs1 : List Loc), zP D Rs ad (va_up g r (.inr (3, fs.set 10 (.int v)))) H1 → va_S A s.heap H1 locs1 → W p l e R s m args below meth c H1 locs1 cells slots Q (F0 m (pc + 3) ls rest)) : W p l e R s m args below meth c H locs cells slots Q (F0 m pc ls (.int v :: .ref a :: rest)) := by
  subst har
  exact pg_X3_40 hx hb hT hown hK hP hD hS hr he hl hdg kk
theorem pa_X3_43 {a : Nat} (hx : p.tables.exec = Jvm.exec) (hb : c.code = cc) (hT : ∀ w ∈ WS, w.before args s = true) (hown : s.vm.findClass RX3 = some m.cls) (hK : zK D ks s) (hP : zP D Rs ad g H) (hD : zD A Rs ad) (hS : va_S A s.heap H locs) {r : Nat} (hr : r ∈ Rs) (har : ad r = a) {fs : List Value} {v : Int32} (he : g r = .inr (3, fs)) (hl : 11 < fs.length) (hdg : decode cc pc = .ok (.putfield 43, 3)) (kk : ∀ (H1 : Heap) (locs1 : List Loc), zP D Rs ad (va_up g r (.inr (3, fs.set 11 (.int v)))) H1 → va_S A s.heap H1 locs1 → W p l e R s m args below meth c H1 locs1 cells slots Q (F0 m (pc + 3) ls rest)) : W p l e R s m args below meth c H locs cells slots Q (F0 m pc ls (.int v :: .ref a :: rest)) := by
  subst har
  exact pg_X3_43 hx hb hT hown hK hP hD hS hr he hl hdg kk
theorem pa_X4_7 {a : Nat} (hx : p.tables.exec = Jvm.exec) (hb : c.code = cc) (hT : ∀ w ∈ WS, w.before args s = true) (hown : s.vm.findClass RX4 = some m.cls) (hK : zK D ks s) (hP : zP D Rs ad g H) (hD : zD A Rs ad) (hS : va_S A s.heap H locs) {r : Nat} (hr : r ∈ Rs) (har : ad r = a) {fs : List Value} {v : Int32} (he : g r = .inr (4, fs)) (hl : 1 < fs.length) (hdg : decode cc pc = .ok (.putfield 7, 3)) (kk : ∀ (H1 : Heap) (locs1 : List Loc), zP D Rs ad (va_up g r (.inr (4, fs.set 1 (.int v)))) H1 → va_S A s.heap H1 locs1 → W p l e R s m args below meth c H1 locs1 cells slots Q (F0 m (pc + 3) ls rest)) : W p l e R s m args below meth c H locs cells slots Q (F0 m pc ls (.int v :: .ref a :: rest)) := by
  subst har
  exact pg_X4_7 hx hb hT hown hK hP hD hS hr he hl hdg kk
theorem pa_X4_13 {a : Nat} (hx : p.tables.exec = Jvm.exec) (hb : c.code = cc) (hT : ∀ w ∈ WS, w.before args s = true) (hown : s.vm.findClass RX4 = some m.cls) (hK : zK D ks s) (hP : zP D Rs ad g H) (hD : zD A Rs ad) (hS : va_S A s.heap H locs) {r : Nat} (hr : r ∈ Rs) (har : ad r = a) {fs : List Value} {v : Int32} (he : g r = .inr (4, fs)) (hl : 2 < fs.length) (hdg : decode cc pc = .ok (.putfield 13, 3)) (kk : ∀ (H1 : Heap) (locs1 : List Loc), zP D Rs ad (va_up g r (.inr (4, fs.set 2 (.int v)))) H1 → va_S A s.heap H1 locs1 → W p l e R s m args below meth c H1 locs1 cells slots Q (F0 m (pc + 3) ls rest)) : W p l e R s m args below meth c H locs cells slots Q (F0 m pc ls (.int v :: .ref a :: rest)) := by
  subst har
  exact pg_X4_13 hx hb hT hown hK hP hD hS hr he hl hdg kk
theorem pa_X4_16 {a : Nat} (hx : p.tables.exec = Jvm.exec) (hb : c.code = cc) (hT : ∀ w ∈ WS, w.before args s = true) (hown : s.vm.findClass RX4 = some m.cls) (hK : zK D ks s) (hP : zP D Rs ad g H) (hD : zD A Rs ad) (hS : va_S A s.heap H locs) {r : Nat} (hr : r ∈ Rs) (har : ad r = a) {fs : List Value} {v : Int32} (he : g r = .inr (4, fs)) (hl : 3 < fs.length) (hdg : decode cc pc = .ok (.putfield 16, 3)) (kk : ∀ (H1 : Heap) (locs1 : List Loc), zP D Rs ad (va_up g r (.inr (4, fs.set 3 (.int v)))) H1 → va_S A s.heap H1 locs1 → W p l e R s m args below meth c H1 locs1 cells slots Q (F0 m (pc + 3) ls rest)) : W p l e R s m args below meth c H locs cells slots Q (F0 m pc ls (.int v :: .ref a :: rest)) := by
  subst har
  exact pg_X4_16 hx hb hT hown hK hP hD hS hr he hl hdg kk
theorem pa_X4_19 {a : Nat} (hx : p.tables.exec = Jvm.exec) (hb : c.code = cc) (hT : ∀ w ∈ WS, w.before args s = true) (hown : s.vm.findClass RX4 = some m.cls) (hK : zK D ks s) (hP : zP D Rs ad g H) (hD : zD A Rs ad) (hS : va_S A s.heap H locs) {r : Nat} (hr : r ∈ Rs) (har : ad r = a) {fs : List Value} {v : Int32} (he : g r = .inr (4, fs)) (hl : 4 < fs.length) (hdg : decode cc pc = .ok (.putfield 19, 3)) (kk : ∀ (H1 : Heap) (locs1 : List Loc), zP D Rs ad (va_up g r (.inr (4, fs.set 4 (.int v)))) H1 → va_S A s.heap H1 locs1 → W p l e R s m args below meth c H1 locs1 cells slots Q (F0 m (pc + 3) ls rest)) : W p l e R s m args below meth c H locs cells slots Q (F0 m pc ls (.int v :: .ref a :: rest)) := by
  subst har
  exact pg_X4_19 hx hb hT hown hK hP hD hS hr he hl hdg kk
theorem pa_X4_22 {a : Nat} (hx : p.tables.exec = Jvm.exec) (hb : c.code = cc) (hT : ∀ w ∈ WS, w.before args s = true) (hown : s.vm.findClass RX4 = some m.cls) (hK : zK D ks s) (hP : zP D Rs ad g H) (hD : zD A Rs ad) (hS : va_S A s.heap H locs) {r : Nat} (hr : r ∈ Rs) (har : ad r = a) {fs : List Value} {v : Int32} (he : g r = .inr (4, fs)) (hl : 5 < fs.length) (hdg : decode cc pc = .ok (.putfield 22, 3)) (kk : ∀ (H1 : Heap) (locs1 : List Loc), zP D Rs ad (va_up g r (.inr (4, fs.set 5 (.int v)))) H1 → va_S A s.heap H1 locs1 → W p l e R s m args below meth c H1 locs1 cells slots Q (F0 m (pc + 3) ls rest)) : W p l e R s m args below meth c H locs cells slots Q (F0 m pc ls (.int v :: .ref a :: rest)) := by
  subst har
  exact pg_X4_22 hx hb hT hown hK hP hD hS hr he hl hdg kk
theorem pa_X4_25 {a : Nat} (hx : p.tables.exec = Jvm.exec) (hb : c.code = cc) (hT : ∀ w ∈ WS, w.before args s = true) (hown : s.vm.findClass RX4 = some m.cls) (hK : zK D ks s) (hin : meth.name = "<init>") (hP : zP D Rs ad g H) (hD : zD A Rs ad) (hS : va_S A s.heap H locs) {r : Nat} (hr : r ∈ Rs) (har : ad r = a) {fs : List Value} {v : Nat} (he : g r = .inr (4, fs)) (hl : 7 < fs.length) (hdg : decode cc pc = .ok (.putfield 25, 3)) (kk : ∀ (H1 : Heap) (locs1 : List Loc), zP D Rs ad (va_up g r (.inr (4, fs.set 7 (.ref v)))) H1 → va_S A s.heap H1 locs1 → W p l e R s m args below meth c H1 locs1 cells slots Q (F0 m (pc + 3) ls rest)) : W p l e R s m args below meth c H locs cells slots Q (F0 m pc ls (.ref v :: .ref a :: rest)) := by
  subst har
  exact pg_X4_25 hx hb hT hown hK hin hP hD hS hr he hl hdg kk
theorem pa_X4_29 {a : Nat} (hx : p.tables.exec = Jvm.exec) (hb : c.code = cc) (hT : ∀ w ∈ WS, w.before args s = true) (hown : s.vm.findClass RX4 = some m.cls) (hK : zK D ks s) (hin : meth.name = "<init>") (hP : zP D Rs ad g H) (hD : zD A Rs ad) (hS : va_S A s.heap H locs) {r : Nat} (hr : r ∈ Rs) (har : ad r = a) {fs : List Value} {v : Nat} (he : g r = .inr (4, fs)) (hl : 8 < fs.length) (hdg : decode cc pc = .ok (.putfield 29, 3)) (kk : ∀ (H1 : Heap) (locs1 : List Loc), zP D Rs ad (va_up g r (.inr (4, fs.set 8 (.ref v)))) H1 → va_S A s.heap H1 locs1 → W p l e R s m args below meth c H1 locs1 cells slots Q (F0 m (pc + 3) ls rest)) : W p l e R s m args below meth c H locs cells slots Q (F0 m pc ls (.ref v :: .ref a :: rest)) := by
  subst har
  exact pg_X4_29 hx hb hT hown hK hin hP hD hS hr he hl hdg kk
theorem pa_X4_32 {a : Nat} (hx : p.tables.exec = Jvm.exec) (hb : c.code = cc) (hT : ∀ w ∈ WS, w.before args s = true) (hown : s.vm.findClass RX4 = some m.cls) (hK : zK D ks s) (hin : meth.name = "<init>") (hP : zP D Rs ad g H) (hD : zD A Rs ad) (hS : va_S A s.heap H locs) {r : Nat} (hr : r ∈ Rs) (har : ad r = a) {fs : List Value} {v : Nat} (he : g r = .inr (4, fs)) (hl : 9 < fs.length) (hdg : decode cc pc = .ok (.putfield 32, 3)) (kk : ∀ (H1 : Heap) (locs1 : List Loc), zP D Rs ad (va_up g r (.inr (4, fs.set 9 (.ref v)))) H1 → va_S A s.heap H1 locs1 → W p l e R s m args below meth c H1 locs1 cells slots Q (F0 m (pc + 3) ls rest)) : W p l e R s m args below meth c H locs cells slots Q (F0 m pc ls (.ref v :: .ref a :: rest)) := by
  subst har
  exact pg_X4_32 hx hb hT hown hK hin hP hD hS hr he hl hdg kk
theorem pa_X4_35 {a : Nat} (hx : p.tables.exec = Jvm.exec) (hb : c.code = cc) (hT : ∀ w ∈ WS, w.before args s = true) (hown : s.vm.findClass RX4 = some m.cls) (hK : zK D ks s) (hin : meth.name = "<init>") (hP : zP D Rs ad g H) (hD : zD A Rs ad) (hS : va_S A s.heap H locs) {r : Nat} (hr : r ∈ Rs) (har : ad r = a) {fs : List Value} {v : Nat} (he : g r = .inr (4, fs)) (hl : 10 < fs.length) (hdg : decode cc pc = .ok (.putfield 35, 3)) (kk : ∀ (H1 : Heap) (locs1 : List Loc), zP D Rs ad (va_up g r (.inr (4, fs.set 10 (.ref v)))) H1 → va_S A s.heap H1 locs1 → W p l e R s m args below meth c H1 locs1 cells slots Q (F0 m (pc + 3) ls rest)) : W p l e R s m args below meth c H locs cells slots Q (F0 m pc ls (.ref v :: .ref a :: rest)) := by
  subst har
  exact pg_X4_35 hx hb hT hown hK hin hP hD hS hr he hl hdg kk
theorem pa_X4_38 {a : Nat} (hx : p.tables.exec = Jvm.exec) (hb : c.code = cc) (hT : ∀ w ∈ WS, w.before args s = true) (hown : s.vm.findClass RX4 = some m.cls) (hK : zK D ks s) (hin : meth.name = "<init>") (hP : zP D Rs ad g H) (hD : zD A Rs ad) (hS : va_S A s.heap H locs) {r : Nat} (hr : r ∈ Rs) (har : ad r = a) {fs : List Value} {v : Nat} (he : g r = .inr (4, fs)) (hl : 11 < fs.length) (hdg : decode cc pc = .ok (.putfield 38, 3)) (kk : ∀ (H1 : Heap) (locs1 : List Loc), zP D Rs ad (va_up g r (.inr (4, fs.set 11 (.ref v)))) H1 → va_S A s.heap H1 locs1 → W p l e R s m args below meth c H1 locs1 cells slots Q (F0 m (pc + 3) ls rest)) : W p l e R s m args below meth c H locs cells slots Q (F0 m pc ls (.ref v :: .ref a :: rest)) := by
  subst har
  exact pg_X4_38 hx hb hT hown hK hin hP hD hS hr he hl hdg kk
theorem pa_X4_41 {a : Nat} (hx : p.tables.exec = Jvm.exec) (hb : c.code = cc) (hT : ∀ w ∈ WS, w.before args s = true) (hown : s.vm.findClass RX4 = some m.cls) (hK : zK D ks s) (hin : meth.name = "<init>") (hP : zP D Rs ad g H) (hD : zD A Rs ad) (hS : va_S A s.heap H locs) {r : Nat} (hr : r ∈ Rs) (har : ad r = a) {fs : List Value} {v : Nat} (he : g r = .inr (4, fs)) (hl : 12 < fs.length) (hdg : decode cc pc = .ok (.putfield 41, 3)) (kk : ∀ (H1 : Heap) (locs1 : List Loc), zP D Rs ad (va_up g r (.inr (4, fs.set 12 (.ref v)))) H1 → va_S A s.heap H1 locs1 → W p l e R s m args below meth c H1 locs1 cells slots Q (F0 m (pc + 3) ls rest)) : W p l e R s m args below meth c H locs cells slots Q (F0 m pc ls (.ref v :: .ref a :: rest)) := by
  subst har
  exact pg_X4_41 hx hb hT hown hK hin hP hD hS hr he hl hdg kk
theorem pa_X4_44 {a : Nat} (hx : p.tables.exec = Jvm.exec) (hb : c.code = cc) (hT : ∀ w ∈ WS, w.before args s = true) (hown : s.vm.findClass RX4 = some m.cls) (hK : zK D ks s) (hin : meth.name = "<init>") (hP : zP D Rs ad g H) (hD : zD A Rs ad) (hS : va_S A s.heap H locs) {r : Nat} (hr : r ∈ Rs) (har : ad r = a) {fs : List Value} {v : Nat} (he : g r = .inr (4, fs)) (hl : 13 < fs.length) (hdg : decode cc pc = .ok (.putfield 44, 3)) (kk : ∀ (H1 : Heap) (locs1 : List Loc), zP D Rs ad (va_up g r (.inr (4, fs.set 13 (.ref v)))) H1 → va_S A s.heap H1 locs1 → W p l e R s m args below meth c H1 locs1 cells slots Q (F0 m (pc + 3) ls rest)) : W p l e R s m args below meth c H locs cells slots Q (F0 m pc ls (.ref v :: .ref a :: rest)) := by
  subst har
  exact pg_X4_44 hx hb hT hown hK hin hP hD hS hr he hl hdg kk
theorem pa_X4_47 {a : Nat} (hx : p.tables.exec = Jvm.exec) (hb : c.code = cc) (hT : ∀ w ∈ WS, w.before args s = true) (hown : s.vm.findClass RX4 = some m.cls) (hK : zK D ks s) (hin : meth.name = "<init>") (hP : zP D Rs ad g H) (hD : zD A Rs ad) (hS : va_S A s.heap H locs) {r : Nat} (hr : r ∈ Rs) (har : ad r = a) {fs : List Value} {v : Nat} (he : g r = .inr (4, fs)) (hl : 14 < fs.length) (hdg : decode cc pc = .ok (.putfield 47, 3)) (kk : ∀ (H1 : Heap) (locs1 : List Loc), zP D Rs ad (va_up g r (.inr (4, fs.set 14 (.ref v)))) H1 → va_S A s.heap H1 locs1 → W p l e R s m args below meth c H1 locs1 cells slots Q (F0 m (pc + 3) ls rest)) : W p l e R s m args below meth c H locs cells slots Q (F0 m pc ls (.ref v :: .ref a :: rest)) := by
  subst har
  exact pg_X4_47 hx hb hT hown hK hin hP hD hS hr he hl hdg kk
theorem pa_X4_51 {a : Nat} (hx : p.tables.exec = Jvm.exec) (hb : c.code = cc) (hT : ∀ w ∈ WS, w.before args s = true) (hown : s.vm.findClass RX4 = some m.cls) (hK : zK D ks s) (hin : meth.name = "<init>") (hP : zP D Rs ad g H) (hD : zD A Rs ad) (hS : va_S A s.heap H locs) {r : Nat} (hr : r ∈ Rs) (har : ad r = a) {fs : List Value} {v : Nat} (he : g r = .inr (4, fs)) (hl : 15 < fs.length) (hdg : decode cc pc = .ok (.putfield 51, 3)) (kk : ∀ (H1 : Heap) (locs1 : List Loc), zP D Rs ad (va_up g r (.inr (4, fs.set 15 (.ref v)))) H1 → va_S A s.heap H1 locs1 → W p l e R s m args below meth c H1 locs1 cells slots Q (F0 m (pc + 3) ls rest)) : W p l e R s m args below meth c H locs cells slots Q (F0 m pc ls (.ref v :: .ref a :: rest)) := by
  subst har
  exact pg_X4_51 hx hb hT hown hK hin hP hD hS hr he hl hdg kk
theorem pa_X4_54 {a : Nat} (hx : p.tables.exec = Jvm.exec) (hb : c.code = cc) (hT : ∀ w ∈ WS, w.before args s = true) (hown : s.vm.findClass RX4 = some m.cls) (hK : zK D ks s) (hin : meth.name = "<init>") (hP : zP D Rs ad g H) (hD : zD A Rs ad) (hS : va_S A s.heap H locs) {r : Nat} (hr : r ∈ Rs) (har : ad r = a) {fs : List Value} {v : Nat} (he : g r = .inr (4, fs)) (hl : 16 < fs.length) (hdg : decode cc pc = .ok (.putfield 54, 3)) (kk : ∀ (H1 : Heap) (locs1 : List Loc), zP D Rs ad (va_up g r (.inr (4, fs.set 16 (.ref v)))) H1 → va_S A s.heap H1 locs1 → W p l e R s m args below meth c H1 locs1 cells slots Q (F0 m (pc + 3) ls rest)) : W p l e R s m args below meth c H locs cells slots Q (F0 m pc ls (.ref v :: .ref a :: rest)) := by
  subst har
  exact pg_X4_54 hx hb hT hown hK hin hP hD hS hr he hl hdg kk
theorem pa_X4_57 {a : Nat} (hx : p.tables.exec = Jvm.exec) (hb : c.code = cc) (hT : ∀ w ∈ WS, w.before args s = true) (hown : s.vm.findClass RX4 = some m.cls) (hK : zK D ks s) (hin : meth.name = "<init>") (hP : zP D Rs ad g H) (hD : zD A Rs ad) (hS : va_S A s.heap H locs) {r : Nat} (hr : r ∈ Rs) (har : ad r = a) {fs : List Value} {v : Nat} (he : g r = .inr (4, fs)) (hl : 17 < fs.length) (hdg : decode cc pc = .ok (.putfield 57, 3)) (kk : ∀ (H1 : Heap) (locs1 : List Loc), zP D Rs ad (va_up g r (.inr (4, fs.set 17 (.ref v)))) H1 → va_S A s.heap H1 locs1 → W p l e R s m args below meth c H1 locs1 cells slots Q (F0 m (pc + 3) ls rest)) : W p l e R s m args below meth c H locs cells slots Q (F0 m pc ls (.ref v :: .ref a :: rest)) := by
  subst har
  exact pg_X4_57 hx hb hT hown hK hin hP hD hS hr he hl hdg kk
end
def cF (n : Nat) : Nat → Int64 := fun j => if j < n then -1 else 0
theorem cF_up (n : Nat) : vp_updL (cF n) n (-1) = cF (n + 1) := by
  funext j
  unfold vp_updL cF
  by_cases h : j = n
  · subst h; simp
  · simp only [h]; by_cases h2 : j < n
    · simp [h2, show j < n + 1 by omega]
    · simp [h2, show ¬ j < n + 1 by omega]
theorem cF_0 : cF 0 = fun _ => 0 := by funext j; simp [cF]
/-- what a constructor of the office leaves -/
def nX3 (D : va_G) (ks : Nat → ClassId) (Rs : List Nat) (ad : Nat → Nat) (g : Nat → va_E) (sz : Nat) (H : Heap) : Prop := ∃ (ad' : Nat → Nat) (g' : Nat → va_E), (∀ r ∈ Rs, ad' r = ad r) ∧ (∀ r ∈ Rs, r ≠ 13 → g' r = g r) ∧
  g' 13 = .inr (3, [.ref (ad' 14), .ref (ad' 15), .ref (ad' 16), .ref (ad' 17), .int 0, .int 0, .int 0, .int 20, .int 5, .int 1000, .int 100, .int 500, .long 0, .long 0]) ∧ g' 14 = aQ (ks 3) 30 (fun _ => none) ∧ g' 15 = aQ (ks 2) 30 (fun _ => none) ∧ g' 16 = aJ (ks 1) 21 (cF 21) ∧ g' 17 = aJ (ks 1) 21 (fun _ => 0) ∧
  zP D (17 :: 16 :: 15 :: 14 :: Rs) ad' g' H ∧ zD (zA Rs ad sz) (17 :: 16 :: 15 :: 14 :: Rs) ad' 
set_option maxHeartbeats 4000000 in
set_option maxRecDepth 100000 in
theorem c_X3_init (l : Launch) (hD0 : zD (fun _ => True) Rs ad) {g : Nat → va_E} (h0m : 13 ∈ Rs) (hn14 : 14 ∉ Rs) (hn15 : 15 ∉ Rs) (hn16 : 16 ∉ Rs) (hn17 : 17 ∉ Rs) (he : g 13 = .inr (3, [.null, .null, .null, .null, .int 0, .int 0, .int 0, .int 0, .int 0, .int 0, .int 0, .int 0, .long 0, .long 0])) (sz : Nat) :
    Met l yX3_init (Cond.code yX3_init cX3_init 2 none :: WS) (zRm 2 32 4 102) (fun a s => zPW D ks sz [.ref (ad 13)] (zP D Rs ad g) a s ∧ va_AO RX2 s ∧ va_AO RX1 s) (zQW none (nX3 D ks Rs ad g sz) (zA Rs ad sz)) 4 102 (zA Rs ad sz) := by
  refine Met.ofW (cc := cX3_init) (maxL := 2) (ret := none) (by decide +kernel) rfl ?_
  intro p e s m args below meth c s₁ B hml hv
  obtain ⟨⟨rfl, hsz, hP, hK⟩, hO2, hO1⟩ := hv
  rw [lg_entry_eq]
  have hx := B.exec
  have hb := B.bytes
  have hr := B.returns
  have hown : s.vm.findClass RX3 = some m.cls := findClass_of_methodNamed B.named
  have hlk := B.notSynchronized
  have hin : meth.name = "<init>" := (name_of_methodNamed B.named B.method).1
  have hT : ∀ w ∈ WS, w.before #[.ref (ad 13)] s = true := fun w hw => atoms_spec (ws := Cond.code yX3_init cX3_init 2 none :: WS) B.pre w (List.mem_cons_of_mem _ hw)
  have hl := lv_entry [.ref (ad 13)] (n := 2) (Nat.le_of_ble_eq_true rfl)
  generalize (lg_sl ([.ref (ad 13)]) ++ List.replicate (2 - (lg_sl ([.ref (ad 13)])).length) Slot.unset).toArray = ls at hl ⊢
  have hl : lv_has ls 2 [(0, .ref (ad 13))] := hl
  subst hsz
  have hD := hD0.self (sz := s.heap.size)
  have hA : ∀ q : Nat, s.heap.size ≤ q → zA Rs ad s.heap.size q := fun q h => Or.inr h
  have hS : va_S (zA Rs ad s.heap.size) s.heap s.heap [] := va_S.rf
  refine lv_aload_n hx hb dX3_init_0 rfl (lv_at hl 0 rfl) ?_
  refine z_obj hx hb hT hown ml_X3_1 hml hl.1 dX3_init_1 (Nat.le_of_ble_eq_true rfl) (Nat.le_of_ble_eq_true rfl) ?_
  refine lv_aload_n hx hb dX3_init_4 rfl (lv_at hl 0 rfl) ?_
  refine lv_bipush (v := 30) hx hb dX3_init_5 (by decide) ?_
  have hn0_14 : 14 ∉ Rs := hn14
  refine z_newq (k := 3) (r := 14) (N := 30) hx hb hT hown cl_X3_9 hO2 hK rfl hP hD hS hA hn0_14 (by decide) (by decide) (Nat.le_of_ble_eq_true rfl) (Nat.le_of_ble_eq_true rfl) (Nat.le_of_ble_eq_true rfl) dX3_init_7 (fun q14 H hP hD hS => ?_)
  obtain ⟨g1, hg1⟩ : ∃ z, z = va_up g 14 (aQ (ks 3) 30 (fun _ => none)) := ⟨_, rfl⟩
  rw [← hg1] at hP
  obtain ⟨ad1, had1⟩ : ∃ z, z = va_up ad 14 q14 := ⟨_, rfl⟩
  rw [← had1] at hP hD
  have a1_13 := (congrFun had1 13).trans ((va_up_ne _ _ (by decide)).trans rfl)
  have a1_14 : ad1 14 = q14 := by rw [had1, va_up_self]
  have hAo1 : ∀ r ∈ Rs, ad1 r = ad r := fun r hr => by rw [had1, va_up_ne _ _ (show r ≠ 14 from fun h => hn14 (h ▸ hr))]
  have e1_13 : g1 13 = Sum.inr (3, [.null, .null, .null, .null, .int 0, .int 0, .int 0, .int 0, .int 0, .int 0, .int 0, .int 0, .long 0, .long 0]) := by rw [hg1, va_up_ne _ _ (by decide)]; exact he
  have e1_14 : g1 14 = aQ (ks 3) 30 (fun _ => none) := by rw [hg1, va_up_self]
  have hGo1 : ∀ r ∈ Rs, r ≠ 13 → g1 r = g r := fun r hr h => by rw [hg1, va_up_ne _ _ (show r ≠ 14 from fun h2 => hn14 (h2 ▸ hr))]
  refine pa_X3_11 hx hb hT hown hK hin hP hD hS (List.mem_cons_of_mem _ h0m) a1_13 e1_13 (Nat.le_of_ble_eq_true rfl) dX3_init_10 (fun H locs hP hS => ?_)
  obtain ⟨g2, hg2⟩ : ∃ z, z = va_up g1 13 (.inr (3, List.set [.null, .null, .null, .null, .int 0, .int 0, .int 0, .int 0, .int 0, .int 0, .int 0, .int 0, .long 0, .long 0] 0 (.ref q14))) := ⟨_, rfl⟩
  rw [← hg2] at hP
  have e2_13 : g2 13 = Sum.inr (3, [.ref q14, .null, .null, .null, .int 0, .int 0, .int 0, .int 0, .int 0, .int 0, .int 0, .int 0, .long 0, .long 0]) := by rw [hg2, va_up_self]; rfl
  have e2_14 : g2 14 = aQ (ks 3) 30 (fun _ => none) := by rw [hg2, va_up_ne _ _ (by decide)]; exact e1_14
  have hGo2 : ∀ r ∈ Rs, r ≠ 13 → g2 r = g r := fun r hr h => by rw [hg2, va_up_ne _ _ h]; exact hGo1 r hr h
  refine lv_aload_n hx hb dX3_init_13 rfl (lv_at hl 0 rfl) ?_
  refine lv_bipush (v := 30) hx hb dX3_init_14 (by decide) ?_
  have hn2_15 : 15 ∉ (14 :: Rs) := by simp only [List.mem_cons, not_or]; exact ⟨by decide, hn15⟩
  refine z_newq (k := 2) (r := 15) (N := 30) hx hb hT hown cl_X3_15 hO1 hK rfl hP hD hS hA hn2_15 (by decide) (by decide) (Nat.le_of_ble_eq_true rfl) (Nat.le_of_ble_eq_true rfl) (Nat.le_of_ble_eq_true rfl) dX3_init_16 (fun q15 H hP hD hS => ?_)
  obtain ⟨g3, hg3⟩ : ∃ z, z = va_up g2 15 (aQ (ks 2) 30 (fun _ => none)) := ⟨_, rfl⟩
  rw [← hg3] at hP
  obtain ⟨ad3, had3⟩ : ∃ z, z = va_up ad1 15 q15 := ⟨_, rfl⟩
  rw [← had3] at hP hD
  have a3_13 := (congrFun had3 13).trans ((va_up_ne _ _ (by decide)).trans a1_13)
  have a3_14 := (congrFun had3 14).trans ((va_up_ne _ _ (by decide)).trans a1_14)
  have a3_15 : ad3 15 = q15 := by rw [had3, va_up_self]
  have hAo3 : ∀ r ∈ Rs, ad3 r = ad r := fun r hr => by rw [had3, va_up_ne _ _ (show r ≠ 15 from fun h => hn15 (h ▸ hr))]; exact hAo1 r hr
  have e3_13 : g3 13 = Sum.inr (3, [.ref q14, .null, .null, .null, .int 0, .int 0, .int 0, .int 0, .int 0, .int 0, .int 0, .int 0, .long 0, .long 0]) := by rw [hg3, va_up_ne _ _ (by decide)]; exact e2_13
  have e3_14 : g3 14 = aQ (ks 3) 30 (fun _ => none) := by rw [hg3, va_up_ne _ _ (by decide)]; exact e2_14
  have e3_15 : g3 15 = aQ (ks 2) 30 (fun _ => none) := by rw [hg3, va_up_self]
  have hGo3 : ∀ r ∈ Rs, r ≠ 13 → g3 r = g r := fun r hr h => by rw [hg3, va_up_ne _ _ (show r ≠ 15 from fun h2 => hn15 (h2 ▸ hr))]; exact hGo2 r hr h
  refine pa_X3_17 hx hb hT hown hK hin hP hD hS (List.mem_cons_of_mem _ (List.mem_cons_of_mem _ h0m)) a3_13 e3_13 (Nat.le_of_ble_eq_true rfl) dX3_init_19 (fun H locs hP hS => ?_)
  obtain ⟨g4, hg4⟩ : ∃ z, z = va_up g3 13 (.inr (3, List.set [.ref q14, .null, .null, .null, .int 0, .int 0, .int 0, .int 0, .int 0, .int 0, .int 0, .int 0, .long 0, .long 0] 1 (.ref q15))) := ⟨_, rfl⟩
  rw [← hg4] at hP
  have e4_13 : g4 13 = Sum.inr (3, [.ref q14, .ref q15, .null, .null, .int 0, .int 0, .int 0, .int 0, .int 0, .int 0, .int 0, .int 0, .long 0, .long 0]) := by rw [hg4, va_up_self]; rfl
  have e4_14 : g4 14 = aQ (ks 3) 30 (fun _ => none) := by rw [hg4, va_up_ne _ _ (by decide)]; exact e3_14
  have e4_15 : g4 15 = aQ (ks 2) 30 (fun _ => none) := by rw [hg4, va_up_ne _ _ (by decide)]; exact e3_15
  have hGo4 : ∀ r ∈ Rs, r ≠ 13 → g4 r = g r := fun r hr h => by rw [hg4, va_up_ne _ _ h]; exact hGo3 r hr h
  refine lv_aload_n hx hb dX3_init_22 rfl (lv_at hl 0 rfl) ?_
  refine lv_bipush (v := 21) hx hb dX3_init_23 (by decide) ?_
  have hn4_16 : 16 ∉ (15 :: 14 :: Rs) := by simp only [List.mem_cons, not_or]; exact ⟨by decide, by decide, hn16⟩
  refine z_newJ (r := 16) (N := 21) hx hb hT hK hP hD hS hA hn4_16 (by decide) (by decide) (by decide) (Nat.le_of_ble_eq_true rfl) (Nat.le_of_ble_eq_true rfl) dX3_init_25 (fun q16 H hP hD hS => ?_)
  obtain ⟨g5, hg5⟩ : ∃ z, z = va_up g4 16 (aJ (ks 1) 21 (fun _ => 0)) := ⟨_, rfl⟩
  rw [← hg5] at hP
  obtain ⟨ad5, had5⟩ : ∃ z, z = va_up ad3 16 q16 := ⟨_, rfl⟩
  rw [← had5] at hP hD
  have a5_13 := (congrFun had5 13).trans ((va_up_ne _ _ (by decide)).trans a3_13)
  have a5_14 := (congrFun had5 14).trans ((va_up_ne _ _ (by decide)).trans a3_14)
  have a5_15 := (congrFun had5 15).trans ((va_up_ne _ _ (by decide)).trans a3_15)
  have a5_16 : ad5 16 = q16 := by rw [had5, va_up_self]
  have hAo5 : ∀ r ∈ Rs, ad5 r = ad r := fun r hr => by rw [had5, va_up_ne _ _ (show r ≠ 16 from fun h => hn16 (h ▸ hr))]; exact hAo3 r hr
  have e5_13 : g5 13 = Sum.inr (3, [.ref q14, .ref q15, .null, .null, .int 0, .int 0, .int 0, .int 0, .int 0, .int 0, .int 0, .int 0, .long 0, .long 0]) := by rw [hg5, va_up_ne _ _ (by decide)]; exact e4_13
  have e5_14 : g5 14 = aQ (ks 3) 30 (fun _ => none) := by rw [hg5, va_up_ne _ _ (by decide)]; exact e4_14
  have e5_15 : g5 15 = aQ (ks 2) 30 (fun _ => none) := by rw [hg5, va_up_ne _ _ (by decide)]; exact e4_15
  have e5_16 : g5 16 = aJ (ks 1) 21 (fun _ => 0) := by rw [hg5, va_up_self]
  have hGo5 : ∀ r ∈ Rs, r ≠ 13 → g5 r = g r := fun r hr h => by rw [hg5, va_up_ne _ _ (show r ≠ 16 from fun h2 => hn16 (h2 ▸ hr))]; exact hGo4 r hr h
  refine pa_X3_21 hx hb hT hown hK hin hP hD hS (List.mem_cons_of_mem _ (List.mem_cons_of_mem _ (List.mem_cons_of_mem _ h0m))) a5_13 e5_13 (Nat.le_of_ble_eq_true rfl) dX3_init_27 (fun H locs hP hS => ?_)
  obtain ⟨g6, hg6⟩ : ∃ z, z = va_up g5 13 (.inr (3, List.set [.ref q14, .ref q15, .null, .null, .int 0, .int 0, .int 0, .int 0, .int 0, .int 0, .int 0, .int 0, .long 0, .long 0] 2 (.ref q16))) := ⟨_, rfl⟩
  rw [← hg6] at hP
  have e6_13 : g6 13 = Sum.inr (3, [.ref q14, .ref q15, .ref q16, .null, .int 0, .int 0, .int 0, .int 0, .int 0, .int 0, .int 0, .int 0, .long 0, .long 0]) := by rw [hg6, va_up_self]; rfl
  have e6_14 : g6 14 = aQ (ks 3) 30 (fun _ => none) := by rw [hg6, va_up_ne _ _ (by decide)]; exact e5_14
  have e6_15 : g6 15 = aQ (ks 2) 30 (fun _ => none) := by rw [hg6, va_up_ne _ _ (by decide)]; exact e5_15
  have e6_16 : g6 16 = aJ (ks 1) 21 (fun _ => 0) := by rw [hg6, va_up_ne _ _ (by decide)]; exact e5_16
  have hGo6 : ∀ r ∈ Rs, r ≠ 13 → g6 r = g r := fun r hr h => by rw [hg6, va_up_ne _ _ h]; exact hGo5 r hr h
  refine lv_aload_n hx hb dX3_init_30 rfl (lv_at hl 0 rfl) ?_
  refine lv_bipush (v := 21) hx hb dX3_init_31 (by decide) ?_
  have hn6_17 : 17 ∉ (16 :: 15 :: 14 :: Rs) := by simp only [List.mem_cons, not_or]; exact ⟨by decide, by decide, by decide, hn17⟩
  refine z_newJ (r := 17) (N := 21) hx hb hT hK hP hD hS hA hn6_17 (by decide) (by decide) (by decide) (Nat.le_of_ble_eq_true rfl) (Nat.le_of_ble_eq_true rfl) dX3_init_33 (fun q17 H hP hD hS => ?_)
  obtain ⟨g7, hg7⟩ : ∃ z, z = va_up g6 17 (aJ (ks 1) 21 (fun _ => 0)) := ⟨_, rfl⟩
  rw [← hg7] at hP
  obtain ⟨ad7, had7⟩ : ∃ z, z = va_up ad5 17 q17 := ⟨_, rfl⟩
  rw [← had7] at hP hD
  have a7_13 := (congrFun had7 13).trans ((va_up_ne _ _ (by decide)).trans a5_13)
  have a7_14 := (congrFun had7 14).trans ((va_up_ne _ _ (by decide)).trans a5_14)
  have a7_15 := (congrFun had7 15).trans ((va_up_ne _ _ (by decide)).trans a5_15)
  have a7_16 := (congrFun had7 16).trans ((va_up_ne _ _ (by decide)).trans a5_16)
  have a7_17 : ad7 17 = q17 := by rw [had7, va_up_self]
  have hAo7 : ∀ r ∈ Rs, ad7 r = ad r := fun r hr => by rw [had7, va_up_ne _ _ (show r ≠ 17 from fun h => hn17 (h ▸ hr))]; exact hAo5 r hr
  have e7_13 : g7 13 = Sum.inr (3, [.ref q14, .ref q15, .ref q16, .null, .int 0, .int 0, .int 0, .int 0, .int 0, .int 0, .int 0, .int 0, .long 0, .long 0]) := by rw [hg7, va_up_ne _ _ (by decide)]; exact e6_13
  have e7_14 : g7 14 = aQ (ks 3) 30 (fun _ => none) := by rw [hg7, va_up_ne _ _ (by decide)]; exact e6_14
  have e7_15 : g7 15 = aQ (ks 2) 30 (fun _ => none) := by rw [hg7, va_up_ne _ _ (by decide)]; exact e6_15
  have e7_16 : g7 16 = aJ (ks 1) 21 (fun _ => 0) := by rw [hg7, va_up_ne _ _ (by decide)]; exact e6_16
  have e7_17 : g7 17 = aJ (ks 1) 21 (fun _ => 0) := by rw [hg7, va_up_self]
  have hGo7 : ∀ r ∈ Rs, r ≠ 13 → g7 r = g r := fun r hr h => by rw [hg7, va_up_ne _ _ (show r ≠ 17 from fun h2 => hn17 (h2 ▸ hr))]; exact hGo6 r hr h
  refine pa_X3_25 hx hb hT hown hK hin hP hD hS (List.mem_cons_of_mem _ (List.mem_cons_of_mem _ (List.mem_cons_of_mem _ (List.mem_cons_of_mem _ h0m)))) a7_13 e7_13 (Nat.le_of_ble_eq_true rfl) dX3_init_35 (fun H locs hP hS => ?_)
  obtain ⟨g8, hg8⟩ : ∃ z, z = va_up g7 13 (.inr (3, List.set [.ref q14, .ref q15, .ref q16, .null, .int 0, .int 0, .int 0, .int 0, .int 0, .int 0, .int 0, .int 0, .long 0, .long 0] 3 (.ref q17))) := ⟨_, rfl⟩
  rw [← hg8] at hP
  have e8_13 : g8 13 = Sum.inr (3, [.ref q14, .ref q15, .ref q16, .ref q17, .int 0, .int 0, .int 0, .int 0, .int 0, .int 0, .int 0, .int 0, .long 0, .long 0]) := by rw [hg8, va_up_self]; rfl
  have e8_14 : g8 14 = aQ (ks 3) 30 (fun _ => none) := by rw [hg8, va_up_ne _ _ (by decide)]; exact e7_14
  have e8_15 : g8 15 = aQ (ks 2) 30 (fun _ => none) := by rw [hg8, va_up_ne _ _ (by decide)]; exact e7_15
  have e8_16 : g8 16 = aJ (ks 1) 21 (fun _ => 0) := by rw [hg8, va_up_ne _ _ (by decide)]; exact e7_16
  have e8_17 : g8 17 = aJ (ks 1) 21 (fun _ => 0) := by rw [hg8, va_up_ne _ _ (by decide)]; exact e7_17
  have hGo8 : ∀ r ∈ Rs, r ≠ 13 → g8 r = g r := fun r hr h => by rw [hg8, va_up_ne _ _ h]; exact hGo7 r hr h
  refine lv_iconst (v := 0) hx hb dX3_init_38 (by decide) ?_
  refine lv_istore_n (lv' := [(1, .int 0), (0, .ref (ad 13))]) hx hb dX3_init_39 rfl hl (by decide) rfl (fun ls hl => ?_)
  have Lp : ∀ (n k : Nat) (g' : Nat → va_E) (H : Heap) (locs : List Loc) (ls : Array Slot), k + n = 21 → (∀ r, r ≠ 16 → g' r = g8 r) → g' 16 = aJ (ks 1) 21 (cF k) → zP D (17 :: 16 :: 15 :: 14 :: Rs) ad7 g' H → va_S (zA Rs ad s.heap.size) s.heap H locs → lv_has ls 2 [(1, .int (nI k)), (0, .ref (ad 13))] → W p l e (zRm 2 32 4 102) s m #[.ref (ad 13)] below meth c H locs 4 102 (MQ below (zQW none (nX3 D ks Rs ad g s.heap.size) (zA Rs ad s.heap.size)) #[.ref (ad 13)] s 4 102 (zA Rs ad s.heap.size)) (F0 m 40 ls []) := by
    intro n
    induction n with
    | zero =>
      intro k g' H locs ls hkn hgo hg16 hP hS hl
      have hk0 : k = 21 := by omega
      subst hk0
      refine lv_iload_n hx hb dX3_init_40 rfl (lv_at hl 0 rfl) ?_
      refine lv_aload_n hx hb dX3_init_41 rfl (lv_at hl 1 rfl) ?_
      have hat13 := hP.at (List.mem_cons_of_mem _ (List.mem_cons_of_mem _ (List.mem_cons_of_mem _ (List.mem_cons_of_mem _ h0m)))) ((hgo 13 (by decide)).trans e8_13)
      rw [a7_13] at hat13
      refine gf_X3_21 hx hb hT hown hK hat13 rfl dX3_init_42 ?_
      have hat16 := hP.at (List.mem_cons_of_mem _ List.mem_cons_self) hg16
      rw [a7_16] at hat16
      refine z_jlen hx hb hK hat16 (v := 21) rfl dX3_init_45 ?_
      refine lv_icmp_ge (tgt := 64) hx hb dX3_init_46 (by decide) (fun c1 => ?_) (fun c1 => ?_)
      · skip
        obtain ⟨g0, hg0⟩ : ∃ z, z = g' := ⟨_, rfl⟩
        rw [← hg0] at hP
        have e0_13 := (congrFun hg0 13).trans ((hgo 13 (by decide)).trans e8_13)
        have e0_14 := (congrFun hg0 14).trans ((hgo 14 (by decide)).trans e8_14)
        have e0_15 := (congrFun hg0 15).trans ((hgo 15 (by decide)).trans e8_15)
        have e0_17 := (congrFun hg0 17).trans ((hgo 17 (by decide)).trans e8_17)
        have e0_16 := (congrFun hg0 16).trans hg16
        have hGo0 : ∀ r ∈ Rs, r ≠ 13 → g0 r = g r := fun r hr h => by rw [hg0, hgo r (fun h2 => hn16 (h2 ▸ hr))]; exact hGo8 r hr h
        refine lv_aload_n hx hb dX3_init_64 rfl (lv_at hl 1 rfl) ?_
        refine lv_bipush (v := 20) hx hb dX3_init_65 (by decide) ?_
        refine pa_X3_30 hx hb hT hown hK hP hD hS (List.mem_cons_of_mem _ (List.mem_cons_of_mem _ (List.mem_cons_of_mem _ (List.mem_cons_of_mem _ h0m)))) a7_13 e0_13 (Nat.le_of_ble_eq_true rfl) dX3_init_67 (fun H locs hP hS => ?_)
        obtain ⟨g9, hg9⟩ : ∃ z, z = va_up g0 13 (.inr (3, List.set [.ref q14, .ref q15, .ref q16, .ref q17, .int 0, .int 0, .int 0, .int 0, .int 0, .int 0, .int 0, .int 0, .long 0, .long 0] 7 (.int 20))) := ⟨_, rfl⟩
        rw [← hg9] at hP
        have e9_13 : g9 13 = Sum.inr (3, [.ref q14, .ref q15, .ref q16, .ref q17, .int 0, .int 0, .int 0, .int 20, .int 0, .int 0, .int 0, .int 0, .long 0, .long 0]) := by rw [hg9, va_up_self]; rfl
        have e9_14 : g9 14 = aQ (ks 3) 30 (fun _ => none) := by rw [hg9, va_up_ne _ _ (by decide)]; exact e0_14
        have e9_15 : g9 15 = aQ (ks 2) 30 (fun _ => none) := by rw [hg9, va_up_ne _ _ (by decide)]; exact e0_15
        have e9_16 : g9 16 = aJ (ks 1) 21 (cF 21) := by rw [hg9, va_up_ne _ _ (by decide)]; exact e0_16
        have e9_17 : g9 17 = aJ (ks 1) 21 (fun _ => 0) := by rw [hg9, va_up_ne _ _ (by decide)]; exact e0_17
        have hGo9 : ∀ r ∈ Rs, r ≠ 13 → g9 r = g r := fun r hr h => by rw [hg9, va_up_ne _ _ h]; exact hGo0 r hr h
        refine lv_aload_n hx hb dX3_init_70 rfl (lv_at hl 1 rfl) ?_
        refine lv_iconst (v := 5) hx hb dX3_init_71 (by decide) ?_
        refine pa_X3_34 hx hb hT hown hK hP hD hS (List.mem_cons_of_mem _ (List.mem_cons_of_mem _ (List.mem_cons_of_mem _ (List.mem_cons_of_mem _ h0m)))) a7_13 e9_13 (Nat.le_of_ble_eq_true rfl) dX3_init_72 (fun H locs hP hS => ?_)
        obtain ⟨g10, hg10⟩ : ∃ z, z = va_up g9 13 (.inr (3, List.set [.ref q14, .ref q15, .ref q16, .ref q17, .int 0, .int 0, .int 0, .int 20, .int 0, .int 0, .int 0, .int 0, .long 0, .long 0] 8 (.int 5))) := ⟨_, rfl⟩
        rw [← hg10] at hP
        have e10_13 : g10 13 = Sum.inr (3, [.ref q14, .ref q15, .ref q16, .ref q17, .int 0, .int 0, .int 0, .int 20, .int 5, .int 0, .int 0, .int 0, .long 0, .long 0]) := by rw [hg10, va_up_self]; rfl
        have e10_14 : g10 14 = aQ (ks 3) 30 (fun _ => none) := by rw [hg10, va_up_ne _ _ (by decide)]; exact e9_14
        have e10_15 : g10 15 = aQ (ks 2) 30 (fun _ => none) := by rw [hg10, va_up_ne _ _ (by decide)]; exact e9_15
        have e10_16 : g10 16 = aJ (ks 1) 21 (cF 21) := by rw [hg10, va_up_ne _ _ (by decide)]; exact e9_16
        have e10_17 : g10 17 = aJ (ks 1) 21 (fun _ => 0) := by rw [hg10, va_up_ne _ _ (by decide)]; exact e9_17
        have hGo10 : ∀ r ∈ Rs, r ≠ 13 → g10 r = g r := fun r hr h => by rw [hg10, va_up_ne _ _ h]; exact hGo9 r hr h
        refine lv_aload_n hx hb dX3_init_75 rfl (lv_at hl 1 rfl) ?_
        refine lv_sipush (v := 1000) hx hb dX3_init_76 (by decide) ?_
        refine pa_X3_37 hx hb hT hown hK hP hD hS (List.mem_cons_of_mem _ (List.mem_cons_of_mem _ (List.mem_cons_of_mem _ (List.mem_cons_of_mem _ h0m)))) a7_13 e10_13 (Nat.le_of_ble_eq_true rfl) dX3_init_79 (fun H locs hP hS => ?_)
        obtain ⟨g11, hg11⟩ : ∃ z, z = va_up g10 13 (.inr (3, List.set [.ref q14, .ref q15, .ref q16, .ref q17, .int 0, .int 0, .int 0, .int 20, .int 5, .int 0, .int 0, .int 0, .long 0, .long 0] 9 (.int 1000))) := ⟨_, rfl⟩
        rw [← hg11] at hP
        have e11_13 : g11 13 = Sum.inr (3, [.ref q14, .ref q15, .ref q16, .ref q17, .int 0, .int 0, .int 0, .int 20, .int 5, .int 1000, .int 0, .int 0, .long 0, .long 0]) := by rw [hg11, va_up_self]; rfl
        have e11_14 : g11 14 = aQ (ks 3) 30 (fun _ => none) := by rw [hg11, va_up_ne _ _ (by decide)]; exact e10_14
        have e11_15 : g11 15 = aQ (ks 2) 30 (fun _ => none) := by rw [hg11, va_up_ne _ _ (by decide)]; exact e10_15
        have e11_16 : g11 16 = aJ (ks 1) 21 (cF 21) := by rw [hg11, va_up_ne _ _ (by decide)]; exact e10_16
        have e11_17 : g11 17 = aJ (ks 1) 21 (fun _ => 0) := by rw [hg11, va_up_ne _ _ (by decide)]; exact e10_17
        have hGo11 : ∀ r ∈ Rs, r ≠ 13 → g11 r = g r := fun r hr h => by rw [hg11, va_up_ne _ _ h]; exact hGo10 r hr h
        refine lv_aload_n hx hb dX3_init_82 rfl (lv_at hl 1 rfl) ?_
        refine lv_bipush (v := 100) hx hb dX3_init_83 (by decide) ?_
        refine pa_X3_40 hx hb hT hown hK hP hD hS (List.mem_cons_of_mem _ (List.mem_cons_of_mem _ (List.mem_cons_of_mem _ (List.mem_cons_of_mem _ h0m)))) a7_13 e11_13 (Nat.le_of_ble_eq_true rfl) dX3_init_85 (fun H locs hP hS => ?_)
        obtain ⟨g12, hg12⟩ : ∃ z, z = va_up g11 13 (.inr (3, List.set [.ref q14, .ref q15, .ref q16, .ref q17, .int 0, .int 0, .int 0, .int 20, .int 5, .int 1000, .int 0, .int 0, .long 0, .long 0] 10 (.int 100))) := ⟨_, rfl⟩
        rw [← hg12] at hP
        have e12_13 : g12 13 = Sum.inr (3, [.ref q14, .ref q15, .ref q16, .ref q17, .int 0, .int 0, .int 0, .int 20, .int 5, .int 1000, .int 100, .int 0, .long 0, .long 0]) := by rw [hg12, va_up_self]; rfl
        have e12_14 : g12 14 = aQ (ks 3) 30 (fun _ => none) := by rw [hg12, va_up_ne _ _ (by decide)]; exact e11_14
        have e12_15 : g12 15 = aQ (ks 2) 30 (fun _ => none) := by rw [hg12, va_up_ne _ _ (by decide)]; exact e11_15
        have e12_16 : g12 16 = aJ (ks 1) 21 (cF 21) := by rw [hg12, va_up_ne _ _ (by decide)]; exact e11_16
        have e12_17 : g12 17 = aJ (ks 1) 21 (fun _ => 0) := by rw [hg12, va_up_ne _ _ (by decide)]; exact e11_17
        have hGo12 : ∀ r ∈ Rs, r ≠ 13 → g12 r = g r := fun r hr h => by rw [hg12, va_up_ne _ _ h]; exact hGo11 r hr h
        refine lv_aload_n hx hb dX3_init_88 rfl (lv_at hl 1 rfl) ?_
        refine lv_sipush (v := 500) hx hb dX3_init_89 (by decide) ?_
        refine pa_X3_43 hx hb hT hown hK hP hD hS (List.mem_cons_of_mem _ (List.mem_cons_of_mem _ (List.mem_cons_of_mem _ (List.mem_cons_of_mem _ h0m)))) a7_13 e12_13 (Nat.le_of_ble_eq_true rfl) dX3_init_92 (fun H locs hP hS => ?_)
        obtain ⟨g13, hg13⟩ : ∃ z, z = va_up g12 13 (.inr (3, List.set [.ref q14, .ref q15, .ref q16, .ref q17, .int 0, .int 0, .int 0, .int 20, .int 5, .int 1000, .int 100, .int 0, .long 0, .long 0] 11 (.int 500))) := ⟨_, rfl⟩
        rw [← hg13] at hP
        have e13_13 : g13 13 = Sum.inr (3, [.ref q14, .ref q15, .ref q16, .ref q17, .int 0, .int 0, .int 0, .int 20, .int 5, .int 1000, .int 100, .int 500, .long 0, .long 0]) := by rw [hg13, va_up_self]; rfl
        have e13_14 : g13 14 = aQ (ks 3) 30 (fun _ => none) := by rw [hg13, va_up_ne _ _ (by decide)]; exact e12_14
        have e13_15 : g13 15 = aQ (ks 2) 30 (fun _ => none) := by rw [hg13, va_up_ne _ _ (by decide)]; exact e12_15
        have e13_16 : g13 16 = aJ (ks 1) 21 (cF 21) := by rw [hg13, va_up_ne _ _ (by decide)]; exact e12_16
        have e13_17 : g13 17 = aJ (ks 1) 21 (fun _ => 0) := by rw [hg13, va_up_ne _ _ (by decide)]; exact e12_17
        have hGo13 : ∀ r ∈ Rs, r ≠ 13 → g13 r = g r := fun r hr h => by rw [hg13, va_up_ne _ _ h]; exact hGo12 r hr h
        refine zW_v hx hb hr hlk hS (Nat.le_of_ble_eq_true rfl) (Nat.le_of_ble_eq_true rfl) dX3_init_95 ⟨ad7, g13, hAo7, hGo13, ?_, e13_14, e13_15, e13_16, e13_17, hP, hD⟩
        rw [e13_13, a7_14, a7_15, a7_16, a7_17]
      · exact absurd (nI_le (a := 21) (b := 21) (Nat.le_refl _) (by decide)) c1
    | succ n ih =>
      intro k g' H locs ls hkn hgo hg16 hP hS hl
      have hk : k < 21 := by omega
      refine lv_iload_n hx hb dX3_init_40 rfl (lv_at hl 0 rfl) ?_
      refine lv_aload_n hx hb dX3_init_41 rfl (lv_at hl 1 rfl) ?_
      have hat13 := hP.at (List.mem_cons_of_mem _ (List.mem_cons_of_mem _ (List.mem_cons_of_mem _ (List.mem_cons_of_mem _ h0m)))) ((hgo 13 (by decide)).trans e8_13)
      rw [a7_13] at hat13
      refine gf_X3_21 hx hb hT hown hK hat13 rfl dX3_init_42 ?_
      have hat16 := hP.at (List.mem_cons_of_mem _ List.mem_cons_self) hg16
      rw [a7_16] at hat16
      refine z_jlen hx hb hK hat16 (v := 21) rfl dX3_init_45 ?_
      refine lv_icmp_ge (tgt := 64) hx hb dX3_init_46 (by decide) (fun c1 => ?_) (fun c1 => ?_)
      · exact absurd c1 (nI_ge (a := k) (b := 21) hk (by decide))
      · skip
        refine lv_aload_n hx hb dX3_init_49 rfl (lv_at hl 1 rfl) ?_
        refine gf_X3_21 hx hb hT hown hK hat13 rfl dX3_init_50 ?_
        refine lv_iload_n hx hb dX3_init_53 rfl (lv_at hl 0 rfl) ?_
        refine lv_ldc2 (v := (-1)) hx hb hown (hT _ kl_X3_28) dX3_init_54 ?_
        rw [← a7_16]
        refine z_last hx hb hK hP hD hS (List.mem_cons_of_mem _ List.mem_cons_self) hg16 (vp_in_nI hk (by decide)) dX3_init_57 (fun H1 locs1 hP hS => ?_)
        rw [nI_clamp (by omega), cF_up] at hP
        refine lv_iinc (v := nI (k + 1)) (lv' := [(1, .int (nI (k + 1))), (0, .ref (ad 13))]) hx hb dX3_init_58 hl (k := 0) rfl (nI_1 k) (by decide) rfl (fun ls hl => ?_)
        refine lv_goto (tgt := 40) hx hb dX3_init_61 (by decide) ?_
        exact ih (k + 1) _ _ _ _ (by omega) (fun r h => (va_up_ne _ _ h).trans (hgo r h)) (va_up_self _ _ _) hP hS hl
  exact Lp 21 0 g8 H locs ls rfl (fun _ _ => rfl) (e8_16.trans (by rw [cF_0])) hP hS hl
/-- what a constructor of the reference leaves -/
def nX4 (D : va_G) (ks : Nat → ClassId) (Rs : List Nat) (ad : Nat → Nat) (g : Nat → va_E) (sz : Nat) (H : Heap) : Prop := ∃ (ad' : Nat → Nat) (g' : Nat → va_E), (∀ r ∈ Rs, ad' r = ad r) ∧ (∀ r ∈ Rs, r ≠ 0 → g' r = g r) ∧
  g' 0 = .inr (4, [.int 0, .int 20, .int 5, .int 1000, .int 100, .int 500, .int 0, .ref (ad' 1), .ref (ad' 2), .ref (ad' 3), .ref (ad' 4), .ref (ad' 5), .ref (ad' 6), .ref (ad' 7), .ref (ad' 8), .ref (ad' 9), .ref (ad' 10), .ref (ad' 11), .long 0, .long 0, .int 0]) ∧ g' 1 = aI (ks 0) 30 (fun _ => 0) ∧ g' 2 = aI (ks 0) 30 (fun _ => 0) ∧ g' 3 = aI (ks 0) 30 (fun _ => 0) ∧ g' 4 = aI (ks 0) 30 (fun _ => 0) ∧ g' 5 = aI (ks 0) 30 (fun _ => 0) ∧ g' 6 = aI (ks 0) 30 (fun _ => 0) ∧ g' 7 = aI (ks 0) 30 (fun _ => 0) ∧ g' 8 = aJ (ks 1) 30 (fun _ => 0) ∧ g' 9 = aJ (ks 1) 30 (fun _ => 0) ∧ g' 10 = aI (ks 0) 21 (fun _ => 0) ∧ g' 11 = aI (ks 0) 21 (fun _ => 0) ∧
  zP D (11 :: 10 :: 9 :: 8 :: 7 :: 6 :: 5 :: 4 :: 3 :: 2 :: 1 :: Rs) ad' g' H ∧ zD (zA Rs ad sz) (11 :: 10 :: 9 :: 8 :: 7 :: 6 :: 5 :: 4 :: 3 :: 2 :: 1 :: Rs) ad' 
set_option maxHeartbeats 4000000 in
set_option maxRecDepth 100000 in
theorem c_X4_init (l : Launch) (hD0 : zD (fun _ => True) Rs ad) {g : Nat → va_E} (h0m : 0 ∈ Rs) (hn1 : 1 ∉ Rs) (hn2 : 2 ∉ Rs) (hn3 : 3 ∉ Rs) (hn4 : 4 ∉ Rs) (hn5 : 5 ∉ Rs) (hn6 : 6 ∉ Rs) (hn7 : 7 ∉ Rs) (hn8 : 8 ∉ Rs) (hn9 : 9 ∉ Rs) (hn10 : 10 ∉ Rs) (hn11 : 11 ∉ Rs) (he : g 0 = .inr (4, [.int 0, .int 0, .int 0, .int 0, .int 0, .int 0, .int 0, .null, .null, .null, .null, .null, .null, .null, .null, .null, .null, .null, .long 0, .long 0, .int 0])) (sz : Nat) :
    Met l yX4_init (Cond.code yX4_init cX4_init 1 none :: WS) (zRm 2 32 11 312) (zPW D ks sz [.ref (ad 0)] (zP D Rs ad g)) (zQW none (nX4 D ks Rs ad g sz) (zA Rs ad sz)) 11 312 (zA Rs ad sz) := by
  refine Met.ofW (cc := cX4_init) (maxL := 1) (ret := none) (by decide +kernel) rfl ?_
  intro p e s m args below meth c s₁ B hml hv
  obtain ⟨rfl, hsz, hP, hK⟩ := hv
  rw [lg_entry_eq]
  have hx := B.exec
  have hb := B.bytes
  have hr := B.returns
  have hown : s.vm.findClass RX4 = some m.cls := findClass_of_methodNamed B.named
  have hlk := B.notSynchronized
  have hin : meth.name = "<init>" := (name_of_methodNamed B.named B.method).1
  have hT : ∀ w ∈ WS, w.before #[.ref (ad 0)] s = true := fun w hw => atoms_spec (ws := Cond.code yX4_init cX4_init 1 none :: WS) B.pre w (List.mem_cons_of_mem _ hw)
  have hl := lv_entry [.ref (ad 0)] (n := 1) (Nat.le_of_ble_eq_true rfl)
  generalize (lg_sl ([.ref (ad 0)]) ++ List.replicate (1 - (lg_sl ([.ref (ad 0)])).length) Slot.unset).toArray = ls at hl ⊢
  have hl : lv_has ls 1 [(0, .ref (ad 0))] := hl
  subst hsz
  have hD := hD0.self (sz := s.heap.size)
  have hA : ∀ q : Nat, s.heap.size ≤ q → zA Rs ad s.heap.size q := fun q h => Or.inr h
  have hS : va_S (zA Rs ad s.heap.size) s.heap s.heap [] := va_S.rf
  refine lv_aload_n hx hb dX4_init_0 rfl (lv_at hl 0 rfl) ?_
  refine z_obj hx hb hT hown ml_X4_1 hml hl.1 dX4_init_1 (Nat.le_of_ble_eq_true rfl) (Nat.le_of_ble_eq_true rfl) ?_
  refine lv_aload_n hx hb dX4_init_4 rfl (lv_at hl 0 rfl) ?_
  refine lv_bipush (v := 20) hx hb dX4_init_5 (by decide) ?_
  refine pa_X4_7 hx hb hT hown hK hP hD hS h0m rfl he (Nat.le_of_ble_eq_true rfl) dX4_init_7 (fun H locs hP hS => ?_)
  obtain ⟨g1, hg1⟩ : ∃ z, z = va_up g 0 (.inr (4, List.set [.int 0, .int 0, .int 0, .int 0, .int 0, .int 0, .int 0, .null, .null, .null, .null, .null, .null, .null, .null, .null, .null, .null, .long 0, .long 0, .int 0] 1 (.int 20))) := ⟨_, rfl⟩
  rw [← hg1] at hP
  have e1_0 : g1 0 = Sum.inr (4, [.int 0, .int 20, .int 0, .int 0, .int 0, .int 0, .int 0, .null, .null, .null, .null, .null, .null, .null, .null, .null, .null, .null, .long 0, .long 0, .int 0]) := by rw [hg1, va_up_self]; rfl
  have hGo1 : ∀ r ∈ Rs, r ≠ 0 → g1 r = g r := fun r hr h => by rw [hg1, va_up_ne _ _ h]
  refine lv_aload_n hx hb dX4_init_10 rfl (lv_at hl 0 rfl) ?_
  refine lv_iconst (v := 5) hx hb dX4_init_11 (by decide) ?_
  refine pa_X4_13 hx hb hT hown hK hP hD hS h0m rfl e1_0 (Nat.le_of_ble_eq_true rfl) dX4_init_12 (fun H locs hP hS => ?_)
  obtain ⟨g2, hg2⟩ : ∃ z, z = va_up g1 0 (.inr (4, List.set [.int 0, .int 20, .int 0, .int 0, .int 0, .int 0, .int 0, .null, .null, .null, .null, .null, .null, .null, .null, .null, .null, .null, .long 0, .long 0, .int 0] 2 (.int 5))) := ⟨_, rfl⟩
  rw [← hg2] at hP
  have e2_0 : g2 0 = Sum.inr (4, [.int 0, .int 20, .int 5, .int 0, .int 0, .int 0, .int 0, .null, .null, .null, .null, .null, .null, .null, .null, .null, .null, .null, .long 0, .long 0, .int 0]) := by rw [hg2, va_up_self]; rfl
  have hGo2 : ∀ r ∈ Rs, r ≠ 0 → g2 r = g r := fun r hr h => by rw [hg2, va_up_ne _ _ h]; exact hGo1 r hr h
  refine lv_aload_n hx hb dX4_init_15 rfl (lv_at hl 0 rfl) ?_
  refine lv_sipush (v := 1000) hx hb dX4_init_16 (by decide) ?_
  refine pa_X4_16 hx hb hT hown hK hP hD hS h0m rfl e2_0 (Nat.le_of_ble_eq_true rfl) dX4_init_19 (fun H locs hP hS => ?_)
  obtain ⟨g3, hg3⟩ : ∃ z, z = va_up g2 0 (.inr (4, List.set [.int 0, .int 20, .int 5, .int 0, .int 0, .int 0, .int 0, .null, .null, .null, .null, .null, .null, .null, .null, .null, .null, .null, .long 0, .long 0, .int 0] 3 (.int 1000))) := ⟨_, rfl⟩
  rw [← hg3] at hP
  have e3_0 : g3 0 = Sum.inr (4, [.int 0, .int 20, .int 5, .int 1000, .int 0, .int 0, .int 0, .null, .null, .null, .null, .null, .null, .null, .null, .null, .null, .null, .long 0, .long 0, .int 0]) := by rw [hg3, va_up_self]; rfl
  have hGo3 : ∀ r ∈ Rs, r ≠ 0 → g3 r = g r := fun r hr h => by rw [hg3, va_up_ne _ _ h]; exact hGo2 r hr h
  refine lv_aload_n hx hb dX4_init_22 rfl (lv_at hl 0 rfl) ?_
  refine lv_bipush (v := 100) hx hb dX4_init_23 (by decide) ?_
  refine pa_X4_19 hx hb hT hown hK hP hD hS h0m rfl e3_0 (Nat.le_of_ble_eq_true rfl) dX4_init_25 (fun H locs hP hS => ?_)
  obtain ⟨g4, hg4⟩ : ∃ z, z = va_up g3 0 (.inr (4, List.set [.int 0, .int 20, .int 5, .int 1000, .int 0, .int 0, .int 0, .null, .null, .null, .null, .null, .null, .null, .null, .null, .null, .null, .long 0, .long 0, .int 0] 4 (.int 100))) := ⟨_, rfl⟩
  rw [← hg4] at hP
  have e4_0 : g4 0 = Sum.inr (4, [.int 0, .int 20, .int 5, .int 1000, .int 100, .int 0, .int 0, .null, .null, .null, .null, .null, .null, .null, .null, .null, .null, .null, .long 0, .long 0, .int 0]) := by rw [hg4, va_up_self]; rfl
  have hGo4 : ∀ r ∈ Rs, r ≠ 0 → g4 r = g r := fun r hr h => by rw [hg4, va_up_ne _ _ h]; exact hGo3 r hr h
  refine lv_aload_n hx hb dX4_init_28 rfl (lv_at hl 0 rfl) ?_
  refine lv_sipush (v := 500) hx hb dX4_init_29 (by decide) ?_
  refine pa_X4_22 hx hb hT hown hK hP hD hS h0m rfl e4_0 (Nat.le_of_ble_eq_true rfl) dX4_init_32 (fun H locs hP hS => ?_)
  obtain ⟨g5, hg5⟩ : ∃ z, z = va_up g4 0 (.inr (4, List.set [.int 0, .int 20, .int 5, .int 1000, .int 100, .int 0, .int 0, .null, .null, .null, .null, .null, .null, .null, .null, .null, .null, .null, .long 0, .long 0, .int 0] 5 (.int 500))) := ⟨_, rfl⟩
  rw [← hg5] at hP
  have e5_0 : g5 0 = Sum.inr (4, [.int 0, .int 20, .int 5, .int 1000, .int 100, .int 500, .int 0, .null, .null, .null, .null, .null, .null, .null, .null, .null, .null, .null, .long 0, .long 0, .int 0]) := by rw [hg5, va_up_self]; rfl
  have hGo5 : ∀ r ∈ Rs, r ≠ 0 → g5 r = g r := fun r hr h => by rw [hg5, va_up_ne _ _ h]; exact hGo4 r hr h
  refine lv_aload_n hx hb dX4_init_35 rfl (lv_at hl 0 rfl) ?_
  refine lv_bipush (v := 30) hx hb dX4_init_36 (by decide) ?_
  have hn5_1 : 1 ∉ Rs := hn1
  refine z_newI (r := 1) (N := 30) hx hb hT hK hP hD hS hA hn5_1 (by decide) (by decide) (by decide) (Nat.le_of_ble_eq_true rfl) (Nat.le_of_ble_eq_true rfl) dX4_init_38 (fun q1 H hP hD hS => ?_)
  obtain ⟨g6, hg6⟩ : ∃ z, z = va_up g5 1 (aI (ks 0) 30 (fun _ => 0)) := ⟨_, rfl⟩
  rw [← hg6] at hP
  obtain ⟨ad6, had6⟩ : ∃ z, z = va_up ad 1 q1 := ⟨_, rfl⟩
  rw [← had6] at hP hD
  have a6_0 := (congrFun had6 0).trans ((va_up_ne _ _ (by decide)).trans rfl)
  have a6_1 : ad6 1 = q1 := by rw [had6, va_up_self]
  have hAo6 : ∀ r ∈ Rs, ad6 r = ad r := fun r hr => by rw [had6, va_up_ne _ _ (show r ≠ 1 from fun h => hn1 (h ▸ hr))]
  have e6_0 : g6 0 = Sum.inr (4, [.int 0, .int 20, .int 5, .int 1000, .int 100, .int 500, .int 0, .null, .null, .null, .null, .null, .null, .null, .null, .null, .null, .null, .long 0, .long 0, .int 0]) := by rw [hg6, va_up_ne _ _ (by decide)]; exact e5_0
  have e6_1 : g6 1 = aI (ks 0) 30 (fun _ => 0) := by rw [hg6, va_up_self]
  have hGo6 : ∀ r ∈ Rs, r ≠ 0 → g6 r = g r := fun r hr h => by rw [hg6, va_up_ne _ _ (show r ≠ 1 from fun h2 => hn1 (h2 ▸ hr))]; exact hGo5 r hr h
  refine pa_X4_25 hx hb hT hown hK hin hP hD hS (List.mem_cons_of_mem _ h0m) a6_0 e6_0 (Nat.le_of_ble_eq_true rfl) dX4_init_40 (fun H locs hP hS => ?_)
  obtain ⟨g7, hg7⟩ : ∃ z, z = va_up g6 0 (.inr (4, List.set [.int 0, .int 20, .int 5, .int 1000, .int 100, .int 500, .int 0, .null, .null, .null, .null, .null, .null, .null, .null, .null, .null, .null, .long 0, .long 0, .int 0] 7 (.ref q1))) := ⟨_, rfl⟩
  rw [← hg7] at hP
  have e7_0 : g7 0 = Sum.inr (4, [.int 0, .int 20, .int 5, .int 1000, .int 100, .int 500, .int 0, .ref q1, .null, .null, .null, .null, .null, .null, .null, .null, .null, .null, .long 0, .long 0, .int 0]) := by rw [hg7, va_up_self]; rfl
  have e7_1 : g7 1 = aI (ks 0) 30 (fun _ => 0) := by rw [hg7, va_up_ne _ _ (by decide)]; exact e6_1
  have hGo7 : ∀ r ∈ Rs, r ≠ 0 → g7 r = g r := fun r hr h => by rw [hg7, va_up_ne _ _ h]; exact hGo6 r hr h
  refine lv_aload_n hx hb dX4_init_43 rfl (lv_at hl 0 rfl) ?_
  refine lv_bipush (v := 30) hx hb dX4_init_44 (by decide) ?_
  have hn7_2 : 2 ∉ (1 :: Rs) := by simp only [List.mem_cons, not_or]; exact ⟨by decide, hn2⟩
  refine z_newI (r := 2) (N := 30) hx hb hT hK hP hD hS hA hn7_2 (by decide) (by decide) (by decide) (Nat.le_of_ble_eq_true rfl) (Nat.le_of_ble_eq_true rfl) dX4_init_46 (fun q2 H hP hD hS => ?_)
  obtain ⟨g8, hg8⟩ : ∃ z, z = va_up g7 2 (aI (ks 0) 30 (fun _ => 0)) := ⟨_, rfl⟩
  rw [← hg8] at hP
  obtain ⟨ad8, had8⟩ : ∃ z, z = va_up ad6 2 q2 := ⟨_, rfl⟩
  rw [← had8] at hP hD
  have a8_0 := (congrFun had8 0).trans ((va_up_ne _ _ (by decide)).trans a6_0)
  have a8_1 := (congrFun had8 1).trans ((va_up_ne _ _ (by decide)).trans a6_1)
  have a8_2 : ad8 2 = q2 := by rw [had8, va_up_self]
  have hAo8 : ∀ r ∈ Rs, ad8 r = ad r := fun r hr => by rw [had8, va_up_ne _ _ (show r ≠ 2 from fun h => hn2 (h ▸ hr))]; exact hAo6 r hr
  have e8_0 : g8 0 = Sum.inr (4, [.int 0, .int 20, .int 5, .int 1000, .int 100, .int 500, .int 0, .ref q1, .null, .null, .null, .null, .null, .null, .null, .null, .null, .null, .long 0, .long 0, .int 0]) := by rw [hg8, va_up_ne _ _ (by decide)]; exact e7_0
  have e8_1 : g8 1 = aI (ks 0) 30 (fun _ => 0) := by rw [hg8, va_up_ne _ _ (by decide)]; exact e7_1
  have e8_2 : g8 2 = aI (ks 0) 30 (fun _ => 0) := by rw [hg8, va_up_self]
  have hGo8 : ∀ r ∈ Rs, r ≠ 0 → g8 r = g r := fun r hr h => by rw [hg8, va_up_ne _ _ (show r ≠ 2 from fun h2 => hn2 (h2 ▸ hr))]; exact hGo7 r hr h
  refine pa_X4_29 hx hb hT hown hK hin hP hD hS (List.mem_cons_of_mem _ (List.mem_cons_of_mem _ h0m)) a8_0 e8_0 (Nat.le_of_ble_eq_true rfl) dX4_init_48 (fun H locs hP hS => ?_)
  obtain ⟨g9, hg9⟩ : ∃ z, z = va_up g8 0 (.inr (4, List.set [.int 0, .int 20, .int 5, .int 1000, .int 100, .int 500, .int 0, .ref q1, .null, .null, .null, .null, .null, .null, .null, .null, .null, .null, .long 0, .long 0, .int 0] 8 (.ref q2))) := ⟨_, rfl⟩
  rw [← hg9] at hP
  have e9_0 : g9 0 = Sum.inr (4, [.int 0, .int 20, .int 5, .int 1000, .int 100, .int 500, .int 0, .ref q1, .ref q2, .null, .null, .null, .null, .null, .null, .null, .null, .null, .long 0, .long 0, .int 0]) := by rw [hg9, va_up_self]; rfl
  have e9_1 : g9 1 = aI (ks 0) 30 (fun _ => 0) := by rw [hg9, va_up_ne _ _ (by decide)]; exact e8_1
  have e9_2 : g9 2 = aI (ks 0) 30 (fun _ => 0) := by rw [hg9, va_up_ne _ _ (by decide)]; exact e8_2
  have hGo9 : ∀ r ∈ Rs, r ≠ 0 → g9 r = g r := fun r hr h => by rw [hg9, va_up_ne _ _ h]; exact hGo8 r hr h
  refine lv_aload_n hx hb dX4_init_51 rfl (lv_at hl 0 rfl) ?_
  refine lv_bipush (v := 30) hx hb dX4_init_52 (by decide) ?_
  have hn9_3 : 3 ∉ (2 :: 1 :: Rs) := by simp only [List.mem_cons, not_or]; exact ⟨by decide, by decide, hn3⟩
  refine z_newI (r := 3) (N := 30) hx hb hT hK hP hD hS hA hn9_3 (by decide) (by decide) (by decide) (Nat.le_of_ble_eq_true rfl) (Nat.le_of_ble_eq_true rfl) dX4_init_54 (fun q3 H hP hD hS => ?_)
  obtain ⟨g10, hg10⟩ : ∃ z, z = va_up g9 3 (aI (ks 0) 30 (fun _ => 0)) := ⟨_, rfl⟩
  rw [← hg10] at hP
  obtain ⟨ad10, had10⟩ : ∃ z, z = va_up ad8 3 q3 := ⟨_, rfl⟩
  rw [← had10] at hP hD
  have a10_0 := (congrFun had10 0).trans ((va_up_ne _ _ (by decide)).trans a8_0)
  have a10_1 := (congrFun had10 1).trans ((va_up_ne _ _ (by decide)).trans a8_1)
  have a10_2 := (congrFun had10 2).trans ((va_up_ne _ _ (by decide)).trans a8_2)
  have a10_3 : ad10 3 = q3 := by rw [had10, va_up_self]
  have hAo10 : ∀ r ∈ Rs, ad10 r = ad r := fun r hr => by rw [had10, va_up_ne _ _ (show r ≠ 3 from fun h => hn3 (h ▸ hr))]; exact hAo8 r hr
  have e10_0 : g10 0 = Sum.inr (4, [.int 0, .int 20, .int 5, .int 1000, .int 100, .int 500, .int 0, .ref q1, .ref q2, .null, .null, .null, .null, .null, .null, .null, .null, .null, .long 0, .long 0, .int 0]) := by rw [hg10, va_up_ne _ _ (by decide)]; exact e9_0
  have e10_1 : g10 1 = aI (ks 0) 30 (fun _ => 0) := by rw [hg10, va_up_ne _ _ (by decide)]; exact e9_1
  have e10_2 : g10 2 = aI (ks 0) 30 (fun _ => 0) := by rw [hg10, va_up_ne _ _ (by decide)]; exact e9_2
  have e10_3 : g10 3 = aI (ks 0) 30 (fun _ => 0) := by rw [hg10, va_up_self]
  have hGo10 : ∀ r ∈ Rs, r ≠ 0 → g10 r = g r := fun r hr h => by rw [hg10, va_up_ne _ _ (show r ≠ 3 from fun h2 => hn3 (h2 ▸ hr))]; exact hGo9 r hr h
  refine pa_X4_32 hx hb hT hown hK hin hP hD hS (List.mem_cons_of_mem _ (List.mem_cons_of_mem _ (List.mem_cons_of_mem _ h0m))) a10_0 e10_0 (Nat.le_of_ble_eq_true rfl) dX4_init_56 (fun H locs hP hS => ?_)
  obtain ⟨g11, hg11⟩ : ∃ z, z = va_up g10 0 (.inr (4, List.set [.int 0, .int 20, .int 5, .int 1000, .int 100, .int 500, .int 0, .ref q1, .ref q2, .null, .null, .null, .null, .null, .null, .null, .null, .null, .long 0, .long 0, .int 0] 9 (.ref q3))) := ⟨_, rfl⟩
  rw [← hg11] at hP
  have e11_0 : g11 0 = Sum.inr (4, [.int 0, .int 20, .int 5, .int 1000, .int 100, .int 500, .int 0, .ref q1, .ref q2, .ref q3, .null, .null, .null, .null, .null, .null, .null, .null, .long 0, .long 0, .int 0]) := by rw [hg11, va_up_self]; rfl
  have e11_1 : g11 1 = aI (ks 0) 30 (fun _ => 0) := by rw [hg11, va_up_ne _ _ (by decide)]; exact e10_1
  have e11_2 : g11 2 = aI (ks 0) 30 (fun _ => 0) := by rw [hg11, va_up_ne _ _ (by decide)]; exact e10_2
  have e11_3 : g11 3 = aI (ks 0) 30 (fun _ => 0) := by rw [hg11, va_up_ne _ _ (by decide)]; exact e10_3
  have hGo11 : ∀ r ∈ Rs, r ≠ 0 → g11 r = g r := fun r hr h => by rw [hg11, va_up_ne _ _ h]; exact hGo10 r hr h
  refine lv_aload_n hx hb dX4_init_59 rfl (lv_at hl 0 rfl) ?_
  refine lv_bipush (v := 30) hx hb dX4_init_60 (by decide) ?_
  have hn11_4 : 4 ∉ (3 :: 2 :: 1 :: Rs) := by simp only [List.mem_cons, not_or]; exact ⟨by decide, by decide, by decide, hn4⟩
  refine z_newI (r := 4) (N := 30) hx hb hT hK hP hD hS hA hn11_4 (by decide) (by decide) (by decide) (Nat.le_of_ble_eq_true rfl) (Nat.le_of_ble_eq_true rfl) dX4_init_62 (fun q4 H hP hD hS => ?_)
  obtain ⟨g12, hg12⟩ : ∃ z, z = va_up g11 4 (aI (ks 0) 30 (fun _ => 0)) := ⟨_, rfl⟩
  rw [← hg12] at hP
  obtain ⟨ad12, had12⟩ : ∃ z, z = va_up ad10 4 q4 := ⟨_, rfl⟩
  rw [← had12] at hP hD
  have a12_0 := (congrFun had12 0).trans ((va_up_ne _ _ (by decide)).trans a10_0)
  have a12_1 := (congrFun had12 1).trans ((va_up_ne _ _ (by decide)).trans a10_1)
  have a12_2 := (congrFun had12 2).trans ((va_up_ne _ _ (by decide)).trans a10_2)
  have a12_3 := (congrFun had12 3).trans ((va_up_ne _ _ (by decide)).trans a10_3)
  have a12_4 : ad12 4 = q4 := by rw [had12, va_up_self]
  have hAo12 : ∀ r ∈ Rs, ad12 r = ad r := fun r hr => by rw [had12, va_up_ne _ _ (show r ≠ 4 from fun h => hn4 (h ▸ hr))]; exact hAo10 r hr
  have e12_0 : g12 0 = Sum.inr (4, [.int 0, .int 20, .int 5, .int 1000, .int 100, .int 500, .int 0, .ref q1, .ref q2, .ref q3, .null, .null, .null, .null, .null, .null, .null, .null, .long 0, .long 0, .int 0]) := by rw [hg12, va_up_ne _ _ (by decide)]; exact e11_0
  have e12_1 : g12 1 = aI (ks 0) 30 (fun _ => 0) := by rw [hg12, va_up_ne _ _ (by decide)]; exact e11_1
  have e12_2 : g12 2 = aI (ks 0) 30 (fun _ => 0) := by rw [hg12, va_up_ne _ _ (by decide)]; exact e11_2
  have e12_3 : g12 3 = aI (ks 0) 30 (fun _ => 0) := by rw [hg12, va_up_ne _ _ (by decide)]; exact e11_3
  have e12_4 : g12 4 = aI (ks 0) 30 (fun _ => 0) := by rw [hg12, va_up_self]
  have hGo12 : ∀ r ∈ Rs, r ≠ 0 → g12 r = g r := fun r hr h => by rw [hg12, va_up_ne _ _ (show r ≠ 4 from fun h2 => hn4 (h2 ▸ hr))]; exact hGo11 r hr h
  refine pa_X4_35 hx hb hT hown hK hin hP hD hS (List.mem_cons_of_mem _ (List.mem_cons_of_mem _ (List.mem_cons_of_mem _ (List.mem_cons_of_mem _ h0m)))) a12_0 e12_0 (Nat.le_of_ble_eq_true rfl) dX4_init_64 (fun H locs hP hS => ?_)
  obtain ⟨g13, hg13⟩ : ∃ z, z = va_up g12 0 (.inr (4, List.set [.int 0, .int 20, .int 5, .int 1000, .int 100, .int 500, .int 0, .ref q1, .ref q2, .ref q3, .null, .null, .null, .null, .null, .null, .null, .null, .long 0, .long 0, .int 0] 10 (.ref q4))) := ⟨_, rfl⟩
  rw [← hg13] at hP
  have e13_0 : g13 0 = Sum.inr (4, [.int 0, .int 20, .int 5, .int 1000, .int 100, .int 500, .int 0, .ref q1, .ref q2, .ref q3, .ref q4, .null, .null, .null, .null, .null, .null, .null, .long 0, .long 0, .int 0]) := by rw [hg13, va_up_self]; rfl
  have e13_1 : g13 1 = aI (ks 0) 30 (fun _ => 0) := by rw [hg13, va_up_ne _ _ (by decide)]; exact e12_1
  have e13_2 : g13 2 = aI (ks 0) 30 (fun _ => 0) := by rw [hg13, va_up_ne _ _ (by decide)]; exact e12_2
  have e13_3 : g13 3 = aI (ks 0) 30 (fun _ => 0) := by rw [hg13, va_up_ne _ _ (by decide)]; exact e12_3
  have e13_4 : g13 4 = aI (ks 0) 30 (fun _ => 0) := by rw [hg13, va_up_ne _ _ (by decide)]; exact e12_4
  have hGo13 : ∀ r ∈ Rs, r ≠ 0 → g13 r = g r := fun r hr h => by rw [hg13, va_up_ne _ _ h]; exact hGo12 r hr h
  refine lv_aload_n hx hb dX4_init_67 rfl (lv_at hl 0 rfl) ?_
  refine lv_bipush (v := 30) hx hb dX4_init_68 (by decide) ?_
  have hn13_5 : 5 ∉ (4 :: 3 :: 2 :: 1 :: Rs) := by simp only [List.mem_cons, not_or]; exact ⟨by decide, by decide, by decide, by decide, hn5⟩
  refine z_newI (r := 5) (N := 30) hx hb hT hK hP hD hS hA hn13_5 (by decide) (by decide) (by decide) (Nat.le_of_ble_eq_true rfl) (Nat.le_of_ble_eq_true rfl) dX4_init_70 (fun q5 H hP hD hS => ?_)
  obtain ⟨g14, hg14⟩ : ∃ z, z = va_up g13 5 (aI (ks 0) 30 (fun _ => 0)) := ⟨_, rfl⟩
  rw [← hg14] at hP
  obtain ⟨ad14, had14⟩ : ∃ z, z = va_up ad12 5 q5 := ⟨_, rfl⟩
  rw [← had14] at hP hD
  have a14_0 := (congrFun had14 0).trans ((va_up_ne _ _ (by decide)).trans a12_0)
  have a14_1 := (congrFun had14 1).trans ((va_up_ne _ _ (by decide)).trans a12_1)
  have a14_2 := (congrFun had14 2).trans ((va_up_ne _ _ (by decide)).trans a12_2)
  have a14_3 := (congrFun had14 3).trans ((va_up_ne _ _ (by decide)).trans a12_3)
  have a14_4 := (congrFun had14 4).trans ((va_up_ne _ _ (by decide)).trans a12_4)
  have a14_5 : ad14 5 = q5 := by rw [had14, va_up_self]
  have hAo14 : ∀ r ∈ Rs, ad14 r = ad r := fun r hr => by rw [had14, va_up_ne _ _ (show r ≠ 5 from fun h => hn5 (h ▸ hr))]; exact hAo12 r hr
  have e14_0 : g14 0 = Sum.inr (4, [.int 0, .int 20, .int 5, .int 1000, .int 100, .int 500, .int 0, .ref q1, .ref q2, .ref q3, .ref q4, .null, .null, .null, .null, .null, .null, .null, .long 0, .long 0, .int 0]) := by rw [hg14, va_up_ne _ _ (by decide)]; exact e13_0
  have e14_1 : g14 1 = aI (ks 0) 30 (fun _ => 0) := by rw [hg14, va_up_ne _ _ (by decide)]; exact e13_1
  have e14_2 : g14 2 = aI (ks 0) 30 (fun _ => 0) := by rw [hg14, va_up_ne _ _ (by decide)]; exact e13_2
  have e14_3 : g14 3 = aI (ks 0) 30 (fun _ => 0) := by rw [hg14, va_up_ne _ _ (by decide)]; exact e13_3
  have e14_4 : g14 4 = aI (ks 0) 30 (fun _ => 0) := by rw [hg14, va_up_ne _ _ (by decide)]; exact e13_4
  have e14_5 : g14 5 = aI (ks 0) 30 (fun _ => 0) := by rw [hg14, va_up_self]
  have hGo14 : ∀ r ∈ Rs, r ≠ 0 → g14 r = g r := fun r hr h => by rw [hg14, va_up_ne _ _ (show r ≠ 5 from fun h2 => hn5 (h2 ▸ hr))]; exact hGo13 r hr h
  refine pa_X4_38 hx hb hT hown hK hin hP hD hS (List.mem_cons_of_mem _ (List.mem_cons_of_mem _ (List.mem_cons_of_mem _ (List.mem_cons_of_mem _ (List.mem_cons_of_mem _ h0m))))) a14_0 e14_0 (Nat.le_of_ble_eq_true rfl) dX4_init_72 (fun H locs hP hS => ?_)
  obtain ⟨g15, hg15⟩ : ∃ z, z = va_up g14 0 (.inr (4, List.set [.int 0, .int 20, .int 5, .int 1000, .int 100, .int 500, .int 0, .ref q1, .ref q2, .ref q3, .ref q4, .null, .null, .null, .null, .null, .null, .null, .long 0, .long 0, .int 0] 11 (.ref q5))) := ⟨_, rfl⟩
  rw [← hg15] at hP
  have e15_0 : g15 0 = Sum.inr (4, [.int 0, .int 20, .int 5, .int 1000, .int 100, .int 500, .int 0, .ref q1, .ref q2, .ref q3, .ref q4, .ref q5, .null, .null, .null, .null, .null, .null, .long 0, .long 0, .int 0]) := by rw [hg15, va_up_self]; rfl
  have e15_1 : g15 1 = aI (ks 0) 30 (fun _ => 0) := by rw [hg15, va_up_ne _ _ (by decide)]; exact e14_1
  have e15_2 : g15 2 = aI (ks 0) 30 (fun _ => 0) := by rw [hg15, va_up_ne _ _ (by decide)]; exact e14_2
  have e15_3 : g15 3 = aI (ks 0) 30 (fun _ => 0) := by rw [hg15, va_up_ne _ _ (by decide)]; exact e14_3
  have e15_4 : g15 4 = aI (ks 0) 30 (fun _ => 0) := by rw [hg15, va_up_ne _ _ (by decide)]; exact e14_4
  have e15_5 : g15 5 = aI (ks 0) 30 (fun _ => 0) := by rw [hg15, va_up_ne _ _ (by decide)]; exact e14_5
  have hGo15 : ∀ r ∈ Rs, r ≠ 0 → g15 r = g r := fun r hr h => by rw [hg15, va_up_ne _ _ h]; exact hGo14 r hr h
  refine lv_aload_n hx hb dX4_init_75 rfl (lv_at hl 0 rfl) ?_
  refine lv_bipush (v := 30) hx hb dX4_init_76 (by decide) ?_
  have hn15_6 : 6 ∉ (5 :: 4 :: 3 :: 2 :: 1 :: Rs) := by simp only [List.mem_cons, not_or]; exact ⟨by decide, by decide, by decide, by decide, by decide, hn6⟩
  refine z_newI (r := 6) (N := 30) hx hb hT hK hP hD hS hA hn15_6 (by decide) (by decide) (by decide) (Nat.le_of_ble_eq_true rfl) (Nat.le_of_ble_eq_true rfl) dX4_init_78 (fun q6 H hP hD hS => ?_)
  obtain ⟨g16, hg16⟩ : ∃ z, z = va_up g15 6 (aI (ks 0) 30 (fun _ => 0)) := ⟨_, rfl⟩
  rw [← hg16] at hP
  obtain ⟨ad16, had16⟩ : ∃ z, z = va_up ad14 6 q6 := ⟨_, rfl⟩
  rw [← had16] at hP hD
  have a16_0 := (congrFun had16 0).trans ((va_up_ne _ _ (by decide)).trans a14_0)
  have a16_1 := (congrFun had16 1).trans ((va_up_ne _ _ (by decide)).trans a14_1)
  have a16_2 := (congrFun had16 2).trans ((va_up_ne _ _ (by decide)).trans a14_2)
  have a16_3 := (congrFun had16 3).trans ((va_up_ne _ _ (by decide)).trans a14_3)
  have a16_4 := (congrFun had16 4).trans ((va_up_ne _ _ (by decide)).trans a14_4)
  have a16_5 := (congrFun had16 5).trans ((va_up_ne _ _ (by decide)).trans a14_5)
  have a16_6 : ad16 6 = q6 := by rw [had16, va_up_self]
  have hAo16 : ∀ r ∈ Rs, ad16 r = ad r := fun r hr => by rw [had16, va_up_ne _ _ (show r ≠ 6 from fun h => hn6 (h ▸ hr))]; exact hAo14 r hr
  have e16_0 : g16 0 = Sum.inr (4, [.int 0, .int 20, .int 5, .int 1000, .int 100, .int 500, .int 0, .ref q1, .ref q2, .ref q3, .ref q4, .ref q5, .null, .null, .null, .null, .null, .null, .long 0, .long 0, .int 0]) := by rw [hg16, va_up_ne _ _ (by decide)]; exact e15_0
  have e16_1 : g16 1 = aI (ks 0) 30 (fun _ => 0) := by rw [hg16, va_up_ne _ _ (by decide)]; exact e15_1
  have e16_2 : g16 2 = aI (ks 0) 30 (fun _ => 0) := by rw [hg16, va_up_ne _ _ (by decide)]; exact e15_2
  have e16_3 : g16 3 = aI (ks 0) 30 (fun _ => 0) := by rw [hg16, va_up_ne _ _ (by decide)]; exact e15_3
  have e16_4 : g16 4 = aI (ks 0) 30 (fun _ => 0) := by rw [hg16, va_up_ne _ _ (by decide)]; exact e15_4
  have e16_5 : g16 5 = aI (ks 0) 30 (fun _ => 0) := by rw [hg16, va_up_ne _ _ (by decide)]; exact e15_5
  have e16_6 : g16 6 = aI (ks 0) 30 (fun _ => 0) := by rw [hg16, va_up_self]
  have hGo16 : ∀ r ∈ Rs, r ≠ 0 → g16 r = g r := fun r hr h => by rw [hg16, va_up_ne _ _ (show r ≠ 6 from fun h2 => hn6 (h2 ▸ hr))]; exact hGo15 r hr h
  refine pa_X4_41 hx hb hT hown hK hin hP hD hS (List.mem_cons_of_mem _ (List.mem_cons_of_mem _ (List.mem_cons_of_mem _ (List.mem_cons_of_mem _ (List.mem_cons_of_mem _ (List.mem_cons_of_mem _ h0m)))))) a16_0 e16_0 (Nat.le_of_ble_eq_true rfl) dX4_init_80 (fun H locs hP hS => ?_)
  obtain ⟨g17, hg17⟩ : ∃ z, z = va_up g16 0 (.inr (4, List.set [.int 0, .int 20, .int 5, .int 1000, .int 100, .int 500, .int 0, .ref q1, .ref q2, .ref q3, .ref q4, .ref q5, .null, .null, .null, .null, .null, .null, .long 0, .long 0, .int 0] 12 (.ref q6))) := ⟨_, rfl⟩
  rw [← hg17] at hP
  have e17_0 : g17 0 = Sum.inr (4, [.int 0, .int 20, .int 5, .int 1000, .int 100, .int 500, .int 0, .ref q1, .ref q2, .ref q3, .ref q4, .ref q5, .ref q6, .null, .null, .null, .null, .null, .long 0, .long 0, .int 0]) := by rw [hg17, va_up_self]; rfl
  have e17_1 : g17 1 = aI (ks 0) 30 (fun _ => 0) := by rw [hg17, va_up_ne _ _ (by decide)]; exact e16_1
  have e17_2 : g17 2 = aI (ks 0) 30 (fun _ => 0) := by rw [hg17, va_up_ne _ _ (by decide)]; exact e16_2
  have e17_3 : g17 3 = aI (ks 0) 30 (fun _ => 0) := by rw [hg17, va_up_ne _ _ (by decide)]; exact e16_3
  have e17_4 : g17 4 = aI (ks 0) 30 (fun _ => 0) := by rw [hg17, va_up_ne _ _ (by decide)]; exact e16_4
  have e17_5 : g17 5 = aI (ks 0) 30 (fun _ => 0) := by rw [hg17, va_up_ne _ _ (by decide)]; exact e16_5
  have e17_6 : g17 6 = aI (ks 0) 30 (fun _ => 0) := by rw [hg17, va_up_ne _ _ (by decide)]; exact e16_6
  have hGo17 : ∀ r ∈ Rs, r ≠ 0 → g17 r = g r := fun r hr h => by rw [hg17, va_up_ne _ _ h]; exact hGo16 r hr h
  refine lv_aload_n hx hb dX4_init_83 rfl (lv_at hl 0 rfl) ?_
  refine lv_bipush (v := 30) hx hb dX4_init_84 (by decide) ?_
  have hn17_7 : 7 ∉ (6 :: 5 :: 4 :: 3 :: 2 :: 1 :: Rs) := by simp only [List.mem_cons, not_or]; exact ⟨by decide, by decide, by decide, by decide, by decide, by decide, hn7⟩
  refine z_newI (r := 7) (N := 30) hx hb hT hK hP hD hS hA hn17_7 (by decide) (by decide) (by decide) (Nat.le_of_ble_eq_true rfl) (Nat.le_of_ble_eq_true rfl) dX4_init_86 (fun q7 H hP hD hS => ?_)
  obtain ⟨g18, hg18⟩ : ∃ z, z = va_up g17 7 (aI (ks 0) 30 (fun _ => 0)) := ⟨_, rfl⟩
  rw [← hg18] at hP
  obtain ⟨ad18, had18⟩ : ∃ z, z = va_up ad16 7 q7 := ⟨_, rfl⟩
  rw [← had18] at hP hD
  have a18_0 := (congrFun had18 0).trans ((va_up_ne _ _ (by decide)).trans a16_0)
  have a18_1 := (congrFun had18 1).trans ((va_up_ne _ _ (by decide)).trans a16_1)
  have a18_2 := (congrFun had18 2).trans ((va_up_ne _ _ (by decide)).trans a16_2)
  have a18_3 := (congrFun had18 3).trans ((va_up_ne _ _ (by decide)).trans a16_3)
  have a18_4 := (congrFun had18 4).trans ((va_up_ne _ _ (by decide)).trans a16_4)
  have a18_5 := (congrFun had18 5).trans ((va_up_ne _ _ (by decide)).trans a16_5)
  have a18_6 := (congrFun had18 6).trans ((va_up_ne _ _ (by decide)).trans a16_6)
  have a18_7 : ad18 7 = q7 := by rw [had18, va_up_self]
  have hAo18 : ∀ r ∈ Rs, ad18 r = ad r := fun r hr => by rw [had18, va_up_ne _ _ (show r ≠ 7 from fun h => hn7 (h ▸ hr))]; exact hAo16 r hr
  have e18_0 : g18 0 = Sum.inr (4, [.int 0, .int 20, .int 5, .int 1000, .int 100, .int 500, .int 0, .ref q1, .ref q2, .ref q3, .ref q4, .ref q5, .ref q6, .null, .null, .null, .null, .null, .long 0, .long 0, .int 0]) := by rw [hg18, va_up_ne _ _ (by decide)]; exact e17_0
  have e18_1 : g18 1 = aI (ks 0) 30 (fun _ => 0) := by rw [hg18, va_up_ne _ _ (by decide)]; exact e17_1
  have e18_2 : g18 2 = aI (ks 0) 30 (fun _ => 0) := by rw [hg18, va_up_ne _ _ (by decide)]; exact e17_2
  have e18_3 : g18 3 = aI (ks 0) 30 (fun _ => 0) := by rw [hg18, va_up_ne _ _ (by decide)]; exact e17_3
  have e18_4 : g18 4 = aI (ks 0) 30 (fun _ => 0) := by rw [hg18, va_up_ne _ _ (by decide)]; exact e17_4
  have e18_5 : g18 5 = aI (ks 0) 30 (fun _ => 0) := by rw [hg18, va_up_ne _ _ (by decide)]; exact e17_5
  have e18_6 : g18 6 = aI (ks 0) 30 (fun _ => 0) := by rw [hg18, va_up_ne _ _ (by decide)]; exact e17_6
  have e18_7 : g18 7 = aI (ks 0) 30 (fun _ => 0) := by rw [hg18, va_up_self]
  have hGo18 : ∀ r ∈ Rs, r ≠ 0 → g18 r = g r := fun r hr h => by rw [hg18, va_up_ne _ _ (show r ≠ 7 from fun h2 => hn7 (h2 ▸ hr))]; exact hGo17 r hr h
  refine pa_X4_44 hx hb hT hown hK hin hP hD hS (List.mem_cons_of_mem _ (List.mem_cons_of_mem _ (List.mem_cons_of_mem _ (List.mem_cons_of_mem _ (List.mem_cons_of_mem _ (List.mem_cons_of_mem _ (List.mem_cons_of_mem _ h0m))))))) a18_0 e18_0 (Nat.le_of_ble_eq_true rfl) dX4_init_88 (fun H locs hP hS => ?_)
  obtain ⟨g19, hg19⟩ : ∃ z, z = va_up g18 0 (.inr (4, List.set [.int 0, .int 20, .int 5, .int 1000, .int 100, .int 500, .int 0, .ref q1, .ref q2, .ref q3, .ref q4, .ref q5, .ref q6, .null, .null, .null, .null, .null, .long 0, .long 0, .int 0] 13 (.ref q7))) := ⟨_, rfl⟩
  rw [← hg19] at hP
  have e19_0 : g19 0 = Sum.inr (4, [.int 0, .int 20, .int 5, .int 1000, .int 100, .int 500, .int 0, .ref q1, .ref q2, .ref q3, .ref q4, .ref q5, .ref q6, .ref q7, .null, .null, .null, .null, .long 0, .long 0, .int 0]) := by rw [hg19, va_up_self]; rfl
  have e19_1 : g19 1 = aI (ks 0) 30 (fun _ => 0) := by rw [hg19, va_up_ne _ _ (by decide)]; exact e18_1
  have e19_2 : g19 2 = aI (ks 0) 30 (fun _ => 0) := by rw [hg19, va_up_ne _ _ (by decide)]; exact e18_2
  have e19_3 : g19 3 = aI (ks 0) 30 (fun _ => 0) := by rw [hg19, va_up_ne _ _ (by decide)]; exact e18_3
  have e19_4 : g19 4 = aI (ks 0) 30 (fun _ => 0) := by rw [hg19, va_up_ne _ _ (by decide)]; exact e18_4
  have e19_5 : g19 5 = aI (ks 0) 30 (fun _ => 0) := by rw [hg19, va_up_ne _ _ (by decide)]; exact e18_5
  have e19_6 : g19 6 = aI (ks 0) 30 (fun _ => 0) := by rw [hg19, va_up_ne _ _ (by decide)]; exact e18_6
  have e19_7 : g19 7 = aI (ks 0) 30 (fun _ => 0) := by rw [hg19, va_up_ne _ _ (by decide)]; exact e18_7
  have hGo19 : ∀ r ∈ Rs, r ≠ 0 → g19 r = g r := fun r hr h => by rw [hg19, va_up_ne _ _ h]; exact hGo18 r hr h
  refine lv_aload_n hx hb dX4_init_91 rfl (lv_at hl 0 rfl) ?_
  refine lv_bipush (v := 30) hx hb dX4_init_92 (by decide) ?_
  have hn19_8 : 8 ∉ (7 :: 6 :: 5 :: 4 :: 3 :: 2 :: 1 :: Rs) := by simp only [List.mem_cons, not_or]; exact ⟨by decide, by decide, by decide, by decide, by decide, by decide, by decide, hn8⟩
  refine z_newJ (r := 8) (N := 30) hx hb hT hK hP hD hS hA hn19_8 (by decide) (by decide) (by decide) (Nat.le_of_ble_eq_true rfl) (Nat.le_of_ble_eq_true rfl) dX4_init_94 (fun q8 H hP hD hS => ?_)
  obtain ⟨g20, hg20⟩ : ∃ z, z = va_up g19 8 (aJ (ks 1) 30 (fun _ => 0)) := ⟨_, rfl⟩
  rw [← hg20] at hP
  obtain ⟨ad20, had20⟩ : ∃ z, z = va_up ad18 8 q8 := ⟨_, rfl⟩
  rw [← had20] at hP hD
  have a20_0 := (congrFun had20 0).trans ((va_up_ne _ _ (by decide)).trans a18_0)
  have a20_1 := (congrFun had20 1).trans ((va_up_ne _ _ (by decide)).trans a18_1)
  have a20_2 := (congrFun had20 2).trans ((va_up_ne _ _ (by decide)).trans a18_2)
  have a20_3 := (congrFun had20 3).trans ((va_up_ne _ _ (by decide)).trans a18_3)
  have a20_4 := (congrFun had20 4).trans ((va_up_ne _ _ (by decide)).trans a18_4)
  have a20_5 := (congrFun had20 5).trans ((va_up_ne _ _ (by decide)).trans a18_5)
  have a20_6 := (congrFun had20 6).trans ((va_up_ne _ _ (by decide)).trans a18_6)
  have a20_7 := (congrFun had20 7).trans ((va_up_ne _ _ (by decide)).trans a18_7)
  have a20_8 : ad20 8 = q8 := by rw [had20, va_up_self]
  have hAo20 : ∀ r ∈ Rs, ad20 r = ad r := fun r hr => by rw [had20, va_up_ne _ _ (show r ≠ 8 from fun h => hn8 (h ▸ hr))]; exact hAo18 r hr
  have e20_0 : g20 0 = Sum.inr (4, [.int 0, .int 20, .int 5, .int 1000, .int 100, .int 500, .int 0, .ref q1, .ref q2, .ref q3, .ref q4, .ref q5, .ref q6, .ref q7, .null, .null, .null, .null, .long 0, .long 0, .int 0]) := by rw [hg20, va_up_ne _ _ (by decide)]; exact e19_0
  have e20_1 : g20 1 = aI (ks 0) 30 (fun _ => 0) := by rw [hg20, va_up_ne _ _ (by decide)]; exact e19_1
  have e20_2 : g20 2 = aI (ks 0) 30 (fun _ => 0) := by rw [hg20, va_up_ne _ _ (by decide)]; exact e19_2
  have e20_3 : g20 3 = aI (ks 0) 30 (fun _ => 0) := by rw [hg20, va_up_ne _ _ (by decide)]; exact e19_3
  have e20_4 : g20 4 = aI (ks 0) 30 (fun _ => 0) := by rw [hg20, va_up_ne _ _ (by decide)]; exact e19_4
  have e20_5 : g20 5 = aI (ks 0) 30 (fun _ => 0) := by rw [hg20, va_up_ne _ _ (by decide)]; exact e19_5
  have e20_6 : g20 6 = aI (ks 0) 30 (fun _ => 0) := by rw [hg20, va_up_ne _ _ (by decide)]; exact e19_6
  have e20_7 : g20 7 = aI (ks 0) 30 (fun _ => 0) := by rw [hg20, va_up_ne _ _ (by decide)]; exact e19_7
  have e20_8 : g20 8 = aJ (ks 1) 30 (fun _ => 0) := by rw [hg20, va_up_self]
  have hGo20 : ∀ r ∈ Rs, r ≠ 0 → g20 r = g r := fun r hr h => by rw [hg20, va_up_ne _ _ (show r ≠ 8 from fun h2 => hn8 (h2 ▸ hr))]; exact hGo19 r hr h
  refine pa_X4_47 hx hb hT hown hK hin hP hD hS (List.mem_cons_of_mem _ (List.mem_cons_of_mem _ (List.mem_cons_of_mem _ (List.mem_cons_of_mem _ (List.mem_cons_of_mem _ (List.mem_cons_of_mem _ (List.mem_cons_of_mem _ (List.mem_cons_of_mem _ h0m)))))))) a20_0 e20_0 (Nat.le_of_ble_eq_true rfl) dX4_init_96 (fun H locs hP hS => ?_)
  obtain ⟨g21, hg21⟩ : ∃ z, z = va_up g20 0 (.inr (4, List.set [.int 0, .int 20, .int 5, .int 1000, .int 100, .int 500, .int 0, .ref q1, .ref q2, .ref q3, .ref q4, .ref q5, .ref q6, .ref q7, .null, .null, .null, .null, .long 0, .long 0, .int 0] 14 (.ref q8))) := ⟨_, rfl⟩
  rw [← hg21] at hP
  have e21_0 : g21 0 = Sum.inr (4, [.int 0, .int 20, .int 5, .int 1000, .int 100, .int 500, .int 0, .ref q1, .ref q2, .ref q3, .ref q4, .ref q5, .ref q6, .ref q7, .ref q8, .null, .null, .null, .long 0, .long 0, .int 0]) := by rw [hg21, va_up_self]; rfl
  have e21_1 : g21 1 = aI (ks 0) 30 (fun _ => 0) := by rw [hg21, va_up_ne _ _ (by decide)]; exact e20_1
  have e21_2 : g21 2 = aI (ks 0) 30 (fun _ => 0) := by rw [hg21, va_up_ne _ _ (by decide)]; exact e20_2
  have e21_3 : g21 3 = aI (ks 0) 30 (fun _ => 0) := by rw [hg21, va_up_ne _ _ (by decide)]; exact e20_3
  have e21_4 : g21 4 = aI (ks 0) 30 (fun _ => 0) := by rw [hg21, va_up_ne _ _ (by decide)]; exact e20_4
  have e21_5 : g21 5 = aI (ks 0) 30 (fun _ => 0) := by rw [hg21, va_up_ne _ _ (by decide)]; exact e20_5
  have e21_6 : g21 6 = aI (ks 0) 30 (fun _ => 0) := by rw [hg21, va_up_ne _ _ (by decide)]; exact e20_6
  have e21_7 : g21 7 = aI (ks 0) 30 (fun _ => 0) := by rw [hg21, va_up_ne _ _ (by decide)]; exact e20_7
  have e21_8 : g21 8 = aJ (ks 1) 30 (fun _ => 0) := by rw [hg21, va_up_ne _ _ (by decide)]; exact e20_8
  have hGo21 : ∀ r ∈ Rs, r ≠ 0 → g21 r = g r := fun r hr h => by rw [hg21, va_up_ne _ _ h]; exact hGo20 r hr h
  refine lv_aload_n hx hb dX4_init_99 rfl (lv_at hl 0 rfl) ?_
  refine lv_bipush (v := 30) hx hb dX4_init_100 (by decide) ?_
  have hn21_9 : 9 ∉ (8 :: 7 :: 6 :: 5 :: 4 :: 3 :: 2 :: 1 :: Rs) := by simp only [List.mem_cons, not_or]; exact ⟨by decide, by decide, by decide, by decide, by decide, by decide, by decide, by decide, hn9⟩
  refine z_newJ (r := 9) (N := 30) hx hb hT hK hP hD hS hA hn21_9 (by decide) (by decide) (by decide) (Nat.le_of_ble_eq_true rfl) (Nat.le_of_ble_eq_true rfl) dX4_init_102 (fun q9 H hP hD hS => ?_)
  obtain ⟨g22, hg22⟩ : ∃ z, z = va_up g21 9 (aJ (ks 1) 30 (fun _ => 0)) := ⟨_, rfl⟩
  rw [← hg22] at hP
  obtain ⟨ad22, had22⟩ : ∃ z, z = va_up ad20 9 q9 := ⟨_, rfl⟩
  rw [← had22] at hP hD
  have a22_0 := (congrFun had22 0).trans ((va_up_ne _ _ (by decide)).trans a20_0)
  have a22_1 := (congrFun had22 1).trans ((va_up_ne _ _ (by decide)).trans a20_1)
  have a22_2 := (congrFun had22 2).trans ((va_up_ne _ _ (by decide)).trans a20_2)
  have a22_3 := (congrFun had22 3).trans ((va_up_ne _ _ (by decide)).trans a20_3)
  have a22_4 := (congrFun had22 4).trans ((va_up_ne _ _ (by decide)).trans a20_4)
  have a22_5 := (congrFun had22 5).trans ((va_up_ne _ _ (by decide)).trans a20_5)
  have a22_6 := (congrFun had22 6).trans ((va_up_ne _ _ (by decide)).trans a20_6)
  have a22_7 := (congrFun had22 7).trans ((va_up_ne _ _ (by decide)).trans a20_7)
  have a22_8 := (congrFun had22 8).trans ((va_up_ne _ _ (by decide)).trans a20_8)
  have a22_9 : ad22 9 = q9 := by rw [had22, va_up_self]
  have hAo22 : ∀ r ∈ Rs, ad22 r = ad r := fun r hr => by rw [had22, va_up_ne _ _ (show r ≠ 9 from fun h => hn9 (h ▸ hr))]; exact hAo20 r hr
  have e22_0 : g22 0 = Sum.inr (4, [.int 0, .int 20, .int 5, .int 1000, .int 100, .int 500, .int 0, .ref q1, .ref q2, .ref q3, .ref q4, .ref q5, .ref q6, .ref q7, .ref q8, .null, .null, .null, .long 0, .long 0, .int 0]) := by rw [hg22, va_up_ne _ _ (by decide)]; exact e21_0
  have e22_1 : g22 1 = aI (ks 0) 30 (fun _ => 0) := by rw [hg22, va_up_ne _ _ (by decide)]; exact e21_1
  have e22_2 : g22 2 = aI (ks 0) 30 (fun _ => 0) := by rw [hg22, va_up_ne _ _ (by decide)]; exact e21_2
  have e22_3 : g22 3 = aI (ks 0) 30 (fun _ => 0) := by rw [hg22, va_up_ne _ _ (by decide)]; exact e21_3
  have e22_4 : g22 4 = aI (ks 0) 30 (fun _ => 0) := by rw [hg22, va_up_ne _ _ (by decide)]; exact e21_4
  have e22_5 : g22 5 = aI (ks 0) 30 (fun _ => 0) := by rw [hg22, va_up_ne _ _ (by decide)]; exact e21_5
  have e22_6 : g22 6 = aI (ks 0) 30 (fun _ => 0) := by rw [hg22, va_up_ne _ _ (by decide)]; exact e21_6
  have e22_7 : g22 7 = aI (ks 0) 30 (fun _ => 0) := by rw [hg22, va_up_ne _ _ (by decide)]; exact e21_7
  have e22_8 : g22 8 = aJ (ks 1) 30 (fun _ => 0) := by rw [hg22, va_up_ne _ _ (by decide)]; exact e21_8
  have e22_9 : g22 9 = aJ (ks 1) 30 (fun _ => 0) := by rw [hg22, va_up_self]
  have hGo22 : ∀ r ∈ Rs, r ≠ 0 → g22 r = g r := fun r hr h => by rw [hg22, va_up_ne _ _ (show r ≠ 9 from fun h2 => hn9 (h2 ▸ hr))]; exact hGo21 r hr h
  refine pa_X4_51 hx hb hT hown hK hin hP hD hS (List.mem_cons_of_mem _ (List.mem_cons_of_mem _ (List.mem_cons_of_mem _ (List.mem_cons_of_mem _ (List.mem_cons_of_mem _ (List.mem_cons_of_mem _ (List.mem_cons_of_mem _ (List.mem_cons_of_mem _ (List.mem_cons_of_mem _ h0m))))))))) a22_0 e22_0 (Nat.le_of_ble_eq_true rfl) dX4_init_104 (fun H locs hP hS => ?_)
  obtain ⟨g23, hg23⟩ : ∃ z, z = va_up g22 0 (.inr (4, List.set [.int 0, .int 20, .int 5, .int 1000, .int 100, .int 500, .int 0, .ref q1, .ref q2, .ref q3, .ref q4, .ref q5, .ref q6, .ref q7, .ref q8, .null, .null, .null, .long 0, .long 0, .int 0] 15 (.ref q9))) := ⟨_, rfl⟩
  rw [← hg23] at hP
  have e23_0 : g23 0 = Sum.inr (4, [.int 0, .int 20, .int 5, .int 1000, .int 100, .int 500, .int 0, .ref q1, .ref q2, .ref q3, .ref q4, .ref q5, .ref q6, .ref q7, .ref q8, .ref q9, .null, .null, .long 0, .long 0, .int 0]) := by rw [hg23, va_up_self]; rfl
  have e23_1 : g23 1 = aI (ks 0) 30 (fun _ => 0) := by rw [hg23, va_up_ne _ _ (by decide)]; exact e22_1
  have e23_2 : g23 2 = aI (ks 0) 30 (fun _ => 0) := by rw [hg23, va_up_ne _ _ (by decide)]; exact e22_2
  have e23_3 : g23 3 = aI (ks 0) 30 (fun _ => 0) := by rw [hg23, va_up_ne _ _ (by decide)]; exact e22_3
  have e23_4 : g23 4 = aI (ks 0) 30 (fun _ => 0) := by rw [hg23, va_up_ne _ _ (by decide)]; exact e22_4
  have e23_5 : g23 5 = aI (ks 0) 30 (fun _ => 0) := by rw [hg23, va_up_ne _ _ (by decide)]; exact e22_5
  have e23_6 : g23 6 = aI (ks 0) 30 (fun _ => 0) := by rw [hg23, va_up_ne _ _ (by decide)]; exact e22_6
  have e23_7 : g23 7 = aI (ks 0) 30 (fun _ => 0) := by rw [hg23, va_up_ne _ _ (by decide)]; exact e22_7
  have e23_8 : g23 8 = aJ (ks 1) 30 (fun _ => 0) := by rw [hg23, va_up_ne _ _ (by decide)]; exact e22_8
  have e23_9 : g23 9 = aJ (ks 1) 30 (fun _ => 0) := by rw [hg23, va_up_ne _ _ (by decide)]; exact e22_9
  have hGo23 : ∀ r ∈ Rs, r ≠ 0 → g23 r = g r := fun r hr h => by rw [hg23, va_up_ne _ _ h]; exact hGo22 r hr h
  refine lv_aload_n hx hb dX4_init_107 rfl (lv_at hl 0 rfl) ?_
  refine lv_bipush (v := 21) hx hb dX4_init_108 (by decide) ?_
  have hn23_10 : 10 ∉ (9 :: 8 :: 7 :: 6 :: 5 :: 4 :: 3 :: 2 :: 1 :: Rs) := by simp only [List.mem_cons, not_or]; exact ⟨by decide, by decide, by decide, by decide, by decide, by decide, by decide, by decide, by decide, hn10⟩
  refine z_newI (r := 10) (N := 21) hx hb hT hK hP hD hS hA hn23_10 (by decide) (by decide) (by decide) (Nat.le_of_ble_eq_true rfl) (Nat.le_of_ble_eq_true rfl) dX4_init_110 (fun q10 H hP hD hS => ?_)
  obtain ⟨g24, hg24⟩ : ∃ z, z = va_up g23 10 (aI (ks 0) 21 (fun _ => 0)) := ⟨_, rfl⟩
  rw [← hg24] at hP
  obtain ⟨ad24, had24⟩ : ∃ z, z = va_up ad22 10 q10 := ⟨_, rfl⟩
  rw [← had24] at hP hD
  have a24_0 := (congrFun had24 0).trans ((va_up_ne _ _ (by decide)).trans a22_0)
  have a24_1 := (congrFun had24 1).trans ((va_up_ne _ _ (by decide)).trans a22_1)
  have a24_2 := (congrFun had24 2).trans ((va_up_ne _ _ (by decide)).trans a22_2)
  have a24_3 := (congrFun had24 3).trans ((va_up_ne _ _ (by decide)).trans a22_3)
  have a24_4 := (congrFun had24 4).trans ((va_up_ne _ _ (by decide)).trans a22_4)
  have a24_5 := (congrFun had24 5).trans ((va_up_ne _ _ (by decide)).trans a22_5)
  have a24_6 := (congrFun had24 6).trans ((va_up_ne _ _ (by decide)).trans a22_6)
  have a24_7 := (congrFun had24 7).trans ((va_up_ne _ _ (by decide)).trans a22_7)
  have a24_8 := (congrFun had24 8).trans ((va_up_ne _ _ (by decide)).trans a22_8)
  have a24_9 := (congrFun had24 9).trans ((va_up_ne _ _ (by decide)).trans a22_9)
  have a24_10 : ad24 10 = q10 := by rw [had24, va_up_self]
  have hAo24 : ∀ r ∈ Rs, ad24 r = ad r := fun r hr => by rw [had24, va_up_ne _ _ (show r ≠ 10 from fun h => hn10 (h ▸ hr))]; exact hAo22 r hr
  have e24_0 : g24 0 = Sum.inr (4, [.int 0, .int 20, .int 5, .int 1000, .int 100, .int 500, .int 0, .ref q1, .ref q2, .ref q3, .ref q4, .ref q5, .ref q6, .ref q7, .ref q8, .ref q9, .null, .null, .long 0, .long 0, .int 0]) := by rw [hg24, va_up_ne _ _ (by decide)]; exact e23_0
  have e24_1 : g24 1 = aI (ks 0) 30 (fun _ => 0) := by rw [hg24, va_up_ne _ _ (by decide)]; exact e23_1
  have e24_2 : g24 2 = aI (ks 0) 30 (fun _ => 0) := by rw [hg24, va_up_ne _ _ (by decide)]; exact e23_2
  have e24_3 : g24 3 = aI (ks 0) 30 (fun _ => 0) := by rw [hg24, va_up_ne _ _ (by decide)]; exact e23_3
  have e24_4 : g24 4 = aI (ks 0) 30 (fun _ => 0) := by rw [hg24, va_up_ne _ _ (by decide)]; exact e23_4
  have e24_5 : g24 5 = aI (ks 0) 30 (fun _ => 0) := by rw [hg24, va_up_ne _ _ (by decide)]; exact e23_5
  have e24_6 : g24 6 = aI (ks 0) 30 (fun _ => 0) := by rw [hg24, va_up_ne _ _ (by decide)]; exact e23_6
  have e24_7 : g24 7 = aI (ks 0) 30 (fun _ => 0) := by rw [hg24, va_up_ne _ _ (by decide)]; exact e23_7
  have e24_8 : g24 8 = aJ (ks 1) 30 (fun _ => 0) := by rw [hg24, va_up_ne _ _ (by decide)]; exact e23_8
  have e24_9 : g24 9 = aJ (ks 1) 30 (fun _ => 0) := by rw [hg24, va_up_ne _ _ (by decide)]; exact e23_9
  have e24_10 : g24 10 = aI (ks 0) 21 (fun _ => 0) := by rw [hg24, va_up_self]
  have hGo24 : ∀ r ∈ Rs, r ≠ 0 → g24 r = g r := fun r hr h => by rw [hg24, va_up_ne _ _ (show r ≠ 10 from fun h2 => hn10 (h2 ▸ hr))]; exact hGo23 r hr h
  refine pa_X4_54 hx hb hT hown hK hin hP hD hS (List.mem_cons_of_mem _ (List.mem_cons_of_mem _ (List.mem_cons_of_mem _ (List.mem_cons_of_mem _ (List.mem_cons_of_mem _ (List.mem_cons_of_mem _ (List.mem_cons_of_mem _ (List.mem_cons_of_mem _ (List.mem_cons_of_mem _ (List.mem_cons_of_mem _ h0m)))))))))) a24_0 e24_0 (Nat.le_of_ble_eq_true rfl) dX4_init_112 (fun H locs hP hS => ?_)
  obtain ⟨g25, hg25⟩ : ∃ z, z = va_up g24 0 (.inr (4, List.set [.int 0, .int 20, .int 5, .int 1000, .int 100, .int 500, .int 0, .ref q1, .ref q2, .ref q3, .ref q4, .ref q5, .ref q6, .ref q7, .ref q8, .ref q9, .null, .null, .long 0, .long 0, .int 0] 16 (.ref q10))) := ⟨_, rfl⟩
  rw [← hg25] at hP
  have e25_0 : g25 0 = Sum.inr (4, [.int 0, .int 20, .int 5, .int 1000, .int 100, .int 500, .int 0, .ref q1, .ref q2, .ref q3, .ref q4, .ref q5, .ref q6, .ref q7, .ref q8, .ref q9, .ref q10, .null, .long 0, .long 0, .int 0]) := by rw [hg25, va_up_self]; rfl
  have e25_1 : g25 1 = aI (ks 0) 30 (fun _ => 0) := by rw [hg25, va_up_ne _ _ (by decide)]; exact e24_1
  have e25_2 : g25 2 = aI (ks 0) 30 (fun _ => 0) := by rw [hg25, va_up_ne _ _ (by decide)]; exact e24_2
  have e25_3 : g25 3 = aI (ks 0) 30 (fun _ => 0) := by rw [hg25, va_up_ne _ _ (by decide)]; exact e24_3
  have e25_4 : g25 4 = aI (ks 0) 30 (fun _ => 0) := by rw [hg25, va_up_ne _ _ (by decide)]; exact e24_4
  have e25_5 : g25 5 = aI (ks 0) 30 (fun _ => 0) := by rw [hg25, va_up_ne _ _ (by decide)]; exact e24_5
  have e25_6 : g25 6 = aI (ks 0) 30 (fun _ => 0) := by rw [hg25, va_up_ne _ _ (by decide)]; exact e24_6
  have e25_7 : g25 7 = aI (ks 0) 30 (fun _ => 0) := by rw [hg25, va_up_ne _ _ (by decide)]; exact e24_7
  have e25_8 : g25 8 = aJ (ks 1) 30 (fun _ => 0) := by rw [hg25, va_up_ne _ _ (by decide)]; exact e24_8
  have e25_9 : g25 9 = aJ (ks 1) 30 (fun _ => 0) := by rw [hg25, va_up_ne _ _ (by decide)]; exact e24_9
  have e25_10 : g25 10 = aI (ks 0) 21 (fun _ => 0) := by rw [hg25, va_up_ne _ _ (by decide)]; exact e24_10
  have hGo25 : ∀ r ∈ Rs, r ≠ 0 → g25 r = g r := fun r hr h => by rw [hg25, va_up_ne _ _ h]; exact hGo24 r hr h
  refine lv_aload_n hx hb dX4_init_115 rfl (lv_at hl 0 rfl) ?_
  refine lv_bipush (v := 21) hx hb dX4_init_116 (by decide) ?_
  have hn25_11 : 11 ∉ (10 :: 9 :: 8 :: 7 :: 6 :: 5 :: 4 :: 3 :: 2 :: 1 :: Rs) := by simp only [List.mem_cons, not_or]; exact ⟨by decide, by decide, by decide, by decide, by decide, by decide, by decide, by decide, by decide, by decide, hn11⟩
  refine z_newI (r := 11) (N := 21) hx hb hT hK hP hD hS hA hn25_11 (by decide) (by decide) (by decide) (Nat.le_of_ble_eq_true rfl) (Nat.le_of_ble_eq_true rfl) dX4_init_118 (fun q11 H hP hD hS => ?_)
  obtain ⟨g26, hg26⟩ : ∃ z, z = va_up g25 11 (aI (ks 0) 21 (fun _ => 0)) := ⟨_, rfl⟩
  rw [← hg26] at hP
  obtain ⟨ad26, had26⟩ : ∃ z, z = va_up ad24 11 q11 := ⟨_, rfl⟩
  rw [← had26] at hP hD
  have a26_0 := (congrFun had26 0).trans ((va_up_ne _ _ (by decide)).trans a24_0)
  have a26_1 := (congrFun had26 1).trans ((va_up_ne _ _ (by decide)).trans a24_1)
  have a26_2 := (congrFun had26 2).trans ((va_up_ne _ _ (by decide)).trans a24_2)
  have a26_3 := (congrFun had26 3).trans ((va_up_ne _ _ (by decide)).trans a24_3)
  have a26_4 := (congrFun had26 4).trans ((va_up_ne _ _ (by decide)).trans a24_4)
  have a26_5 := (congrFun had26 5).trans ((va_up_ne _ _ (by decide)).trans a24_5)
  have a26_6 := (congrFun had26 6).trans ((va_up_ne _ _ (by decide)).trans a24_6)
  have a26_7 := (congrFun had26 7).trans ((va_up_ne _ _ (by decide)).trans a24_7)
  have a26_8 := (congrFun had26 8).trans ((va_up_ne _ _ (by decide)).trans a24_8)
  have a26_9 := (congrFun had26 9).trans ((va_up_ne _ _ (by decide)).trans a24_9)
  have a26_10 := (congrFun had26 10).trans ((va_up_ne _ _ (by decide)).trans a24_10)
  have a26_11 : ad26 11 = q11 := by rw [had26, va_up_self]
  have hAo26 : ∀ r ∈ Rs, ad26 r = ad r := fun r hr => by rw [had26, va_up_ne _ _ (show r ≠ 11 from fun h => hn11 (h ▸ hr))]; exact hAo24 r hr
  have e26_0 : g26 0 = Sum.inr (4, [.int 0, .int 20, .int 5, .int 1000, .int 100, .int 500, .int 0, .ref q1, .ref q2, .ref q3, .ref q4, .ref q5, .ref q6, .ref q7, .ref q8, .ref q9, .ref q10, .null, .long 0, .long 0, .int 0]) := by rw [hg26, va_up_ne _ _ (by decide)]; exact e25_0
  have e26_1 : g26 1 = aI (ks 0) 30 (fun _ => 0) := by rw [hg26, va_up_ne _ _ (by decide)]; exact e25_1
  have e26_2 : g26 2 = aI (ks 0) 30 (fun _ => 0) := by rw [hg26, va_up_ne _ _ (by decide)]; exact e25_2
  have e26_3 : g26 3 = aI (ks 0) 30 (fun _ => 0) := by rw [hg26, va_up_ne _ _ (by decide)]; exact e25_3
  have e26_4 : g26 4 = aI (ks 0) 30 (fun _ => 0) := by rw [hg26, va_up_ne _ _ (by decide)]; exact e25_4
  have e26_5 : g26 5 = aI (ks 0) 30 (fun _ => 0) := by rw [hg26, va_up_ne _ _ (by decide)]; exact e25_5
  have e26_6 : g26 6 = aI (ks 0) 30 (fun _ => 0) := by rw [hg26, va_up_ne _ _ (by decide)]; exact e25_6
  have e26_7 : g26 7 = aI (ks 0) 30 (fun _ => 0) := by rw [hg26, va_up_ne _ _ (by decide)]; exact e25_7
  have e26_8 : g26 8 = aJ (ks 1) 30 (fun _ => 0) := by rw [hg26, va_up_ne _ _ (by decide)]; exact e25_8
  have e26_9 : g26 9 = aJ (ks 1) 30 (fun _ => 0) := by rw [hg26, va_up_ne _ _ (by decide)]; exact e25_9
  have e26_10 : g26 10 = aI (ks 0) 21 (fun _ => 0) := by rw [hg26, va_up_ne _ _ (by decide)]; exact e25_10
  have e26_11 : g26 11 = aI (ks 0) 21 (fun _ => 0) := by rw [hg26, va_up_self]
  have hGo26 : ∀ r ∈ Rs, r ≠ 0 → g26 r = g r := fun r hr h => by rw [hg26, va_up_ne _ _ (show r ≠ 11 from fun h2 => hn11 (h2 ▸ hr))]; exact hGo25 r hr h
  refine pa_X4_57 hx hb hT hown hK hin hP hD hS (List.mem_cons_of_mem _ (List.mem_cons_of_mem _ (List.mem_cons_of_mem _ (List.mem_cons_of_mem _ (List.mem_cons_of_mem _ (List.mem_cons_of_mem _ (List.mem_cons_of_mem _ (List.mem_cons_of_mem _ (List.mem_cons_of_mem _ (List.mem_cons_of_mem _ (List.mem_cons_of_mem _ h0m))))))))))) a26_0 e26_0 (Nat.le_of_ble_eq_true rfl) dX4_init_120 (fun H locs hP hS => ?_)
  obtain ⟨g27, hg27⟩ : ∃ z, z = va_up g26 0 (.inr (4, List.set [.int 0, .int 20, .int 5, .int 1000, .int 100, .int 500, .int 0, .ref q1, .ref q2, .ref q3, .ref q4, .ref q5, .ref q6, .ref q7, .ref q8, .ref q9, .ref q10, .null, .long 0, .long 0, .int 0] 17 (.ref q11))) := ⟨_, rfl⟩
  rw [← hg27] at hP
  have e27_0 : g27 0 = Sum.inr (4, [.int 0, .int 20, .int 5, .int 1000, .int 100, .int 500, .int 0, .ref q1, .ref q2, .ref q3, .ref q4, .ref q5, .ref q6, .ref q7, .ref q8, .ref q9, .ref q10, .ref q11, .long 0, .long 0, .int 0]) := by rw [hg27, va_up_self]; rfl
  have e27_1 : g27 1 = aI (ks 0) 30 (fun _ => 0) := by rw [hg27, va_up_ne _ _ (by decide)]; exact e26_1
  have e27_2 : g27 2 = aI (ks 0) 30 (fun _ => 0) := by rw [hg27, va_up_ne _ _ (by decide)]; exact e26_2
  have e27_3 : g27 3 = aI (ks 0) 30 (fun _ => 0) := by rw [hg27, va_up_ne _ _ (by decide)]; exact e26_3
  have e27_4 : g27 4 = aI (ks 0) 30 (fun _ => 0) := by rw [hg27, va_up_ne _ _ (by decide)]; exact e26_4
  have e27_5 : g27 5 = aI (ks 0) 30 (fun _ => 0) := by rw [hg27, va_up_ne _ _ (by decide)]; exact e26_5
  have e27_6 : g27 6 = aI (ks 0) 30 (fun _ => 0) := by rw [hg27, va_up_ne _ _ (by decide)]; exact e26_6
  have e27_7 : g27 7 = aI (ks 0) 30 (fun _ => 0) := by rw [hg27, va_up_ne _ _ (by decide)]; exact e26_7
  have e27_8 : g27 8 = aJ (ks 1) 30 (fun _ => 0) := by rw [hg27, va_up_ne _ _ (by decide)]; exact e26_8
  have e27_9 : g27 9 = aJ (ks 1) 30 (fun _ => 0) := by rw [hg27, va_up_ne _ _ (by decide)]; exact e26_9
  have e27_10 : g27 10 = aI (ks 0) 21 (fun _ => 0) := by rw [hg27, va_up_ne _ _ (by decide)]; exact e26_10
  have e27_11 : g27 11 = aI (ks 0) 21 (fun _ => 0) := by rw [hg27, va_up_ne _ _ (by decide)]; exact e26_11
  have hGo27 : ∀ r ∈ Rs, r ≠ 0 → g27 r = g r := fun r hr h => by rw [hg27, va_up_ne _ _ h]; exact hGo26 r hr h
  refine zW_v hx hb hr hlk hS (Nat.le_of_ble_eq_true rfl) (Nat.le_of_ble_eq_true rfl) dX4_init_123 ⟨ad26, g27, hAo26, hGo27, ?_, e27_1, e27_2, e27_3, e27_4, e27_5, e27_6, e27_7, e27_8, e27_9, e27_10, e27_11, hP, hD⟩
  rw [e27_0, a26_1, a26_2, a26_3, a26_4, a26_5, a26_6, a26_7, a26_8, a26_9, a26_10, a26_11]
end ZB4
