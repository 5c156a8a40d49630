/-! base rows: one world of numbered roles; where a role's cell lies is ad, what it holds is g -/
section ZB
def zN (U : State) : Prop := ∀ w ∈ NS, va_Nw w U
theorem ns_tab : ∀ w ∈ NS, w.onTables = true := by decide +kernel
theorem ns_kind : ∀ w ∈ NS, (∃ a i b n d h, w = Cond.fieldLinkNest a i b n d h) ∨ (∃ a i x h, w = Cond.methodLinkNest a i x h) := by
  intro w hw
  cases w <;> first | exact Or.inl ⟨_, _, _, _, _, _, rfl⟩ | exact Or.inr ⟨_, _, _, _, rfl⟩ | (exfalso; revert hw; simp [NS])
theorem zN.calling {U : State} {g : JFrame} {mk : MethodId} {a : Array Value} (h : zN U) : zN (U.calling g mk a) := fun w hw => va_Nw.same (u := U) (U := U.calling g mk a) (ns_tab w hw) rfl (h w hw)
theorem zN.warm {s U : State} (hW : s.WarmedH U.vm) (h : zN s) : zN U := by
  intro w hw
  rcases ns_kind w hw with ⟨a, i, b, n, d, k, rfl⟩ | ⟨a, i, x, k, rfl⟩
  · exact va_Nw.warmF hW (h _ hw)
  · exact va_Nw.warmM hW (h _ hw)
/-- the four array classes: of ints, longs, generations, policies -/
def zT (ks : Nat → ClassId) : List (ClassId × FieldType) := [(ks 1, .long), (ks 1, .long), (ks 2, .object "ProfitsOffice$Generation"), (ks 3, .object "ProfitsOffice$Policy")]
def zK (D : va_G) (ks : Nat → ClassId) (U : State) : Prop := va_K D vwCl (zT ks) U ∧ zN U
theorem zK.calling {D : va_G} {ks : Nat → ClassId} {U : State} {g : JFrame} {mk : MethodId} {a : Array Value} (h : zK D ks U) : zK D ks (U.calling g mk a) := ⟨va_K.moved (u := U) (U := U.calling g mk a) (Vm.Alike.refl U.vm) h.1, h.2.calling⟩
theorem zK.warm {D : va_G} {ks : Nat → ClassId} {s U : State} (hW : s.WarmedH U.vm) (h : zK D ks s) : zK D ks U := ⟨va_K.moved hW.alike h.1, h.2.warm hW⟩
def zP (D : va_G) (Rs : List Nat) (ad : Nat → Nat) (g : Nat → va_E) (H : Heap) : Prop := ∀ r ∈ Rs, va_at D vwCl (ad r, g r) H
def zD (A : Nat → Prop) (Rs : List Nat) (ad : Nat → Nat) : Prop := Rs.Nodup ∧ (∀ r ∈ Rs, ∀ q ∈ Rs, ad r = ad q → r = q) ∧ ∀ r ∈ Rs, A (ad r)
def zA (Rs : List Nat) (ad : Nat → Nat) (sz : Nat) : Nat → Prop := fun q => (∃ r ∈ Rs, q = ad r) ∨ sz ≤ q
def zL (Rs : List Nat) (ad : Nat → Nat) (g : Nat → va_E) : va_W := Rs.map (fun r => (ad r, g r))
theorem zP.ws {D : va_G} {Rs : List Nat} {ad : Nat → Nat} {g : Nat → va_E} {H : Heap} (h : zP D Rs ad g H) : va_P D vwCl (zL Rs ad g) H := by
  intro k q hk
  simp only [zL, List.getElem?_map, Option.map_eq_some_iff] at hk
  obtain ⟨r, hr, rfl⟩ := hk
  exact h r (List.mem_of_getElem? hr)
theorem zP.of {D : va_G} {Rs : List Nat} {ad : Nat → Nat} {g : Nat → va_E} {H : Heap} (h : va_P D vwCl (zL Rs ad g) H) : zP D Rs ad g H := by
  intro r hr
  obtain ⟨k, hk⟩ := List.getElem?_of_mem hr
  exact h k (ad r, g r) (by simp [zL, hk])
theorem zD.ws {A : Nat → Prop} {Rs : List Nat} {ad : Nat → Nat} (h : zD A Rs ad) (g : Nat → va_E) : va_D A (zL Rs ad g) := by
  refine ⟨fun i j p q hi hj e => ?_, fun k q hk => ?_⟩
  · simp only [zL, List.getElem?_map, Option.map_eq_some_iff] at hi hj
    obtain ⟨r, hr, rfl⟩ := hi
    obtain ⟨r', hr', rfl⟩ := hj
    have e1 := h.2.1 r (List.mem_of_getElem? hr) r' (List.mem_of_getElem? hr') e
    subst e1
    exact (List.getElem?_inj (List.getElem?_eq_some_iff.mp hr).1 h.1).mp (hr.trans hr'.symm)
  · simp only [zL, List.getElem?_map, Option.map_eq_some_iff] at hk
    obtain ⟨r, hr, rfl⟩ := hk
    exact h.2.2 r (List.mem_of_getElem? hr)
theorem zL_at {Rs : List Nat} {ad : Nat → Nat} (g : Nat → va_E) {r : Nat} (hr : r ∈ Rs) : ∃ k : Nat, Rs[k]? = some r ∧ (zL Rs ad g)[k]? = some (ad r, g r) := by
  obtain ⟨k, hk⟩ := List.getElem?_of_mem hr
  exact ⟨k, hk, by simp [zL, hk]⟩
theorem zL_set {Rs : List Nat} {ad : Nat → Nat} {g : Nat → va_E} {r k : Nat} {e : va_E} (hn : Rs.Nodup) (hk : Rs[k]? = some r) : (zL Rs ad g).set k (ad r, e) = zL Rs ad (va_up g r e) := by
  apply List.ext_getElem?
  intro j
  by_cases hj : j = k
  · subst hj
    rw [List.getElem?_set_self (by simp [zL]; exact (List.getElem?_eq_some_iff.mp hk).1)]
    simp [zL, hk, va_up]
  · rw [List.getElem?_set_ne (Ne.symm hj)]
    simp only [zL, List.getElem?_map]
    cases hb : Rs[j]? with
    | none => rfl
    | some b =>
      have hba : b ≠ r := by
        intro e1
        subst e1
        exact hj ((List.getElem?_inj (List.getElem?_eq_some_iff.mp hb).1 hn).mp (hb.trans hk.symm))
      simp [va_up, hba]
theorem zP.cast {D : va_G} {Rs : List Nat} {ad : Nat → Nat} {g g' : Nat → va_E} {H : Heap} (h : zP D Rs ad g H) (e : ∀ r ∈ Rs, g' r = g r) : zP D Rs ad g' H := fun r hr => by rw [e r hr]; exact h r hr
theorem zP.at {D : va_G} {Rs : List Nat} {ad : Nat → Nat} {g : Nat → va_E} {H : Heap} (h : zP D Rs ad g H) {r : Nat} (hr : r ∈ Rs) {e : va_E} (he : g r = e) : va_at D vwCl (ad r, e) H := by rw [← he]; exact h r hr
theorem zP.lt {D : va_G} {Rs : List Nat} {ad : Nat → Nat} {g : Nat → va_E} {H : Heap} (h : zP D Rs ad g H) {r : Nat} (hr : r ∈ Rs) : ad r < H.size := by
  obtain ⟨k, -, hk⟩ := zL_at g hr (ad := ad)
  exact (h.ws k _ hk).lt
theorem zD.self {Rs : List Nat} {ad : Nat → Nat} {A : Nat → Prop} {sz : Nat} (h : zD A Rs ad) : zD (zA Rs ad sz) Rs ad := ⟨h.1, h.2.1, fun r hr => Or.inl ⟨r, hr, rfl⟩⟩
theorem zD.free {Rs : List Nat} {ad : Nat → Nat} {A : Nat → Prop} {sz : Nat} (h : zD A Rs ad) (hA : ∀ q, sz ≤ q → A q) : ∀ q, zA Rs ad sz q → A q := by
  rintro q (⟨r, hr, rfl⟩ | h1)
  · exact h.2.2 r hr
  · exact hA q h1
theorem z1P {D : va_G} {a : Nat} {e : va_E} {H : Heap} (h : va_at D vwCl (a, e) H) : va_P D vwCl [(a, e)] H := by
  intro k q hk
  cases k with
  | zero => cases hk; exact h
  | succ k => simp at hk
theorem z_word {own : Cond} {args : Array Value} {s : State} (hT : ∀ w ∈ WS, w.before args s = true) (h : own ∈ WS) : own.before args s = true := hT _ h
section ZR
variable {p : Program} {l : Launch} {e : Env} {R : Room} {s : State} {m : MethodId} {args : Array Value} {below : List Frame} {meth : Method} {c : Code} {H : Heap} {locs : List Loc} {cells slots : Nat} {Q : State → Prop}
variable {cc : ByteArray} {pc : Nat} {ls : Array Slot} {rest : List Value} {D : va_G} {ks : Nat → ClassId} {A : Nat → Prop} {a : Nat} {Rs : List Nat} {ad : Nat → Nat} {g : Nat → va_E}
theorem z_get (hx : p.tables.exec = Jvm.exec) (hb : c.code = cc) (hT : ∀ w ∈ WS, w.before args s = true) {own ref C : String} {T : u_T} {N ci index : Nat} (hown : s.vm.findClass own = some m.cls) (hK : zK D ks s) (hin : ∀ w ∈ u_ws C T N, w ∈ WS) (hc : vwCl[ci]? = some (C, T, N)) (k : Nat) (hk : k < N) (hlink : Cond.fieldLink own index ref (T k).2.1 (T k).2.2.1 ∈ WS) (hsame : ∀ x, s.fieldFound? (T k).1 (T k).2.1 (T k).2.2.1 = some x → s.fieldFound? ref (T k).2.1 (T k).2.2.1 = some x) {fs : List Value} {v : Value}
    (hat : va_at D vwCl (a, .inr (ci, fs)) H) (hv : fs[k]? = some v) (hdg : decode cc pc = .ok (.getfield index, 3))
    (kk : W p l e R s m args below meth c H locs cells slots Q (F0 m (pc + 3) ls (v :: rest))) : W p l e R s m args below meth c H locs cells slots Q (F0 m pc ls (.ref a :: rest)) :=
  va_get hx hb hT hin hown hK.1 (z1P hat) 0 rfl hc k hk (hT _ hlink) hsame hv hdg kk
theorem z_getN (hx : p.tables.exec = Jvm.exec) (hb : c.code = cc) (hT : ∀ w ∈ WS, w.before args s = true) {own ref C host : String} {T : u_T} {N ci index : Nat} (hown : s.vm.findClass own = some m.cls) (hK : zK D ks s) (hin : ∀ w ∈ u_ws C T N, w ∈ WS) (hc : vwCl[ci]? = some (C, T, N)) (k : Nat) (hk : k < N) (hlink : Cond.fieldLinkNest own index ref (T k).2.1 (T k).2.2.1 host ∈ NS) (hsame : ∀ x, s.fieldFound? (T k).1 (T k).2.1 (T k).2.2.1 = some x → s.fieldFound? ref (T k).2.1 (T k).2.2.1 = some x) {fs : List Value} {v : Value}
    (hat : va_at D vwCl (a, .inr (ci, fs)) H) (hv : fs[k]? = some v) (hdg : decode cc pc = .ok (.getfield index, 3))
    (kk : W p l e R s m args below meth c H locs cells slots Q (F0 m (pc + 3) ls (v :: rest))) : W p l e R s m args below meth c H locs cells slots Q (F0 m pc ls (.ref a :: rest)) :=
  va_getN hx hb hT hin hown hK.1 (z1P hat) 0 rfl hc k hk (va_Nw.use rfl (hK.2 _ hlink)) hsame hv hdg kk
theorem z_put (hx : p.tables.exec = Jvm.exec) (hb : c.code = cc) (hT : ∀ w ∈ WS, w.before args s = true) {own ref C : String} {T : u_T} {N ci index : Nat} (hown : s.vm.findClass own = some m.cls) (hK : zK D ks s) (hin : ∀ w ∈ u_ws C T N, w ∈ WS) (ty0 : Nat → FieldType) (hty : ∀ k, k < N → parseFieldDescriptor (T k).2.2.1 = some (ty0 k)) (hnm : ∀ a, a < N → ∀ b, b < N → a ≠ b → (T a).2.1 ≠ (T b).2.1) (hc : vwCl[ci]? = some (C, T, N)) (k : Nat) (hk : k < N) (hlink : Cond.fieldLink own index ref (T k).2.1 (T k).2.2.1 ∈ WS) (hsame : ∀ x, s.fieldFound? (T k).1 (T k).2.1 (T k).2.2.1 = some x → s.fieldFound? ref (T k).2.1 (T k).2.2.1 = some x) (hfin : (T k).2.2.2 = false) {ty : FieldType} {v : Value} (hd : parseFieldDescriptor (T k).2.2.1 = some ty) (hn : narrow ty v = v) (hfit : fits ty v = true)
    (hP : zP D Rs ad g H) (hD : zD A Rs ad) (hS : va_S A s.heap H locs) {r : Nat} (hr : r ∈ Rs) {fs : List Value} (he : g r = .inr (ci, fs)) (hl : k < fs.length) (hdg : decode cc pc = .ok (.putfield index, 3))
    (kk : ∀ (H1 : Heap) (locs1 : List Loc), zP D Rs ad (va_up g r (.inr (ci, fs.set k v))) H1 → va_S A s.heap H1 locs1 → W p l e R s m args below meth c H1 locs1 cells slots Q (F0 m (pc + 3) ls rest)) : W p l e R s m args below meth c H locs cells slots Q (F0 m pc ls (v :: .ref (ad r) :: rest)) := by
  obtain ⟨k0, h1, h2⟩ := zL_at g hr (ad := ad)
  rw [he] at h2
  exact va_put hx hb hT hin ty0 hty hnm hown hK.1 hP.ws (hD.ws g) hS k0 h2 hc k hk (hT _ hlink) hsame hfin hd hn hfit hl hdg (fun H1 locs1 hP1 _ hS1 => kk H1 locs1 (zP.of (by rw [← zL_set hD.1 h1]; exact hP1)) hS1)
theorem z_putN (hx : p.tables.exec = Jvm.exec) (hb : c.code = cc) (hT : ∀ w ∈ WS, w.before args s = true) {own ref C host : String} {T : u_T} {N ci index : Nat} (hown : s.vm.findClass own = some m.cls) (hK : zK D ks s) (hin : ∀ w ∈ u_ws C T N, w ∈ WS) (ty0 : Nat → FieldType) (hty : ∀ k, k < N → parseFieldDescriptor (T k).2.2.1 = some (ty0 k)) (hnm : ∀ a, a < N → ∀ b, b < N → a ≠ b → (T a).2.1 ≠ (T b).2.1) (hc : vwCl[ci]? = some (C, T, N)) (k : Nat) (hk : k < N) (hlink : Cond.fieldLinkNest own index ref (T k).2.1 (T k).2.2.1 host ∈ NS) (hsame : ∀ x, s.fieldFound? (T k).1 (T k).2.1 (T k).2.2.1 = some x → s.fieldFound? ref (T k).2.1 (T k).2.2.1 = some x) (hfin : (T k).2.2.2 = false) {ty : FieldType} {v : Value} (hd : parseFieldDescriptor (T k).2.2.1 = some ty) (hn : narrow ty v = v) (hfit : fits ty v = true)
    (hP : zP D Rs ad g H) (hD : zD A Rs ad) (hS : va_S A s.heap H locs) {r : Nat} (hr : r ∈ Rs) {fs : List Value} (he : g r = .inr (ci, fs)) (hl : k < fs.length) (hdg : decode cc pc = .ok (.putfield index, 3))
    (kk : ∀ (H1 : Heap) (locs1 : List Loc), zP D Rs ad (va_up g r (.inr (ci, fs.set k v))) H1 → va_S A s.heap H1 locs1 → W p l e R s m args below meth c H1 locs1 cells slots Q (F0 m (pc + 3) ls rest)) : W p l e R s m args below meth c H locs cells slots Q (F0 m pc ls (v :: .ref (ad r) :: rest)) := by
  obtain ⟨k0, h1, h2⟩ := zL_at g hr (ad := ad)
  rw [he] at h2
  exact va_putN hx hb hT hin ty0 hty hnm hown hK.1 hP.ws (hD.ws g) hS k0 h2 hc k hk (va_Nw.use rfl (hK.2 _ hlink)) hsame hfin hd hn hfit hl hdg (fun H1 locs1 hP1 _ hS1 => kk H1 locs1 (zP.of (by rw [← zL_set hD.1 h1]; exact hP1)) hS1)
theorem z_putF (hx : p.tables.exec = Jvm.exec) (hb : c.code = cc) (hT : ∀ w ∈ WS, w.before args s = true) {own ref C : String} {T : u_T} {N ci index : Nat} (hown : s.vm.findClass own = some m.cls) (hK : zK D ks s) (hin : ∀ w ∈ u_ws C T N, w ∈ WS) (ty0 : Nat → FieldType) (hty : ∀ k, k < N → parseFieldDescriptor (T k).2.2.1 = some (ty0 k)) (hnm : ∀ a, a < N → ∀ b, b < N → a ≠ b → (T a).2.1 ≠ (T b).2.1) (hc : vwCl[ci]? = some (C, T, N)) (k : Nat) (hk : k < N) (hlink : Cond.fieldLink own index ref (T k).2.1 (T k).2.2.1 ∈ WS) (hsame : ∀ x, s.fieldFound? (T k).1 (T k).2.1 (T k).2.2.1 = some x → s.fieldFound? ref (T k).2.1 (T k).2.2.1 = some x) (hfin : (T k).2.2.2 = true) (hin2 : meth.name = "<init>") (hdecl : (T k).1 = own) {ty : FieldType} {v : Value} (hd : parseFieldDescriptor (T k).2.2.1 = some ty) (hn : narrow ty v = v) (hfit : fits ty v = true)
    (hP : zP D Rs ad g H) (hD : zD A Rs ad) (hS : va_S A s.heap H locs) {r : Nat} (hr : r ∈ Rs) {fs : List Value} (he : g r = .inr (ci, fs)) (hl : k < fs.length) (hdg : decode cc pc = .ok (.putfield index, 3))
    (kk : ∀ (H1 : Heap) (locs1 : List Loc), zP D Rs ad (va_up g r (.inr (ci, fs.set k v))) H1 → va_S A s.heap H1 locs1 → W p l e R s m args below meth c H1 locs1 cells slots Q (F0 m (pc + 3) ls rest)) : W p l e R s m args below meth c H locs cells slots Q (F0 m pc ls (v :: .ref (ad r) :: rest)) := by
  obtain ⟨k0, h1, h2⟩ := zL_at g hr (ad := ad)
  rw [he] at h2
  exact va_putF hx hb hT hin ty0 hty hnm hown hK.1 hP.ws (hD.ws g) hS k0 h2 hc k hk (hT _ hlink) hsame hfin hin2 hdecl hd hn hfit hl hdg (fun H1 locs1 hP1 _ hS1 => kk H1 locs1 (zP.of (by rw [← zL_set hD.1 h1]; exact hP1)) hS1)
theorem z_lald (hx : p.tables.exec = Jvm.exec) (hb : c.code = cc) (hK : zK D ks s) {n : Nat} {f : Nat → Int64} (hat : va_at D vwCl (a, .inl (ks 1, n, .inr (.inl f))) H) {i : Int32} (hin : vp_in i n) (hdg : decode cc pc = .ok (.laload, 1))
    (kk : W p l e R s m args below meth c H locs cells slots Q (F0 m (pc + 1) ls (.long (f i.toNatClampNeg) :: rest))) : W p l e R s m args below meth c H locs cells slots Q (F0 m pc ls (.int i :: .ref a :: rest)) := va_lald hx hb hK.1 (z1P hat) 0 1 rfl rfl hin hdg kk
theorem z_gald (hx : p.tables.exec = Jvm.exec) (hb : c.code = cc) (hK : zK D ks s) {n : Nat} {f : Nat → Option Nat} (hat : va_at D vwCl (a, .inl (ks 2, n, .inr (.inr (.inr (.inr f))))) H) {i : Int32} (hin : vp_in i n) (hdg : decode cc pc = .ok (.aaload, 1))
    (kk : W p l e R s m args below meth c H locs cells slots Q (F0 m (pc + 1) ls (va_rf (f i.toNatClampNeg) :: rest))) : W p l e R s m args below meth c H locs cells slots Q (F0 m pc ls (.int i :: .ref a :: rest)) := va_aldq hx hb hK.1 (z1P hat) 0 2 rfl rfl hin hdg kk
theorem z_pald (hx : p.tables.exec = Jvm.exec) (hb : c.code = cc) (hK : zK D ks s) {n : Nat} {f : Nat → Option Nat} (hat : va_at D vwCl (a, .inl (ks 3, n, .inr (.inr (.inr (.inr f))))) H) {i : Int32} (hin : vp_in i n) (hdg : decode cc pc = .ok (.aaload, 1))
    (kk : W p l e R s m args below meth c H locs cells slots Q (F0 m (pc + 1) ls (va_rf (f i.toNatClampNeg) :: rest))) : W p l e R s m args below meth c H locs cells slots Q (F0 m pc ls (.int i :: .ref a :: rest)) := va_aldq hx hb hK.1 (z1P hat) 0 3 rfl rfl hin hdg kk
theorem z_jlen (hx : p.tables.exec = Jvm.exec) (hb : c.code = cc) (hK : zK D ks s) {n : Nat} {f : Nat → Int64} (hat : va_at D vwCl (a, .inl (ks 1, n, .inr (.inl f))) H) {v : Int32} (hv : Int32.ofNat n = v) (hdg : decode cc pc = .ok (.arraylength, 1))
    (kk : W p l e R s m args below meth c H locs cells slots Q (F0 m (pc + 1) ls (.int v :: rest))) : W p l e R s m args below meth c H locs cells slots Q (F0 m pc ls (.ref a :: rest)) := va_alen hx hb hK.1 (z1P hat) 0 1 rfl rfl hv hdg kk
theorem z_glen (hx : p.tables.exec = Jvm.exec) (hb : c.code = cc) (hK : zK D ks s) {n : Nat} {f : Nat → Option Nat} (hat : va_at D vwCl (a, .inl (ks 2, n, .inr (.inr (.inr (.inr f))))) H) {v : Int32} (hv : Int32.ofNat n = v) (hdg : decode cc pc = .ok (.arraylength, 1))
    (kk : W p l e R s m args below meth c H locs cells slots Q (F0 m (pc + 1) ls (.int v :: rest))) : W p l e R s m args below meth c H locs cells slots Q (F0 m pc ls (.ref a :: rest)) := va_alen hx hb hK.1 (z1P hat) 0 2 rfl rfl hv hdg kk
theorem z_plen (hx : p.tables.exec = Jvm.exec) (hb : c.code = cc) (hK : zK D ks s) {n : Nat} {f : Nat → Option Nat} (hat : va_at D vwCl (a, .inl (ks 3, n, .inr (.inr (.inr (.inr f))))) H) {v : Int32} (hv : Int32.ofNat n = v) (hdg : decode cc pc = .ok (.arraylength, 1))
    (kk : W p l e R s m args below meth c H locs cells slots Q (F0 m (pc + 1) ls (.int v :: rest))) : W p l e R s m args below meth c H locs cells slots Q (F0 m pc ls (.ref a :: rest)) := va_alen hx hb hK.1 (z1P hat) 0 3 rfl rfl hv hdg kk
theorem z_last (hx : p.tables.exec = Jvm.exec) (hb : c.code = cc) (hK : zK D ks s) (hP : zP D Rs ad g H) (hD : zD A Rs ad) (hS : va_S A s.heap H locs) {r : Nat} (hr : r ∈ Rs) {n : Nat} {f : Nat → Int64} (he : g r = .inl (ks 1, n, .inr (.inl f))) {i : Int32} {x : Int64} (hin : vp_in i n) (hdg : decode cc pc = .ok (.lastore, 1))
    (kk : ∀ (H1 : Heap) (locs1 : List Loc), zP D Rs ad (va_up g r (.inl (ks 1, n, .inr (.inl (vp_updL f i.toNatClampNeg x))))) H1 → va_S A s.heap H1 locs1 → W p l e R s m args below meth c H1 locs1 cells slots Q (F0 m (pc + 1) ls rest)) : W p l e R s m args below meth c H locs cells slots Q (F0 m pc ls (.long x :: .int i :: .ref (ad r) :: rest)) := by
  obtain ⟨k0, h1, h2⟩ := zL_at g hr (ad := ad)
  rw [he] at h2
  exact va_last hx hb hK.1 hP.ws (hD.ws g) hS k0 1 h2 rfl hin hdg (fun H1 locs1 hP1 _ hS1 => kk H1 locs1 (zP.of (by rw [← zL_set hD.1 h1]; exact hP1)) hS1)
theorem z_gast (hx : p.tables.exec = Jvm.exec) (hb : c.code = cc) (hK : zK D ks s) (hP : zP D Rs ad g H) (hD : zD A Rs ad) (hS : va_S A s.heap H locs) {r q : Nat} (hr : r ∈ Rs) {n : Nat} {f : Nat → Option Nat} (he : g r = .inl (ks 2, n, .inr (.inr (.inr (.inr f))))) (hq : q ∈ Rs) {vs : List Value} (hv : g q = .inr (1, vs)) {i : Int32} (hin : vp_in i n) (hdg : decode cc pc = .ok (.aastore, 1))
    (kk : ∀ (H1 : Heap) (locs1 : List Loc), zP D Rs ad (va_up g r (.inl (ks 2, n, .inr (.inr (.inr (.inr (va_up f i.toNatClampNeg (some (ad q))))))))) H1 → va_S A s.heap H1 locs1 → W p l e R s m args below meth c H1 locs1 cells slots Q (F0 m (pc + 1) ls rest)) : W p l e R s m args below meth c H locs cells slots Q (F0 m pc ls (.ref (ad q) :: .int i :: .ref (ad r) :: rest)) := by
  obtain ⟨k0, h1, h2⟩ := zL_at g hr (ad := ad)
  rw [he] at h2
  obtain ⟨k1, -, h4⟩ := zL_at g hq (ad := ad)
  rw [hv] at h4
  exact va_astq hx hb hK.1 hP.ws (hD.ws g) hS k0 2 k1 1 (r := (RX1, TX1, 4)) h2 rfl h4 rfl hin hdg (fun H1 locs1 hP1 _ hS1 => kk H1 locs1 (zP.of (by rw [← zL_set hD.1 h1]; exact hP1)) hS1)
theorem z_past (hx : p.tables.exec = Jvm.exec) (hb : c.code = cc) (hK : zK D ks s) (hP : zP D Rs ad g H) (hD : zD A Rs ad) (hS : va_S A s.heap H locs) {r q : Nat} (hr : r ∈ Rs) {n : Nat} {f : Nat → Option Nat} (he : g r = .inl (ks 3, n, .inr (.inr (.inr (.inr f))))) (hq : q ∈ Rs) {vs : List Value} (hv : g q = .inr (2, vs)) {i : Int32} (hin : vp_in i n) (hdg : decode cc pc = .ok (.aastore, 1))
    (kk : ∀ (H1 : Heap) (locs1 : List Loc), zP D Rs ad (va_up g r (.inl (ks 3, n, .inr (.inr (.inr (.inr (va_up f i.toNatClampNeg (some (ad q))))))))) H1 → va_S A s.heap H1 locs1 → W p l e R s m args below meth c H1 locs1 cells slots Q (F0 m (pc + 1) ls rest)) : W p l e R s m args below meth c H locs cells slots Q (F0 m pc ls (.ref (ad q) :: .int i :: .ref (ad r) :: rest)) := by
  obtain ⟨k0, h1, h2⟩ := zL_at g hr (ad := ad)
  rw [he] at h2
  obtain ⟨k1, -, h4⟩ := zL_at g hq (ad := ad)
  rw [hv] at h4
  exact va_astq hx hb hK.1 hP.ws (hD.ws g) hS k0 3 k1 2 (r := (RX2, TX2, 7)) h2 rfl h4 rfl hin hdg (fun H1 locs1 hP1 _ hS1 => kk H1 locs1 (zP.of (by rw [← zL_set hD.1 h1]; exact hP1)) hS1)
/-- long comparisons and the branch behind them -/
theorem z_lcmp_le (hx : p.tables.exec = Jvm.exec) (hb : c.code = cc) {x y : Int64} {off : Int} {tgt : Nat} (h1 : decode cc pc = .ok (.lcmp, 1)) (h2 : decode cc (pc + 1) = .ok (.ifCond .le off, 3)) (ht : ((pc + 1 : Nat) : Int) + off = (tgt : Int))
    (kt : ¬ y < x → W p l e R s m args below meth c H locs cells slots Q (F0 m tgt ls rest)) (kf : y < x → W p l e R s m args below meth c H locs cells slots Q (F0 m (pc + 4) ls rest)) : W p l e R s m args below meth c H locs cells slots Q (F0 m pc ls (.long y :: .long x :: rest)) := by
  refine W.lcmp hx hb h1 (lv_if_le hx hb h2 ht (fun q => kt fun q2 => ?_) (fun q => kf ?_))
  · exact absurd q (by simp [lg_cmp, q2])
  · by_cases z : y < x
    · exact z
    · exact absurd (by by_cases z2 : x = y <;> simp [lg_cmp, z, z2]) q
theorem z_lcmp_ge (hx : p.tables.exec = Jvm.exec) (hb : c.code = cc) {x y : Int64} {off : Int} {tgt : Nat} (h1 : decode cc pc = .ok (.lcmp, 1)) (h2 : decode cc (pc + 1) = .ok (.ifCond .ge off, 3)) (ht : ((pc + 1 : Nat) : Int) + off = (tgt : Int))
    (kt : ¬ x < y → W p l e R s m args below meth c H locs cells slots Q (F0 m tgt ls rest)) (kf : x < y → W p l e R s m args below meth c H locs cells slots Q (F0 m (pc + 4) ls rest)) : W p l e R s m args below meth c H locs cells slots Q (F0 m pc ls (.long y :: .long x :: rest)) := by
  refine W.lcmp hx hb h1 (lv_if_ge hx hb h2 ht (fun q => kt fun q2 => ?_) (fun q => kf ?_))
  · have a1 : ¬ y < x := fun h => Int64.lt_irrefl (Int64.lt_trans h q2)
    have a2 : ¬ x = y := fun h => by subst h; exact Int64.lt_irrefl q2
    exact absurd q (by simp [lg_cmp, a1, a2])
  · by_cases z : y < x
    · exact absurd (by simp [lg_cmp, z]) q
    · by_cases z2 : x = y
      · exact absurd (by simp [lg_cmp, z2]) q
      · rcases Int64.lt_or_eq_of_le (Int64.not_lt.mp z) with h | h
        · exact h
        · exact absurd h z2
theorem z_lcmp_eq (hx : p.tables.exec = Jvm.exec) (hb : c.code = cc) {x y : Int64} {off : Int} {tgt : Nat} (h1 : decode cc pc = .ok (.lcmp, 1)) (h2 : decode cc (pc + 1) = .ok (.ifCond .eq off, 3)) (ht : ((pc + 1 : Nat) : Int) + off = (tgt : Int))
    (kt : x = y → W p l e R s m args below meth c H locs cells slots Q (F0 m tgt ls rest)) (kf : ¬ x = y → W p l e R s m args below meth c H locs cells slots Q (F0 m (pc + 4) ls rest)) : W p l e R s m args below meth c H locs cells slots Q (F0 m pc ls (.long y :: .long x :: rest)) := by
  refine W.lcmp hx hb h1 (lv_if_eq hx hb h2 ht (fun q => kt ?_) (fun q => kf fun q2 => ?_))
  · by_cases z : y < x
    · exact absurd q (by simp [lg_cmp, z])
    · by_cases z2 : x = y
      · exact z2
      · exact absurd q (by simp [lg_cmp, z, z2])
  · exact q (by subst q2; simp [lg_cmp])
theorem z_lcmp_ne (hx : p.tables.exec = Jvm.exec) (hb : c.code = cc) {x y : Int64} {off : Int} {tgt : Nat} (h1 : decode cc pc = .ok (.lcmp, 1)) (h2 : decode cc (pc + 1) = .ok (.ifCond .ne off, 3)) (ht : ((pc + 1 : Nat) : Int) + off = (tgt : Int))
    (kt : ¬ x = y → W p l e R s m args below meth c H locs cells slots Q (F0 m tgt ls rest)) (kf : x = y → W p l e R s m args below meth c H locs cells slots Q (F0 m (pc + 4) ls rest)) : W p l e R s m args below meth c H locs cells slots Q (F0 m pc ls (.long y :: .long x :: rest)) := by
  refine W.lcmp hx hb h1 (lv_if_ne hx hb h2 ht (fun q => kt fun q2 => ?_) (fun q => kf ?_))
  · exact q (by subst q2; simp [lg_cmp])
  · by_cases z : y < x
    · exact absurd q (by simp [lg_cmp, z])
    · by_cases z2 : x = y
      · exact z2
      · exact absurd q (by simp [lg_cmp, z, z2])
end ZR
end ZB
