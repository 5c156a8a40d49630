/-! rows at a counted index -/
section ZN
variable {p : Program} {l : Launch} {e : Env} {R : Room} {s : State} {m : MethodId} {args : Array Value} {below : List Frame} {meth : Method} {c : Code} {H : Heap} {locs : List Loc} {cells slots : Nat} {Q : State → Prop}
variable {cc : ByteArray} {pc : Nat} {ls : Array Slot} {rest : List Value} {D : va_G} {A : Nat → Prop} {a : Nat} {Rs : List Nat}
variable {ks : Nat → ClassId} {ad : Nat → Nat} {np ng : Nat} {G : Nat → Nat} {MI : Nat → Nat → Int32} {MJ : Nat → Nat → Int64} {XI : Nat → Nat → Int32} {XJ : Nat → Nat → Int64}
theorem z_laldN (hx : p.tables.exec = Jvm.exec) (hb : c.code = cc) (hK : zK D ks s) {n : Nat} {f : Nat → Int64} (hat : va_at D vwCl (a, .inl (ks 1, n, .inr (.inl f))) H) {j : Nat} (hj : j < n) (hn : n < 2 ^ 31) {v : Int64} (hv : f j = v) (hdg : decode cc pc = .ok (.laload, 1)) (kk : W p l e R s m args below meth c H locs cells slots Q (F0 m (pc + 1) ls (.long v :: rest))) : W p l e R s m args below meth c H locs cells slots Q (F0 m pc ls (.int (nI j) :: .ref a :: rest)) :=
  z_lald hx hb hK hat (vp_in_nI hj hn) hdg (by rw [nI_clamp (Nat.lt_trans hj hn), hv]; exact kk)
theorem z_galdN (hx : p.tables.exec = Jvm.exec) (hb : c.code = cc) (hK : zK D ks s) {n : Nat} {f : Nat → Option Nat} (hat : va_at D vwCl (a, .inl (ks 2, n, .inr (.inr (.inr (.inr f))))) H) {j : Nat} (hj : j < n) (hn : n < 2 ^ 31) {v : Option Nat} (hv : f j = v) (hdg : decode cc pc = .ok (.aaload, 1)) (kk : W p l e R s m args below meth c H locs cells slots Q (F0 m (pc + 1) ls (va_rf v :: rest))) : W p l e R s m args below meth c H locs cells slots Q (F0 m pc ls (.int (nI j) :: .ref a :: rest)) :=
  z_gald hx hb hK hat (vp_in_nI hj hn) hdg (by rw [nI_clamp (Nat.lt_trans hj hn), hv]; exact kk)
theorem z_paldN (hx : p.tables.exec = Jvm.exec) (hb : c.code = cc) (hK : zK D ks s) {n : Nat} {f : Nat → Option Nat} (hat : va_at D vwCl (a, .inl (ks 3, n, .inr (.inr (.inr (.inr f))))) H) {j : Nat} (hj : j < n) (hn : n < 2 ^ 31) {v : Option Nat} (hv : f j = v) (hdg : decode cc pc = .ok (.aaload, 1)) (kk : W p l e R s m args below meth c H locs cells slots Q (F0 m (pc + 1) ls (va_rf v :: rest))) : W p l e R s m args below meth c H locs cells slots Q (F0 m pc ls (.int (nI j) :: .ref a :: rest)) :=
  z_pald hx hb hK hat (vp_in_nI hj hn) hdg (by rw [nI_clamp (Nat.lt_trans hj hn), hv]; exact kk)
theorem as_8N (hx : p.tables.exec = Jvm.exec) (hb : c.code = cc) (hK : zK D ks s) (hP : zP D Rs ad (gS ks ad np ng G MI MJ XI XJ) H) (hD : zD A Rs ad) (hS : va_S A s.heap H locs) (hr : 8 ∈ Rs) {j : Nat} {v : Int64} (hj : j < 30) (hdg : decode cc pc = .ok (.lastore, 1)) (kk : ∀ (H1 : Heap) (locs1 : List Loc), zP D Rs ad (gS ks ad np ng G MI (u2 MJ 1 j v) XI XJ) H1 → va_S A s.heap H1 locs1 → W p l e R s m args below meth c H1 locs1 cells slots Q (F0 m (pc + 1) ls rest)) : W p l e R s m args below meth c H locs cells slots Q (F0 m pc ls (.long v :: .int (nI j) :: .ref (ad 8) :: rest)) :=
  as_8 hx hb hK hP hD hS hr (vp_in_nI hj (by decide)) hdg (by rw [nI_clamp (Nat.lt_trans hj (by decide))]; exact kk)
theorem as_9N (hx : p.tables.exec = Jvm.exec) (hb : c.code = cc) (hK : zK D ks s) (hP : zP D Rs ad (gS ks ad np ng G MI MJ XI XJ) H) (hD : zD A Rs ad) (hS : va_S A s.heap H locs) (hr : 9 ∈ Rs) {j : Nat} {v : Int64} (hj : j < 30) (hdg : decode cc pc = .ok (.lastore, 1)) (kk : ∀ (H1 : Heap) (locs1 : List Loc), zP D Rs ad (gS ks ad np ng G MI (u2 MJ 2 j v) XI XJ) H1 → va_S A s.heap H1 locs1 → W p l e R s m args below meth c H1 locs1 cells slots Q (F0 m (pc + 1) ls rest)) : W p l e R s m args below meth c H locs cells slots Q (F0 m pc ls (.long v :: .int (nI j) :: .ref (ad 9) :: rest)) :=
  as_9 hx hb hK hP hD hS hr (vp_in_nI hj (by decide)) hdg (by rw [nI_clamp (Nat.lt_trans hj (by decide))]; exact kk)
theorem as_12N (hx : p.tables.exec = Jvm.exec) (hb : c.code = cc) (hK : zK D ks s) (hP : zP D Rs ad (gS ks ad np ng G MI MJ XI XJ) H) (hD : zD A Rs ad) (hS : va_S A s.heap H locs) (hr : 12 ∈ Rs) {j : Nat} {v : Int64} (hj : j < 1) (hdg : decode cc pc = .ok (.lastore, 1)) (kk : ∀ (H1 : Heap) (locs1 : List Loc), zP D Rs ad (gS ks ad np ng G MI (u2 MJ 3 j v) XI XJ) H1 → va_S A s.heap H1 locs1 → W p l e R s m args below meth c H1 locs1 cells slots Q (F0 m (pc + 1) ls rest)) : W p l e R s m args below meth c H locs cells slots Q (F0 m pc ls (.long v :: .int (nI j) :: .ref (ad 12) :: rest)) :=
  as_12 hx hb hK hP hD hS hr (vp_in_nI hj (by decide)) hdg (by rw [nI_clamp (Nat.lt_trans hj (by decide))]; exact kk)
theorem as_16N (hx : p.tables.exec = Jvm.exec) (hb : c.code = cc) (hK : zK D ks s) (hP : zP D Rs ad (gS ks ad np ng G MI MJ XI XJ) H) (hD : zD A Rs ad) (hS : va_S A s.heap H locs) (hr : 16 ∈ Rs) {j : Nat} {v : Int64} (hj : j < 21) (hdg : decode cc pc = .ok (.lastore, 1)) (kk : ∀ (H1 : Heap) (locs1 : List Loc), zP D Rs ad (gS ks ad np ng G MI MJ XI (u2 XJ 5 j v)) H1 → va_S A s.heap H1 locs1 → W p l e R s m args below meth c H1 locs1 cells slots Q (F0 m (pc + 1) ls rest)) : W p l e R s m args below meth c H locs cells slots Q (F0 m pc ls (.long v :: .int (nI j) :: .ref (ad 16) :: rest)) :=
  as_16 hx hb hK hP hD hS hr (vp_in_nI hj (by decide)) hdg (by rw [nI_clamp (Nat.lt_trans hj (by decide))]; exact kk)
theorem as_17N (hx : p.tables.exec = Jvm.exec) (hb : c.code = cc) (hK : zK D ks s) (hP : zP D Rs ad (gS ks ad np ng G MI MJ XI XJ) H) (hD : zD A Rs ad) (hS : va_S A s.heap H locs) (hr : 17 ∈ Rs) {j : Nat} {v : Int64} (hj : j < 21) (hdg : decode cc pc = .ok (.lastore, 1)) (kk : ∀ (H1 : Heap) (locs1 : List Loc), zP D Rs ad (gS ks ad np ng G MI MJ XI (u2 XJ 6 j v)) H1 → va_S A s.heap H1 locs1 → W p l e R s m args below meth c H1 locs1 cells slots Q (F0 m (pc + 1) ls rest)) : W p l e R s m args below meth c H locs cells slots Q (F0 m pc ls (.long v :: .int (nI j) :: .ref (ad 17) :: rest)) :=
  as_17 hx hb hK hP hD hS hr (vp_in_nI hj (by decide)) hdg (by rw [nI_clamp (Nat.lt_trans hj (by decide))]; exact kk)
theorem zi_m1 (x : Int32) : x + Int32.ofInt (-1) = x - 1 := by rw [Int32.sub_eq_add_neg]; rfl
theorem z_vpin {t N : Int32} {n : Nat} (h0 : ¬ t < 0) (h1 : ¬ N ≤ t) (hN : N.toInt = n) : vp_in t n := by
  rw [vp_in_iff]
  have a1 := Int32.le_iff_toInt_le.mp (Int32.not_lt.mp h0)
  have a2 := Int32.lt_iff_toInt_lt.mp (Int32.not_le.mp h1)
  have a3 : (0 : Int32).toInt = 0 := rfl
  omega
theorem z_lcmp_gt (hx : p.tables.exec = Jvm.exec) (hb : c.code = cc) {x y : Int64} {off : Int} {tgt : Nat} (h1 : decode cc pc = .ok (.lcmp, 1)) (h2 : decode cc (pc + 1) = .ok (.ifCond .gt off, 3)) (ht : ((pc + 1 : Nat) : Int) + off = (tgt : Int))
    (kt : y < x → W p l e R s m args below meth c H locs cells slots Q (F0 m tgt ls rest)) (kf : ¬ y < x → W p l e R s m args below meth c H locs cells slots Q (F0 m (pc + 4) ls rest)) : W p l e R s m args below meth c H locs cells slots Q (F0 m pc ls (.long y :: .long x :: rest)) := by
  refine W.lcmp hx hb h1 (lv_if_gt hx hb h2 ht (fun q => kt ?_) (fun q => kf fun q2 => ?_))
  · by_cases z : y < x
    · exact z
    · exact absurd q (by by_cases z2 : x = y <;> simp [lg_cmp, z, z2])
  · exact q (by simp [lg_cmp, q2])
theorem z_lcmp_lt (hx : p.tables.exec = Jvm.exec) (hb : c.code = cc) {x y : Int64} {off : Int} {tgt : Nat} (h1 : decode cc pc = .ok (.lcmp, 1)) (h2 : decode cc (pc + 1) = .ok (.ifCond .lt off, 3)) (ht : ((pc + 1 : Nat) : Int) + off = (tgt : Int))
    (kt : x < y → W p l e R s m args below meth c H locs cells slots Q (F0 m tgt ls rest)) (kf : ¬ x < y → W p l e R s m args below meth c H locs cells slots Q (F0 m (pc + 4) ls rest)) : W p l e R s m args below meth c H locs cells slots Q (F0 m pc ls (.long y :: .long x :: rest)) := by
  refine W.lcmp hx hb h1 (lv_if_lt hx hb h2 ht (fun q => kt ?_) (fun q => kf fun q2 => ?_))
  · by_cases z : y < x
    · exact absurd q (by simp [lg_cmp, z])
    · by_cases z2 : x = y
      · exact absurd q (by simp [lg_cmp, z2])
      · rcases Int64.lt_or_eq_of_le (Int64.not_lt.mp z) with h | h
        · exact h
        · exact absurd h z2
  · have a1 : ¬ y < x := fun h => Int64.lt_irrefl (Int64.lt_trans h q2)
    have a2 : ¬ x = y := fun h => by subst h; exact Int64.lt_irrefl q2
    exact q (by simp [lg_cmp, a1, a2])
end ZN
