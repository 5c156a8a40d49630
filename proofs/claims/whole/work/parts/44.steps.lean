/-! the law: what a call does to the two sides -/
section ZLD
variable {D : va_G} {ks : Nat → ClassId} {ad : Nat → Nat} {np ng : Nat} {G : Nat → Nat} {MI : Nat → Nat → Int32} {MJ : Nat → Nat → Int64} {XI : Nat → Nat → Int32} {XJ : Nat → Nat → Int64} {Rs : List Nat}
variable {p : Program} {l : Launch} {e : Env} {R : Room} {s : State} {m : MethodId} {args : Array Value} {below : List Frame} {meth : Method} {c : Code} {H : Heap} {locs : List Loc} {cells slots : Nat} {Q : State → Prop} {ls : Array Slot}
/-- how the law goes on behind a call -/
def lwC (p : Program) (l : Launch) (e : Env) (R : Room) (s : State) (m : MethodId) (args : Array Value) (below : List Frame) (meth : Method) (c : Code) (D : va_G) (ks : Nat → ClassId) (Q : State → Prop) (b n cells slots : Nat) : Prop :=
  ∀ (ad : Nat → Nat) (Rs : List Nat) (np ng : Nat) (G : Nat → Nat) (MI : Nat → Nat → Int32) (MJ : Nat → Nat → Int64) (XI : Nat → Nat → Int32) (XJ : Nat → Nat → Int64) (y : Nat) (H : Heap) (locs : List Loc) (ls : Array Slot), zIn Rs np ng → zAll Rs np ng → zD (fun q => s.heap.size ≤ q) Rs ad → zP D Rs ad (gS ks ad np ng G MI MJ XI XJ) H → va_S (fun q => s.heap.size ≤ q) s.heap H locs → sim np ng G MI MJ XI XJ y → lv_has ls 8 (lwL ad b n) → W p l e R s m args below meth c H locs (cells + 4) (slots + 13) Q (F0 m 1068 ls [])
theorem pd_eq {y : Nat} (h : sim np ng G MI MJ XI XJ y) {j : Nat} (hj : j < np) : Int64.toInt32 (XJ 11 j) = (if MI 5 j = 0 then -1 else MI 7 j) := by
  have := (h.2.2.2.1 j hj).2.2
  by_cases h5 : MI 5 j = 0
  · rw [if_pos h5] at this ⊢
    rw [this]; decide
  · rw [if_neg h5] at this ⊢
    exact this.symm
set_option maxHeartbeats 4000000 in
set_option maxRecDepth 100000 in
theorem s_stateOf {b L n y : Nat} {xs : Nat → Int32} (hF : lwF p l R s m args c D ks b L xs) (hI : zIn Rs np ng) (hall : zAll Rs np ng) (hD : zD (fun q => s.heap.size ≤ q) Rs ad) (hP : zP D Rs ad (gS ks ad np ng G MI MJ XI XJ) H) (hS : va_S (fun q => s.heap.size ≤ q) s.heap H locs) (hn : 4 * n + 4 ≤ L) (hl : lv_has ls 8 (lwL ad b n)) (hcs : cells + 4 ≤ R.cells ∧ slots + 13 ≤ R.slots) (hsim : sim np ng G MI MJ XI XJ y) (kk : lwC p l e R s m args below meth c D ks Q b n cells slots) : W p l e R s m args below meth c H locs cells slots Q (F0 m 553 ls []) := by
  have hD0 : zD (fun _ => True) Rs ad := hD.weak (fun _ _ => trivial)
  have hst := hF.2.2.2.1
  have hK := hsim.2.1
  have hok := hK.2.2.2.1
  have hN := hsim.np30
  have hnp := hok.1
  have hC := hsim.2.2.2.2.1
  have hG30 : ng ≤ 30 := Nat.le_trans hK.gle hN
  rcases pol_cases hnp hN (xs (4 * n + 1)) with ⟨j, hj, hq⟩ | ⟨hq, hq0⟩
  · skip
    have hGj := (hK.1 j hj).2.2.2.2.2
    have hW := w_stateOf (D := D) (ks := ks) (G := G) (MI := MI) (MJ := MJ) (XI := XI) (XJ := XJ) l hD0 hI (c_X3_stateOf_ok  (D := D) (ks := ks) (G := G) (MI := MI) (MJ := MJ) (XI := XI) (XJ := XJ) l hI j hj hN) H.size
    have hM := fun sz => (c_X4_stateOf_ok (MJ := u2 MJ 3 0 (Int32.toInt64 (XI 15 j))) (D := D) (ks := ks) (G := G) (MI := MI) (XI := XI) (XJ := XJ) l hD0 hI j hj hnp hN sz)
    rw [← hq] at hW
    simp only [← hq] at hM
    refine q_stateOf hF hI hD hP hS hn hl hcs hW hM rfl (fun hz => u2_s.trans (congrArg Int32.toInt64 ((hK.1 j hj).2.2.2.2.1.symm))) (by decide) (fun H locs ls hP hS hl => kk _ _ _ _ _ _ _ _ _ _ H locs ls hI hall hD hP hS ((hsim.out _).thrown 0) hl)
  · skip
    have hW := w_stateOf_x1 (D := D) (ks := ks) (G := G) (MI := MI) (MJ := MJ) (XI := XI) (XJ := XJ) l hD0 hI (c_X3_stateOf_bad  (D := D) (ks := ks) (G := G) (MI := MI) (MJ := MJ) (XI := XI) (XJ := XJ) l hst hI _ hq) H.size
    have hM := fun sz => (c_X4_stateOf_bad  (D := D) (ks := ks) (G := G) (MI := MI) (MJ := MJ) (XI := XI) (XJ := XJ) l hD0 hI _ hq0 sz)
    refine q_stateOf hF hI hD hP hS hn hl hcs hW hM rfl (fun hz => absurd hz (by decide)) (by decide) (fun H locs ls hP hS hl => kk _ _ _ _ _ _ _ _ _ _ H locs ls hI hall hD hP hS (hsim.thrown 1) hl)
set_option maxHeartbeats 4000000 in
set_option maxRecDepth 100000 in
theorem s_bonuses {b L n y : Nat} {xs : Nat → Int32} (hF : lwF p l R s m args c D ks b L xs) (hI : zIn Rs np ng) (hall : zAll Rs np ng) (hD : zD (fun q => s.heap.size ≤ q) Rs ad) (hP : zP D Rs ad (gS ks ad np ng G MI MJ XI XJ) H) (hS : va_S (fun q => s.heap.size ≤ q) s.heap H locs) (hn : 4 * n + 4 ≤ L) (hl : lv_has ls 8 (lwL ad b n)) (hcs : cells + 4 ≤ R.cells ∧ slots + 13 ≤ R.slots) (hsim : sim np ng G MI MJ XI XJ y) (kk : lwC p l e R s m args below meth c D ks Q b n cells slots) : W p l e R s m args below meth c H locs cells slots Q (F0 m 609 ls []) := by
  have hD0 : zD (fun _ => True) Rs ad := hD.weak (fun _ _ => trivial)
  have hst := hF.2.2.2.1
  have hK := hsim.2.1
  have hok := hK.2.2.2.1
  have hN := hsim.np30
  have hnp := hok.1
  have hC := hsim.2.2.2.2.1
  have hG30 : ng ≤ 30 := Nat.le_trans hK.gle hN
  rcases pol_cases hnp hN (xs (4 * n + 1)) with ⟨j, hj, hq⟩ | ⟨hq, hq0⟩
  · skip
    have hGj := (hK.1 j hj).2.2.2.2.2
    have hW := w_bonuses (D := D) (ks := ks) (G := G) (MI := MI) (MJ := MJ) (XI := XI) (XJ := XJ) l hD0 hI (c_X3_bonuses_ok  (D := D) (ks := ks) (G := G) (MI := MI) (MJ := MJ) (XI := XI) (XJ := XJ) l hI j hj hN) H.size
    have hM := fun sz => (c_X4_bonuses_ok (MJ := u2 MJ 3 0 (Int32.toInt64 (Int64.toInt32 (XJ 10 j)))) (D := D) (ks := ks) (G := G) (MI := MI) (XI := XI) (XJ := XJ) l hD0 hI j hj hnp hN sz)
    rw [← hq] at hW
    simp only [← hq] at hM
    refine q_bonuses hF hI hD hP hS hn hl hcs hW hM rfl (fun hz => u2_s.trans (congrArg Int32.toInt64 (by rw [← (hsim.2.2.2.1 j hj).2.1.1]; simp))) (by decide) (fun H locs ls hP hS hl => kk _ _ _ _ _ _ _ _ _ _ H locs ls hI hall hD hP hS ((hsim.out _).thrown 0) hl)
  · skip
    have hW := w_bonuses_x1 (D := D) (ks := ks) (G := G) (MI := MI) (MJ := MJ) (XI := XI) (XJ := XJ) l hD0 hI (c_X3_bonuses_bad  (D := D) (ks := ks) (G := G) (MI := MI) (MJ := MJ) (XI := XI) (XJ := XJ) l hst hI _ hq) H.size
    have hM := fun sz => (c_X4_bonuses_bad  (D := D) (ks := ks) (G := G) (MI := MI) (MJ := MJ) (XI := XI) (XJ := XJ) l hD0 hI _ hq0 sz)
    refine q_bonuses hF hI hD hP hS hn hl hcs hW hM rfl (fun hz => absurd hz (by decide)) (by decide) (fun H locs ls hP hS hl => kk _ _ _ _ _ _ _ _ _ _ H locs ls hI hall hD hP hS (hsim.thrown 1) hl)
set_option maxHeartbeats 4000000 in
set_option maxRecDepth 100000 in
theorem s_shareOf {b L n y : Nat} {xs : Nat → Int32} (hF : lwF p l R s m args c D ks b L xs) (hI : zIn Rs np ng) (hall : zAll Rs np ng) (hD : zD (fun q => s.heap.size ≤ q) Rs ad) (hP : zP D Rs ad (gS ks ad np ng G MI MJ XI XJ) H) (hS : va_S (fun q => s.heap.size ≤ q) s.heap H locs) (hn : 4 * n + 4 ≤ L) (hl : lv_has ls 8 (lwL ad b n)) (hcs : cells + 4 ≤ R.cells ∧ slots + 13 ≤ R.slots) (hsim : sim np ng G MI MJ XI XJ y) (kk : lwC p l e R s m args below meth c D ks Q b n cells slots) : W p l e R s m args below meth c H locs cells slots Q (F0 m 665 ls []) := by
  have hD0 : zD (fun _ => True) Rs ad := hD.weak (fun _ _ => trivial)
  have hst := hF.2.2.2.1
  have hK := hsim.2.1
  have hok := hK.2.2.2.1
  have hN := hsim.np30
  have hnp := hok.1
  have hC := hsim.2.2.2.2.1
  have hG30 : ng ≤ 30 := Nat.le_trans hK.gle hN
  rcases pol_cases hnp hN (xs (4 * n + 1)) with ⟨j, hj, hq⟩ | ⟨hq, hq0⟩
  · skip
    have hGj := (hK.1 j hj).2.2.2.2.2
    have hW := w_shareOf (D := D) (ks := ks) (G := G) (MI := MI) (MJ := MJ) (XI := XI) (XJ := XJ) l hD0 hI (c_X3_shareOf_ok  (D := D) (ks := ks) (G := G) (MI := MI) (MJ := MJ) (XI := XI) (XJ := XJ) l hI j hj hN hGj) H.size
    have hM := fun sz => (c_X4_shareOf_ok (MJ := u2 MJ 3 0 (Int32.toInt64 (Int64.toInt32 (fAsset (XI 15 j) (XJ 8 (G j)) (XI 13 j) (XJ 7 (G j)))))) (D := D) (ks := ks) (G := G) (MI := MI) (XI := XI) (XJ := XJ) l hD0 hI j hj hnp hN (hok.hd hj) sz)
    rw [← hq] at hW
    simp only [← hq] at hM
    refine q_shareOf hF hI hD hP hS hn hl hcs hW hM rfl (fun hz => u2_s.trans (congrArg Int32.toInt64 (congrArg Int64.toInt32 (share_eq hK hsim.2.2.1 (RBb y (by have := hsim.1.1; omega)).1 hj).1))) (by decide) (fun H locs ls hP hS hl => kk _ _ _ _ _ _ _ _ _ _ H locs ls hI hall hD hP hS ((hsim.out _).thrown 0) hl)
  · skip
    have hW := w_shareOf_x1 (D := D) (ks := ks) (G := G) (MI := MI) (MJ := MJ) (XI := XI) (XJ := XJ) l hD0 hI (c_X3_shareOf_bad  (D := D) (ks := ks) (G := G) (MI := MI) (MJ := MJ) (XI := XI) (XJ := XJ) l hst hI _ hq) H.size
    have hM := fun sz => (c_X4_shareOf_bad  (D := D) (ks := ks) (G := G) (MI := MI) (MJ := MJ) (XI := XI) (XJ := XJ) l hD0 hI _ hq0 sz)
    refine q_shareOf hF hI hD hP hS hn hl hcs hW hM rfl (fun hz => absurd hz (by decide)) (by decide) (fun H locs ls hP hS hl => kk _ _ _ _ _ _ _ _ _ _ H locs ls hI hall hD hP hS (hsim.thrown 1) hl)
set_option maxHeartbeats 4000000 in
set_option maxRecDepth 100000 in
theorem s_shareAlone {b L n y : Nat} {xs : Nat → Int32} (hF : lwF p l R s m args c D ks b L xs) (hI : zIn Rs np ng) (hall : zAll Rs np ng) (hD : zD (fun q => s.heap.size ≤ q) Rs ad) (hP : zP D Rs ad (gS ks ad np ng G MI MJ XI XJ) H) (hS : va_S (fun q => s.heap.size ≤ q) s.heap H locs) (hn : 4 * n + 4 ≤ L) (hl : lv_has ls 8 (lwL ad b n)) (hcs : cells + 4 ≤ R.cells ∧ slots + 13 ≤ R.slots) (hsim : sim np ng G MI MJ XI XJ y) (kk : lwC p l e R s m args below meth c D ks Q b n cells slots) : W p l e R s m args below meth c H locs cells slots Q (F0 m 721 ls []) := by
  have hD0 : zD (fun _ => True) Rs ad := hD.weak (fun _ _ => trivial)
  have hst := hF.2.2.2.1
  have hK := hsim.2.1
  have hok := hK.2.2.2.1
  have hN := hsim.np30
  have hnp := hok.1
  have hC := hsim.2.2.2.2.1
  have hG30 : ng ≤ 30 := Nat.le_trans hK.gle hN
  rcases pol_cases hnp hN (xs (4 * n + 1)) with ⟨j, hj, hq⟩ | ⟨hq, hq0⟩
  · skip
    have hGj := (hK.1 j hj).2.2.2.2.2
    have hW := w_shareAlone (D := D) (ks := ks) (G := G) (MI := MI) (MJ := MJ) (XI := XI) (XJ := XJ) l hD0 hI (c_X3_shareAlone_ok  (D := D) (ks := ks) (G := G) (MI := MI) (MJ := MJ) (XI := XI) (XJ := XJ) l hI j hj hN) H.size
    have hM := fun sz => (c_X4_shareAlone_ok (MJ := u2 MJ 3 0 (Int32.toInt64 (if XI 15 j = 0 then Int64.toInt32 (XJ 9 j) else 0))) (D := D) (ks := ks) (G := G) (MI := MI) (XI := XI) (XJ := XJ) l hD0 hI j hj hnp hN sz)
    rw [← hq] at hW
    simp only [← hq] at hM
    refine q_shareAlone hF hI hD hP hS hn hl hcs hW hM rfl (fun hz => u2_s.trans (congrArg Int32.toInt64 (by rw [← (hK.1 j hj).2.2.2.2.1, ← (hsim.2.2.2.1 j hj).1.1]; rfl))) (by decide) (fun H locs ls hP hS hl => kk _ _ _ _ _ _ _ _ _ _ H locs ls hI hall hD hP hS ((hsim.out _).thrown 0) hl)
  · skip
    have hW := w_shareAlone_x1 (D := D) (ks := ks) (G := G) (MI := MI) (MJ := MJ) (XI := XI) (XJ := XJ) l hD0 hI (c_X3_shareAlone_bad  (D := D) (ks := ks) (G := G) (MI := MI) (MJ := MJ) (XI := XI) (XJ := XJ) l hst hI _ hq) H.size
    have hM := fun sz => (c_X4_shareAlone_bad  (D := D) (ks := ks) (G := G) (MI := MI) (MJ := MJ) (XI := XI) (XJ := XJ) l hD0 hI _ hq0 sz)
    refine q_shareAlone hF hI hD hP hS hn hl hcs hW hM rfl (fun hz => absurd hz (by decide)) (by decide) (fun H locs ls hP hS hl => kk _ _ _ _ _ _ _ _ _ _ H locs ls hI hall hD hP hS (hsim.thrown 1) hl)
set_option maxHeartbeats 4000000 in
set_option maxRecDepth 100000 in
theorem s_paid {b L n y : Nat} {xs : Nat → Int32} (hF : lwF p l R s m args c D ks b L xs) (hI : zIn Rs np ng) (hall : zAll Rs np ng) (hD : zD (fun q => s.heap.size ≤ q) Rs ad) (hP : zP D Rs ad (gS ks ad np ng G MI MJ XI XJ) H) (hS : va_S (fun q => s.heap.size ≤ q) s.heap H locs) (hn : 4 * n + 4 ≤ L) (hl : lv_has ls 8 (lwL ad b n)) (hcs : cells + 4 ≤ R.cells ∧ slots + 13 ≤ R.slots) (hsim : sim np ng G MI MJ XI XJ y) (kk : lwC p l e R s m args below meth c D ks Q b n cells slots) : W p l e R s m args below meth c H locs cells slots Q (F0 m 845 ls []) := by
  have hD0 : zD (fun _ => True) Rs ad := hD.weak (fun _ _ => trivial)
  have hst := hF.2.2.2.1
  have hK := hsim.2.1
  have hok := hK.2.2.2.1
  have hN := hsim.np30
  have hnp := hok.1
  have hC := hsim.2.2.2.2.1
  have hG30 : ng ≤ 30 := Nat.le_trans hK.gle hN
  rcases pol_cases hnp hN (xs (4 * n + 1)) with ⟨j, hj, hq⟩ | ⟨hq, hq0⟩
  · skip
    have hGj := (hK.1 j hj).2.2.2.2.2
    have hW := w_paid (D := D) (ks := ks) (G := G) (MI := MI) (MJ := MJ) (XI := XI) (XJ := XJ) l hD0 hI (c_X3_paid_ok  (D := D) (ks := ks) (G := G) (MI := MI) (MJ := MJ) (XI := XI) (XJ := XJ) l hI j hj hN) H.size
    have hM := fun sz => (c_X4_paid_ok (MJ := u2 MJ 3 0 (Int32.toInt64 (Int64.toInt32 (XJ 11 j)))) (D := D) (ks := ks) (G := G) (MI := MI) (XI := XI) (XJ := XJ) l hD0 hI j hj hnp hN sz)
    rw [← hq] at hW
    simp only [← hq] at hM
    refine q_paid hF hI hD hP hS hn hl hcs hW hM rfl (fun hz => u2_s.trans (congrArg Int32.toInt64 (pd_eq hsim hj))) (by decide) (fun H locs ls hP hS hl => kk _ _ _ _ _ _ _ _ _ _ H locs ls hI hall hD hP hS ((hsim.out _).thrown 0) hl)
  · skip
    have hW := w_paid_x1 (D := D) (ks := ks) (G := G) (MI := MI) (MJ := MJ) (XI := XI) (XJ := XJ) l hD0 hI (c_X3_paid_bad  (D := D) (ks := ks) (G := G) (MI := MI) (MJ := MJ) (XI := XI) (XJ := XJ) l hst hI _ hq) H.size
    have hM := fun sz => (c_X4_paid_bad  (D := D) (ks := ks) (G := G) (MI := MI) (MJ := MJ) (XI := XI) (XJ := XJ) l hD0 hI _ hq0 sz)
    refine q_paid hF hI hD hP hS hn hl hcs hW hM rfl (fun hz => absurd hz (by decide)) (by decide) (fun H locs ls hP hS hl => kk _ _ _ _ _ _ _ _ _ _ H locs ls hI hall hD hP hS (hsim.thrown 1) hl)
set_option maxHeartbeats 4000000 in
set_option maxRecDepth 100000 in
theorem s_worth {b L n y : Nat} {xs : Nat → Int32} (hF : lwF p l R s m args c D ks b L xs) (hI : zIn Rs np ng) (hall : zAll Rs np ng) (hD : zD (fun q => s.heap.size ≤ q) Rs ad) (hP : zP D Rs ad (gS ks ad np ng G MI MJ XI XJ) H) (hS : va_S (fun q => s.heap.size ≤ q) s.heap H locs) (hn : 4 * n + 4 ≤ L) (hl : lv_has ls 8 (lwL ad b n)) (hcs : cells + 4 ≤ R.cells ∧ slots + 13 ≤ R.slots) (hsim : sim np ng G MI MJ XI XJ y) (kk : lwC p l e R s m args below meth c D ks Q b n cells slots) : W p l e R s m args below meth c H locs cells slots Q (F0 m 901 ls []) := by
  have hD0 : zD (fun _ => True) Rs ad := hD.weak (fun _ _ => trivial)
  have hst := hF.2.2.2.1
  have hK := hsim.2.1
  have hok := hK.2.2.2.1
  have hN := hsim.np30
  have hnp := hok.1
  have hC := hsim.2.2.2.2.1
  have hG30 : ng ≤ 30 := Nat.le_trans hK.gle hN
  rcases pol_cases hnp hN (xs (4 * n + 1)) with ⟨j, hj, hq⟩ | ⟨hq, hq0⟩
  · skip
    have hGj := (hK.1 j hj).2.2.2.2.2
    have hlv := leav_eq hsim hj
    by_cases hc : MI 5 j = 0 ∧ MI 1 j < MI 0 0
    · skip
      have hx := hlv.mp hc
      have hw := worth_eq hsim hj hc.1
      have hW := w_worth (D := D) (ks := ks) (G := G) (MI := MI) (MJ := MJ) (XI := XI) (XJ := XJ) l hD0 hI (c_X3_worth_ok  (D := D) (ks := ks) (G := G) (MI := MI) (MJ := MJ) (XI := XI) (XJ := XJ) l hI j hj hN hGj hx.1 hx.2) H.size
      have hM := fun sz => (c_X4_worth_ok (MJ := u2 MJ 3 0 (Int32.toInt64 (Int64.toInt32 (fWorth (XI 10 2 - XI 11 (G j)) (XI 12 (G j)) (fAsset (XI 15 j) (XJ 8 (G j)) (XI 13 j) (XJ 7 (G j))) (XI 13 j) (XI 10 7))))) (D := D) (ks := ks) (G := G) (MI := MI) (XI := XI) (XJ := XJ) l hD0 hI j hj hnp hN hc.1 hc.2 (hok.hd hj) (hok.ht hj) sz)
      rw [← hq] at hW
      simp only [← hq] at hM
      refine q_worth hF hI hD hP hS hn hl hcs hW hM rfl (fun hz => u2_s.trans (congrArg Int32.toInt64 (congrArg Int64.toInt32 hw.1))) (by decide) (fun H locs ls hP hS hl => kk _ _ _ _ _ _ _ _ _ _ H locs ls hI hall hD hP hS (((hsim.out _).thrown 0).thrown 0) hl)
    · skip
      have hW := w_worth_x2 (D := D) (ks := ks) (G := G) (MI := MI) (MJ := MJ) (XI := XI) (XJ := XJ) l hD0 hI (c_X3_worth_no  (D := D) (ks := ks) (G := G) (MI := MI) (MJ := MJ) (XI := XI) (XJ := XJ) l hst hI j hj hN hGj (fun q => hc (hlv.mpr q))) H.size
      have hM := fun sz => (c_X4_worth_no  (D := D) (ks := ks) (G := G) (MI := MI) (MJ := MJ) (XI := XI) (XJ := XJ) l hD0 hI j hj hnp hN hc sz)
      rw [← hq] at hW
      simp only [← hq] at hM
      refine q_worth hF hI hD hP hS hn hl hcs hW hM rfl (fun hz => absurd hz (by decide)) (by decide) (fun H locs ls hP hS hl => kk _ _ _ _ _ _ _ _ _ _ H locs ls hI hall hD hP hS ((hsim.thrown 0).thrown 2) hl)
  · skip
    have hW := w_worth_x1 (D := D) (ks := ks) (G := G) (MI := MI) (MJ := MJ) (XI := XI) (XJ := XJ) l hD0 hI (c_X3_worth_bad  (D := D) (ks := ks) (G := G) (MI := MI) (MJ := MJ) (XI := XI) (XJ := XJ) l hst hI _ hq) H.size
    have hM := fun sz => (c_X4_worth_bad  (D := D) (ks := ks) (G := G) (MI := MI) (MJ := MJ) (XI := XI) (XJ := XJ) l hD0 hI _ hq0 sz)
    refine q_worth hF hI hD hP hS hn hl hcs hW hM rfl (fun hz => absurd hz (by decide)) (by decide) (fun H locs ls hP hS hl => kk _ _ _ _ _ _ _ _ _ _ H locs ls hI hall hD hP hS (hsim.thrown 1) hl)
set_option maxHeartbeats 4000000 in
set_option maxRecDepth 100000 in
theorem s_surrender {b L n y : Nat} {xs : Nat → Int32} (hF : lwF p l R s m args c D ks b L xs) (hI : zIn Rs np ng) (hall : zAll Rs np ng) (hD : zD (fun q => s.heap.size ≤ q) Rs ad) (hP : zP D Rs ad (gS ks ad np ng G MI MJ XI XJ) H) (hS : va_S (fun q => s.heap.size ≤ q) s.heap H locs) (hn : 4 * n + 4 ≤ L) (hl : lv_has ls 8 (lwL ad b n)) (hcs : cells + 4 ≤ R.cells ∧ slots + 13 ≤ R.slots) (hsim : sim np ng G MI MJ XI XJ y) (kk : lwC p l e R s m args below meth c D ks Q b n cells slots) : W p l e R s m args below meth c H locs cells slots Q (F0 m 212 ls []) := by
  have hD0 : zD (fun _ => True) Rs ad := hD.weak (fun _ _ => trivial)
  have hst := hF.2.2.2.1
  have hK := hsim.2.1
  have hok := hK.2.2.2.1
  have hN := hsim.np30
  have hnp := hok.1
  have hC := hsim.2.2.2.2.1
  have hG30 : ng ≤ 30 := Nat.le_trans hK.gle hN
  rcases pol_cases hnp hN (xs (4 * n + 1)) with ⟨j, hj, hq⟩ | ⟨hq, hq0⟩
  · skip
    have hGj := (hK.1 j hj).2.2.2.2.2
    have hlv := leav_eq hsim hj
    by_cases hc : MI 5 j = 0 ∧ MI 1 j < MI 0 0
    · skip
      have hx := hlv.mp hc
      have hw := worth_eq hsim hj hc.1
      have hW := w_surrender (D := D) (ks := ks) (G := G) (MI := MI) (MJ := MJ) (XI := XI) (XJ := XJ) l hD0 hI H.size (c_X3_surrender_ok  (D := D) (ks := ks) (G := G) (MI := MI) (MJ := MJ) (XI := XI) (XJ := XJ) l hD0 hI j hj hN hGj hx.1 hx.2 H.size)
      have hM := fun sz => (c_X4_surrender_ok (MJ := u2 MJ 3 0 (Int32.toInt64 (Int64.toInt32 (fWorth (XI 10 2 - XI 11 (G j)) (XI 12 (G j)) (fAsset (XI 15 j) (XJ 8 (G j)) (XI 13 j) (XJ 7 (G j))) (XI 13 j) (XI 10 7))))) (XI := u2 XI 15 j 2) (XJ := xCloJ XI G j (fWorth (XI 10 2 - XI 11 (G j)) (XI 12 (G j)) (fAsset (XI 15 j) (XJ 8 (G j)) (XI 13 j) (XJ 7 (G j))) (XI 13 j) (XI 10 7)) XJ) (D := D) (ks := ks) (G := G) (MI := MI) l hD0 hI j hj hnp hN hc.1 hc.2 (hok.hd hj) (hok.ht hj) sz)
      rw [← hq] at hW
      simp only [← hq] at hM
      refine q_surrender hF hI hD hP hS hn hl hcs hW hM rfl (fun hz => (congrFun lvJ_3 0).trans (u2_s.trans (congrArg Int32.toInt64 (congrArg Int64.toInt32 hw.1)))) (by decide) (fun H locs ls hP hS hl => kk _ _ _ _ _ _ _ _ _ _ H locs ls hI hall hD hP hS (by have h2 := sim_surrender (hsim.out (Int32.toInt64 (Int64.toInt32 (fWorth (XI 10 2 - XI 11 (G j)) (XI 12 (G j)) (fAsset (XI 15 j) (XJ 8 (G j)) (XI 13 j) (XJ 7 (G j))) (XI 13 j) (XI 10 7))))) hj hc.1 (w := fWorth (XI 10 2 - XI 11 (G j)) (XI 12 (G j)) (fAsset (XI 15 j) (XJ 8 (G j)) (XI 13 j) (XJ 7 (G j))) (XI 13 j) (XI 10 7)) hw.1; have e1 : mWorth MI (u2 MJ 3 0 (Int32.toInt64 (Int64.toInt32 (fWorth (XI 10 2 - XI 11 (G j)) (XI 12 (G j)) (fAsset (XI 15 j) (XJ 8 (G j)) (XI 13 j) (XJ 7 (G j))) (XI 13 j) (XI 10 7))))) np j = fWorth (XI 10 2 - XI 11 (G j)) (XI 12 (G j)) (fAsset (XI 15 j) (XJ 8 (G j)) (XI 13 j) (XJ 7 (G j))) (XI 13 j) (XI 10 7) := hw.1.symm; rw [e1]; exact h2) hl)
    · skip
      have hW := w_surrender_x2 (D := D) (ks := ks) (G := G) (MI := MI) (MJ := MJ) (XI := XI) (XJ := XJ) l hD0 hI (c_X3_surrender_no  (D := D) (ks := ks) (G := G) (MI := MI) (MJ := MJ) (XI := XI) (XJ := XJ) l hst hI j hj hN hGj (fun q => hc (hlv.mpr q))) H.size
      have hM := fun sz => (c_X4_surrender_no  (D := D) (ks := ks) (G := G) (MI := MI) (MJ := MJ) (XI := XI) (XJ := XJ) l hD0 hI j hj hnp hN hc sz)
      rw [← hq] at hW
      simp only [← hq] at hM
      refine q_surrender hF hI hD hP hS hn hl hcs hW hM rfl (fun hz => absurd hz (by decide)) (by decide) (fun H locs ls hP hS hl => kk _ _ _ _ _ _ _ _ _ _ H locs ls hI hall hD hP hS ((hsim.thrown 0).thrown 2) hl)
  · skip
    have hW := w_surrender_x1 (D := D) (ks := ks) (G := G) (MI := MI) (MJ := MJ) (XI := XI) (XJ := XJ) l hD0 hI (c_X3_surrender_bad  (D := D) (ks := ks) (G := G) (MI := MI) (MJ := MJ) (XI := XI) (XJ := XJ) l hst hI _ hq) H.size
    have hM := fun sz => (c_X4_surrender_bad  (D := D) (ks := ks) (G := G) (MI := MI) (MJ := MJ) (XI := XI) (XJ := XJ) l hD0 hI _ hq0 sz)
    refine q_surrender hF hI hD hP hS hn hl hcs hW hM rfl (fun hz => absurd hz (by decide)) (by decide) (fun H locs ls hP hS hl => kk _ _ _ _ _ _ _ _ _ _ H locs ls hI hall hD hP hS (hsim.thrown 1) hl)
set_option maxHeartbeats 4000000 in
set_option maxRecDepth 100000 in
theorem s_setRates {b L n y : Nat} {xs : Nat → Int32} (hF : lwF p l R s m args c D ks b L xs) (hI : zIn Rs np ng) (hall : zAll Rs np ng) (hD : zD (fun q => s.heap.size ≤ q) Rs ad) (hP : zP D Rs ad (gS ks ad np ng G MI MJ XI XJ) H) (hS : va_S (fun q => s.heap.size ≤ q) s.heap H locs) (hn : 4 * n + 4 ≤ L) (hl : lv_has ls 8 (lwL ad b n)) (hcs : cells + 4 ≤ R.cells ∧ slots + 13 ≤ R.slots) (hsim : sim np ng G MI MJ XI XJ y) (kk : lwC p l e R s m args below meth c D ks Q b n cells slots) : W p l e R s m args below meth c H locs cells slots Q (F0 m 268 ls []) := by
  have hD0 : zD (fun _ => True) Rs ad := hD.weak (fun _ _ => trivial)
  have hst := hF.2.2.2.1
  have hK := hsim.2.1
  have hok := hK.2.2.2.1
  have hN := hsim.np30
  have hnp := hok.1
  have hC := hsim.2.2.2.2.1
  have hG30 : ng ≤ 30 := Nat.le_trans hK.gle hN
  rcases fIn_01 (xs (4 * n + 1)) (0) 200 with r0 | r0
  · skip
    have hW := w_setRates_x1 (D := D) (ks := ks) (G := G) (MI := MI) (MJ := MJ) (XI := XI) (XJ := XJ) l hD0 hI (c_X3_setRates_bad  (D := D) (ks := ks) (G := G) (MI := MI) (MJ := MJ) (XI := XI) (XJ := XJ) l hst hI (xs (4 * n + 1)) (xs (4 * n + 2)) (Or.inl r0)) H.size
    have hM := fun sz => (c_X4_setRates_bad  (D := D) (ks := ks) (G := G) (MI := MI) (MJ := MJ) (XI := XI) (XJ := XJ) l hD0 hI (xs (4 * n + 1)) (xs (4 * n + 2)) (Or.inl r0) sz)
    refine q_setRates hF hI hD hP hS hn hl hcs hW hM rfl (fun hz => absurd hz (by decide)) (by decide) (fun H locs ls hP hS hl => kk _ _ _ _ _ _ _ _ _ _ H locs ls hI hall hD hP hS (hsim.thrown 1) hl)
  rcases fIn_01 (xs (4 * n + 2)) (0) 100 with r1 | r1
  · skip
    have hW := w_setRates_x1 (D := D) (ks := ks) (G := G) (MI := MI) (MJ := MJ) (XI := XI) (XJ := XJ) l hD0 hI (c_X3_setRates_bad  (D := D) (ks := ks) (G := G) (MI := MI) (MJ := MJ) (XI := XI) (XJ := XJ) l hst hI (xs (4 * n + 1)) (xs (4 * n + 2)) (Or.inr (r1))) H.size
    have hM := fun sz => (c_X4_setRates_bad  (D := D) (ks := ks) (G := G) (MI := MI) (MJ := MJ) (XI := XI) (XJ := XJ) l hD0 hI (xs (4 * n + 1)) (xs (4 * n + 2)) (Or.inr (r1)) sz)
    refine q_setRates hF hI hD hP hS hn hl hcs hW hM rfl (fun hz => absurd hz (by decide)) (by decide) (fun H locs ls hP hS hl => kk _ _ _ _ _ _ _ _ _ _ H locs ls hI hall hD hP hS (hsim.thrown 1) hl)
  have hW := w_setRates (D := D) (ks := ks) (G := G) (MI := MI) (MJ := MJ) (XI := XI) (XJ := XJ) l hD0 hI H.size (c_X3_setRates_ok  (D := D) (ks := ks) (G := G) (MI := MI) (MJ := MJ) (XI := XI) (XJ := XJ) l hD0 hI (xs (4 * n + 1)) (xs (4 * n + 2)) r0 r1 H.size)
  have hM := fun sz => (c_X4_setRates_ok (MJ := u2 MJ 3 0 (Int32.toInt64 (XI 10 3))) (XI := u2 (u2 XI 10 3 (xs (4 * n + 1))) 10 4 (xs (4 * n + 2))) (D := D) (ks := ks) (G := G) (MI := MI) (XJ := XJ) l hD0 hI (xs (4 * n + 1)) (xs (4 * n + 2)) r0 r1 sz)
  refine q_setRates hF hI hD hP hS hn hl hcs hW hM rfl (fun hz => u2_s.trans (congrArg Int32.toInt64 hC.1.2.1.symm)) (by decide) (fun H locs ls hP hS hl => kk _ _ _ _ _ _ _ _ _ _ H locs ls hI hall hD hP hS (sim_rates (hsim.out _) r0 r1) hl)
set_option maxHeartbeats 4000000 in
set_option maxRecDepth 100000 in
theorem s_setScale {b L n y : Nat} {xs : Nat → Int32} (hF : lwF p l R s m args c D ks b L xs) (hI : zIn Rs np ng) (hall : zAll Rs np ng) (hD : zD (fun q => s.heap.size ≤ q) Rs ad) (hP : zP D Rs ad (gS ks ad np ng G MI MJ XI XJ) H) (hS : va_S (fun q => s.heap.size ≤ q) s.heap H locs) (hn : 4 * n + 4 ≤ L) (hl : lv_has ls 8 (lwL ad b n)) (hcs : cells + 4 ≤ R.cells ∧ slots + 13 ≤ R.slots) (hsim : sim np ng G MI MJ XI XJ y) (kk : lwC p l e R s m args below meth c D ks Q b n cells slots) : W p l e R s m args below meth c H locs cells slots Q (F0 m 336 ls []) := by
  have hD0 : zD (fun _ => True) Rs ad := hD.weak (fun _ _ => trivial)
  have hst := hF.2.2.2.1
  have hK := hsim.2.1
  have hok := hK.2.2.2.1
  have hN := hsim.np30
  have hnp := hok.1
  have hC := hsim.2.2.2.2.1
  have hG30 : ng ≤ 30 := Nat.le_trans hK.gle hN
  rcases fIn_01 (xs (4 * n + 1)) (500) 1500 with r0 | r0
  · skip
    have hW := w_setScale_x1 (D := D) (ks := ks) (G := G) (MI := MI) (MJ := MJ) (XI := XI) (XJ := XJ) l hD0 hI (c_X3_setScale_bad  (D := D) (ks := ks) (G := G) (MI := MI) (MJ := MJ) (XI := XI) (XJ := XJ) l hst hI (xs (4 * n + 1)) (xs (4 * n + 2)) (xs (4 * n + 3)) (Or.inl r0)) H.size
    have hM := fun sz => (c_X4_setScale_bad  (D := D) (ks := ks) (G := G) (MI := MI) (MJ := MJ) (XI := XI) (XJ := XJ) l hD0 hI (xs (4 * n + 1)) (xs (4 * n + 2)) (xs (4 * n + 3)) (Or.inl r0) sz)
    refine q_setScale hF hI hD hP hS hn hl hcs hW hM rfl (fun hz => absurd hz (by decide)) (by decide) (fun H locs ls hP hS hl => kk _ _ _ _ _ _ _ _ _ _ H locs ls hI hall hD hP hS (hsim.thrown 1) hl)
  rcases fIn_01 (xs (4 * n + 2)) (0) 1000 with r1 | r1
  · skip
    have hW := w_setScale_x1 (D := D) (ks := ks) (G := G) (MI := MI) (MJ := MJ) (XI := XI) (XJ := XJ) l hD0 hI (c_X3_setScale_bad  (D := D) (ks := ks) (G := G) (MI := MI) (MJ := MJ) (XI := XI) (XJ := XJ) l hst hI (xs (4 * n + 1)) (xs (4 * n + 2)) (xs (4 * n + 3)) (Or.inr (Or.inl r1))) H.size
    have hM := fun sz => (c_X4_setScale_bad  (D := D) (ks := ks) (G := G) (MI := MI) (MJ := MJ) (XI := XI) (XJ := XJ) l hD0 hI (xs (4 * n + 1)) (xs (4 * n + 2)) (xs (4 * n + 3)) (Or.inr (Or.inl r1)) sz)
    refine q_setScale hF hI hD hP hS hn hl hcs hW hM rfl (fun hz => absurd hz (by decide)) (by decide) (fun H locs ls hP hS hl => kk _ _ _ _ _ _ _ _ _ _ H locs ls hI hall hD hP hS (hsim.thrown 1) hl)
  rcases fIn_01 (xs (4 * n + 3)) (0) 1000 with r2 | r2
  · skip
    have hW := w_setScale_x1 (D := D) (ks := ks) (G := G) (MI := MI) (MJ := MJ) (XI := XI) (XJ := XJ) l hD0 hI (c_X3_setScale_bad  (D := D) (ks := ks) (G := G) (MI := MI) (MJ := MJ) (XI := XI) (XJ := XJ) l hst hI (xs (4 * n + 1)) (xs (4 * n + 2)) (xs (4 * n + 3)) (Or.inr (Or.inr (r2)))) H.size
    have hM := fun sz => (c_X4_setScale_bad  (D := D) (ks := ks) (G := G) (MI := MI) (MJ := MJ) (XI := XI) (XJ := XJ) l hD0 hI (xs (4 * n + 1)) (xs (4 * n + 2)) (xs (4 * n + 3)) (Or.inr (Or.inr (r2))) sz)
    refine q_setScale hF hI hD hP hS hn hl hcs hW hM rfl (fun hz => absurd hz (by decide)) (by decide) (fun H locs ls hP hS hl => kk _ _ _ _ _ _ _ _ _ _ H locs ls hI hall hD hP hS (hsim.thrown 1) hl)
  have hW := w_setScale (D := D) (ks := ks) (G := G) (MI := MI) (MJ := MJ) (XI := XI) (XJ := XJ) l hD0 hI H.size (c_X3_setScale_ok  (D := D) (ks := ks) (G := G) (MI := MI) (MJ := MJ) (XI := XI) (XJ := XJ) l hD0 hI (xs (4 * n + 1)) (xs (4 * n + 2)) (xs (4 * n + 3)) r0 r1 r2 H.size)
  have hM := fun sz => (c_X4_setScale_ok (MJ := u2 MJ 3 0 (Int32.toInt64 (XI 10 5))) (XI := u2 (u2 (u2 XI 10 5 (xs (4 * n + 1))) 10 6 (xs (4 * n + 2))) 10 7 (xs (4 * n + 3))) (D := D) (ks := ks) (G := G) (MI := MI) (XJ := XJ) l hD0 hI (xs (4 * n + 1)) (xs (4 * n + 2)) (xs (4 * n + 3)) r0 r1 r2 sz)
  refine q_setScale hF hI hD hP hS hn hl hcs hW hM rfl (fun hz => u2_s.trans (congrArg Int32.toInt64 hC.1.2.2.2.1.symm)) (by decide) (fun H locs ls hP hS hl => kk _ _ _ _ _ _ _ _ _ _ H locs ls hI hall hD hP hS (sim_scale (hsim.out _) r0 r1 r2) hl)
set_option maxHeartbeats 4000000 in
set_option maxRecDepth 100000 in
theorem s_endow {b L n y : Nat} {xs : Nat → Int32} (hF : lwF p l R s m args c D ks b L xs) (hI : zIn Rs np ng) (hall : zAll Rs np ng) (hD : zD (fun q => s.heap.size ≤ q) Rs ad) (hP : zP D Rs ad (gS ks ad np ng G MI MJ XI XJ) H) (hS : va_S (fun q => s.heap.size ≤ q) s.heap H locs) (hn : 4 * n + 4 ≤ L) (hl : lv_has ls 8 (lwL ad b n)) (hcs : cells + 4 ≤ R.cells ∧ slots + 13 ≤ R.slots) (hsim : sim np ng G MI MJ XI XJ y) (kk : lwC p l e R s m args below meth c D ks Q b n cells slots) : W p l e R s m args below meth c H locs cells slots Q (F0 m 416 ls []) := by
  have hD0 : zD (fun _ => True) Rs ad := hD.weak (fun _ _ => trivial)
  have hst := hF.2.2.2.1
  have hK := hsim.2.1
  have hok := hK.2.2.2.1
  have hN := hsim.np30
  have hnp := hok.1
  have hC := hsim.2.2.2.2.1
  have hG30 : ng ≤ 30 := Nat.le_trans hK.gle hN
  rcases fIn_01 (xs (4 * n + 1)) (-1000000) 1000000 with r0 | r0
  · skip
    have hW := w_endow_x1 (D := D) (ks := ks) (G := G) (MI := MI) (MJ := MJ) (XI := XI) (XJ := XJ) l hD0 hI (c_X3_endow_bad  (D := D) (ks := ks) (G := G) (MI := MI) (MJ := MJ) (XI := XI) (XJ := XJ) l hst hI (xs (4 * n + 1)) r0) H.size
    have hM := fun sz => (c_X4_endow_bad  (D := D) (ks := ks) (G := G) (MI := MI) (MJ := MJ) (XI := XI) (XJ := XJ) l hD0 hI (xs (4 * n + 1)) r0 sz)
    refine q_endow hF hI hD hP hS hn hl hcs hW hM rfl (fun hz => absurd hz (by decide)) (by decide) (fun H locs ls hP hS hl => kk _ _ _ _ _ _ _ _ _ _ H locs ls hI hall hD hP hS (hsim.thrown 1) hl)
  have hW := w_endow (D := D) (ks := ks) (G := G) (MI := MI) (MJ := MJ) (XI := XI) (XJ := XJ) l hD0 hI H.size (c_X3_endow_ok  (D := D) (ks := ks) (G := G) (MI := MI) (MJ := MJ) (XI := XI) (XJ := XJ) l hD0 hI (xs (4 * n + 1)) r0 H.size)
  have hM := fun sz => (c_X4_endow_ok (MJ := u2 MJ 3 0 (XJ 4 0 + Int32.toInt64 (xs (4 * n + 1)))) (XJ := u2 (u2 XJ 4 0 (XJ 4 0 + Int32.toInt64 (xs (4 * n + 1)))) 4 1 (XJ 4 1 + Int32.toInt64 (xs (4 * n + 1)))) (D := D) (ks := ks) (G := G) (MI := MI) (XI := XI) l hD0 hI (xs (4 * n + 1)) r0 sz)
  refine q_endow hF hI hD hP hS hn hl hcs hW hM rfl (fun hz => by show XJ 4 0 + Int32.toInt64 (xs (4 * n + 1)) = MJ 0 0 + Int32.toInt64 (xs (4 * n + 1)); rw [hsim.2.2.1.2.2.1]) (by decide) (fun H locs ls hP hS hl => kk _ _ _ _ _ _ _ _ _ _ H locs ls hI hall hD hP hS (sim_endow (hsim.out _) _) hl)
set_option maxHeartbeats 4000000 in
set_option maxRecDepth 100000 in
theorem s_run {b L n y : Nat} {xs : Nat → Int32} (hF : lwF p l R s m args c D ks b L xs) (hI : zIn Rs np ng) (hall : zAll Rs np ng) (hD : zD (fun q => s.heap.size ≤ q) Rs ad) (hP : zP D Rs ad (gS ks ad np ng G MI MJ XI XJ) H) (hS : va_S (fun q => s.heap.size ≤ q) s.heap H locs) (hn : 4 * n + 4 ≤ L) (hl : lv_has ls 8 (lwL ad b n)) (hcs : cells + 4 ≤ R.cells ∧ slots + 13 ≤ R.slots) (hsim : sim np ng G MI MJ XI XJ y) (kk : lwC p l e R s m args below meth c D ks Q b n cells slots) : W p l e R s m args below meth c H locs cells slots Q (F0 m 471 ls []) := by
  have hD0 : zD (fun _ => True) Rs ad := hD.weak (fun _ _ => trivial)
  have hst := hF.2.2.2.1
  have hK := hsim.2.1
  have hok := hK.2.2.2.1
  have hN := hsim.np30
  have hnp := hok.1
  have hC := hsim.2.2.2.2.1
  have hG30 : ng ≤ 30 := Nat.le_trans hK.gle hN
  rcases fIn_01 (xs (4 * n + 1)) (-200) 200 with r0 | r0
  · skip
    have hW := w_run_x1 (D := D) (ks := ks) (G := G) (MI := MI) (MJ := MJ) (XI := XI) (XJ := XJ) l hD0 hI (c_X3_run_bad  (D := D) (ks := ks) (G := G) (MI := MI) (MJ := MJ) (XI := XI) (XJ := XJ) l hst hI (xs (4 * n + 1)) r0) H.size
    have hM := fun sz => (c_X4_run_bad  (D := D) (ks := ks) (G := G) (MI := MI) (MJ := MJ) (XI := XI) (XJ := XJ) l hD0 hI (xs (4 * n + 1)) r0 sz)
    refine q_run hF hI hD hP hS hn hl hcs hW hM rfl (fun hz => absurd hz (by decide)) (by decide) (fun H locs ls hP hS hl => kk _ _ _ _ _ _ _ _ _ _ H locs ls hI hall hD hP hS (hsim.thrown 1) hl)
  have hy1 := hsim.1.1
  have hy2 := hsim.1.2
  have h40 : (40 : Int32).toInt = 40 := by decide
  have hyx : (XI 10 2).toInt = y := by rw [← hC.1.1]; exact hy2
  by_cases hy : y < 40
  · skip
    have hyc : XI 10 2 < 40 := by rw [Int32.lt_iff_toInt_lt, hyx, h40]; omega
    have hym : ¬ MI 0 0 = 40 := fun q => by rw [q, h40] at hy2; omega
    have hr := sim_run (rt := xs (4 * n + 1)) (hsim.out (Int32.toInt64 (nI (xMtN np G 30 (xS0 XI XJ (xs (4 * n + 1)) np ng))))) hy (fIn_1 r0)
    have hW := w_run (D := D) (ks := ks) (G := G) (MI := MI) (MJ := MJ) (XI := XI) (XJ := XJ) l hD0 hI H.size (c_X3_run_ok  (D := D) (ks := ks) (G := G) (MI := MI) (MJ := MJ) (XI := XI) (XJ := XJ) l hD0 hI (xs (4 * n + 1)) hK.xOK r0 hyc H.size)
    have hM := fun sz => (c_X4_run_ok (MJ := u2 MJ 3 0 (Int32.toInt64 (nI (xMtN np G 30 (xS0 XI XJ (xs (4 * n + 1)) np ng))))) (XI := xRunI XI XJ G (xs (4 * n + 1)) np ng) (XJ := xRunJ XI XJ G (xs (4 * n + 1)) np ng) (D := D) (ks := ks) (G := G) (MI := MI) l hD0 hI (xs (4 * n + 1)) hok r0 hym sz)
    refine q_run hF hI hD hP hS hn hl hcs hW hM mRunI_7 (fun hz => (congrFun mRunJ_3 0).trans (u2_s.trans (congrArg Int32.toInt64 (congrArg nI hr.2.symm)))) (by decide) (fun H locs ls hP hS hl => kk _ _ _ _ _ _ _ _ _ _ H locs ls hI hall hD hP hS (hr.1) hl)
  · skip
    have hyc : 40 ≤ XI 10 2 := by rw [Int32.le_iff_toInt_le, hyx, h40]; omega
    have hym : MI 0 0 = 40 := Int32.toInt_inj.mp (by rw [hy2, h40]; omega)
    have hW := w_run_x2 (D := D) (ks := ks) (G := G) (MI := MI) (MJ := MJ) (XI := XI) (XJ := XJ) l hD0 hI (c_X3_run_late  (D := D) (ks := ks) (G := G) (MI := MI) (MJ := MJ) (XI := XI) (XJ := XJ) l hst hI (xs (4 * n + 1)) r0 hyc) H.size
    have hM := fun sz => (c_X4_run_late  (D := D) (ks := ks) (G := G) (MI := MI) (MJ := MJ) (XI := XI) (XJ := XJ) l hD0 hI (xs (4 * n + 1)) r0 hym sz)
    refine q_run hF hI hD hP hS hn hl hcs hW hM rfl (fun hz => absurd hz (by decide)) (by decide) (fun H locs ls hP hS hl => kk _ _ _ _ _ _ _ _ _ _ H locs ls hI hall hD hP hS (hsim.thrown 2) hl)
set_option maxHeartbeats 4000000 in
set_option maxRecDepth 100000 in
theorem s_generation {b L n y : Nat} {xs : Nat → Int32} (hF : lwF p l R s m args c D ks b L xs) (hI : zIn Rs np ng) (hall : zAll Rs np ng) (hD : zD (fun q => s.heap.size ≤ q) Rs ad) (hP : zP D Rs ad (gS ks ad np ng G MI MJ XI XJ) H) (hS : va_S (fun q => s.heap.size ≤ q) s.heap H locs) (hn : 4 * n + 4 ≤ L) (hl : lv_has ls 8 (lwL ad b n)) (hcs : cells + 4 ≤ R.cells ∧ slots + 13 ≤ R.slots) (hsim : sim np ng G MI MJ XI XJ y) (kk : lwC p l e R s m args below meth c D ks Q b n cells slots) : W p l e R s m args below meth c H locs cells slots Q (F0 m 777 ls []) := by
  have hD0 : zD (fun _ => True) Rs ad := hD.weak (fun _ _ => trivial)
  have hst := hF.2.2.2.1
  have hK := hsim.2.1
  have hok := hK.2.2.2.1
  have hN := hsim.np30
  have hnp := hok.1
  have hC := hsim.2.2.2.2.1
  have hG30 : ng ≤ 30 := Nat.le_trans hK.gle hN
  rcases fIn_01 (xs (4 * n + 1)) (0) 40 with r0 | r0
  · skip
    have hW := w_generation_x1 (D := D) (ks := ks) (G := G) (MI := MI) (MJ := MJ) (XI := XI) (XJ := XJ) l hD0 hI (c_X3_generation_bad  (D := D) (ks := ks) (G := G) (MI := MI) (MJ := MJ) (XI := XI) (XJ := XJ) l hst hI (xs (4 * n + 1)) (xs (4 * n + 2)) (Or.inl r0)) H.size
    have hM := fun sz => (c_X4_generation_bad  (D := D) (ks := ks) (G := G) (MI := MI) (MJ := MJ) (XI := XI) (XJ := XJ) l hD0 hI (xs (4 * n + 1)) (xs (4 * n + 2)) hnp hN (Or.inl r0) sz)
    refine q_generation hF hI hD hP hS hn hl hcs hW hM rfl (fun hz => absurd hz (by decide)) (by decide) (fun H locs ls hP hS hl => kk _ _ _ _ _ _ _ _ _ _ H locs ls hI hall hD hP hS (hsim.thrown 1) hl)
  rcases fIn_01 (xs (4 * n + 2)) (2) 20 with r1 | r1
  · skip
    have hW := w_generation_x1 (D := D) (ks := ks) (G := G) (MI := MI) (MJ := MJ) (XI := XI) (XJ := XJ) l hD0 hI (c_X3_generation_bad  (D := D) (ks := ks) (G := G) (MI := MI) (MJ := MJ) (XI := XI) (XJ := XJ) l hst hI (xs (4 * n + 1)) (xs (4 * n + 2)) (Or.inr (r1))) H.size
    have hM := fun sz => (c_X4_generation_bad  (D := D) (ks := ks) (G := G) (MI := MI) (MJ := MJ) (XI := XI) (XJ := XJ) l hD0 hI (xs (4 * n + 1)) (xs (4 * n + 2)) hnp hN (Or.inr (r1)) sz)
    refine q_generation hF hI hD hP hS hn hl hcs hW hM rfl (fun hz => absurd hz (by decide)) (by decide) (fun H locs ls hP hS hl => kk _ _ _ _ _ _ _ _ _ _ H locs ls hI hall hD hP hS (hsim.thrown 1) hl)
  rcases gen_eq hK hsim.2.2.1 (xs (4 * n + 1)) (xs (4 * n + 2)) with ⟨i, k, hi, hk, hf, hmf, he⟩ | ⟨hf, hmf⟩
  · skip
    have hW := w_generation (D := D) (ks := ks) (G := G) (MI := MI) (MJ := MJ) (XI := XI) (XJ := XJ) l hD0 hI (c_X3_generation_ok  (D := D) (ks := ks) (G := G) (MI := MI) (MJ := MJ) (XI := XI) (XJ := XJ) l hI i (xs (4 * n + 1)) (xs (4 * n + 2)) hG30 r0 r1 hf hi) H.size
    have hM := fun sz => (c_X4_generation_ok (MJ := u2 MJ 3 0 (Int32.toInt64 (Int64.toInt32 (XJ 8 i)))) (D := D) (ks := ks) (G := G) (MI := MI) (XI := XI) (XJ := XJ) l hD0 hI k (xs (4 * n + 1)) (xs (4 * n + 2)) hnp hN r0 r1 hmf (Nat.lt_of_lt_of_le hk hN) sz)
    refine q_generation hF hI hD hP hS hn hl hcs hW hM rfl (fun hz => u2_s.trans (congrArg Int32.toInt64 (congrArg Int64.toInt32 he.symm))) (by decide) (fun H locs ls hP hS hl => kk _ _ _ _ _ _ _ _ _ _ H locs ls hI hall hD hP hS ((hsim.out _).thrown 0) hl)
  · skip
    have hW := w_generation (D := D) (ks := ks) (G := G) (MI := MI) (MJ := MJ) (XI := XI) (XJ := XJ) l hD0 hI (c_X3_generation_none  (D := D) (ks := ks) (G := G) (MI := MI) (MJ := MJ) (XI := XI) (XJ := XJ) l hI (xs (4 * n + 1)) (xs (4 * n + 2)) hG30 r0 r1 hf) H.size
    have hM := fun sz => (c_X4_generation_none (MJ := u2 MJ 3 0 (Int32.toInt64 0)) (D := D) (ks := ks) (G := G) (MI := MI) (XI := XI) (XJ := XJ) l hD0 hI (xs (4 * n + 1)) (xs (4 * n + 2)) hnp hN r0 r1 hmf sz)
    refine q_generation hF hI hD hP hS hn hl hcs hW hM rfl (fun hz => u2_s) (by decide) (fun H locs ls hP hS hl => kk _ _ _ _ _ _ _ _ _ _ H locs ls hI hall hD hP hS ((hsim.out _).thrown 0) hl)
set_option maxHeartbeats 4000000 in
set_option maxRecDepth 100000 in
theorem s_lastRatio {b L n y : Nat} {xs : Nat → Int32} (hF : lwF p l R s m args c D ks b L xs) (hI : zIn Rs np ng) (hall : zAll Rs np ng) (hD : zD (fun q => s.heap.size ≤ q) Rs ad) (hP : zP D Rs ad (gS ks ad np ng G MI MJ XI XJ) H) (hS : va_S (fun q => s.heap.size ≤ q) s.heap H locs) (hn : 4 * n + 4 ≤ L) (hl : lv_has ls 8 (lwL ad b n)) (hcs : cells + 4 ≤ R.cells ∧ slots + 13 ≤ R.slots) (hsim : sim np ng G MI MJ XI XJ y) (kk : lwC p l e R s m args below meth c D ks Q b n cells slots) : W p l e R s m args below meth c H locs cells slots Q (F0 m 957 ls []) := by
  have hD0 : zD (fun _ => True) Rs ad := hD.weak (fun _ _ => trivial)
  have hst := hF.2.2.2.1
  have hK := hsim.2.1
  have hok := hK.2.2.2.1
  have hN := hsim.np30
  have hnp := hok.1
  have hC := hsim.2.2.2.2.1
  have hG30 : ng ≤ 30 := Nat.le_trans hK.gle hN
  rcases fIn_01 (xs (4 * n + 1)) 2 20 with r0 | r0
  · skip
    have hW := w_lastRatio_x1 (D := D) (ks := ks) (G := G) (MI := MI) (MJ := MJ) (XI := XI) (XJ := XJ) l hD0 hI (c_X3_lastRatio_bad  (D := D) (ks := ks) (G := G) (MI := MI) (MJ := MJ) (XI := XI) (XJ := XJ) l hst hI (xs (4 * n + 1)) r0) H.size
    have hM := fun sz => (c_X4_lastRatio_bad  (D := D) (ks := ks) (G := G) (MI := MI) (MJ := MJ) (XI := XI) (XJ := XJ) l hD0 hI (xs (4 * n + 1)) r0 sz)
    refine q_lastRatio hF hI hD hP hS hn hl hcs hW hM rfl (fun hz => absurd hz (by decide)) (by decide) (fun H locs ls hP hS hl => kk _ _ _ _ _ _ _ _ _ _ H locs ls hI hall hD hP hS (hsim.thrown 1) hl)
  · skip
    obtain ⟨u1, u2x⟩ := fIn_1 r0
    have h2 : (2 : Int32).toInt = 2 := by decide
    have h20 : (20 : Int32).toInt = 20 := by decide
    rw [h2] at u1
    rw [h20] at u2x
    obtain ⟨t, ht⟩ : ∃ t : Nat, t = (xs (4 * n + 1)).toInt.toNat := ⟨_, rfl⟩
    have hq : xs (4 * n + 1) = nI t := Int32.toInt_inj.mp (by rw [nI_toInt (by omega)]; omega)
    have r0n : fIn (nI t) 2 20 = 1 := by rw [← hq]; exact r0
    obtain ⟨v1, v2, v3⟩ := hsim.2.2.2.2.2.2.1 t (by omega)
    have hv : Int64.toInt32 (fRat (XJ 5) (nI t)) = MI 8 t - 1 := by
      rw [fRat_nI (show t < 21 by omega), v1]
      have o32 : (1 : Int32).toInt = 1 := by decide
      have o64 : (1 : Int64).toInt = 1 := by decide
      have e1 : (Int32.toInt64 (MI 8 t) - 1).toInt = (MI 8 t).toInt - 1 := by rw [l_sub (by rw [to64, o64]; omega) (by rw [to64, o64]; omega), to64, o64]
      apply Int32.toInt_inj.mp
      rw [to32 (by omega) (by omega), e1, i_sub (by rw [o32]; omega) (by rw [o32]; omega), o32]
    have hW := w_lastRatio (D := D) (ks := ks) (G := G) (MI := MI) (MJ := MJ) (XI := XI) (XJ := XJ) l hD0 hI (c_X3_lastRatio_ok  (D := D) (ks := ks) (G := G) (MI := MI) (MJ := MJ) (XI := XI) (XJ := XJ) l hI (nI t) r0n) H.size
    have hM := fun sz => (c_X4_lastRatio_ok (MJ := u2 MJ 3 0 (Int32.toInt64 (Int64.toInt32 (fRat (XJ 5) (nI t))))) (D := D) (ks := ks) (G := G) (MI := MI) (XI := XI) (XJ := XJ) l hD0 hI t r0n (by omega) sz)
    rw [← hq] at hW
    simp only [← hq] at hM
    rw [← hq] at hv
    refine q_lastRatio hF hI hD hP hS hn hl hcs hW hM rfl (fun hz => u2_s.trans (congrArg Int32.toInt64 hv)) (by decide) (fun H locs ls hP hS hl => kk _ _ _ _ _ _ _ _ _ _ H locs ls hI hall hD hP hS ((hsim.out _).thrown 0) hl)
set_option maxHeartbeats 4000000 in
set_option maxRecDepth 100000 in
theorem s_year {b L n y : Nat} {xs : Nat → Int32} (hF : lwF p l R s m args c D ks b L xs) (hI : zIn Rs np ng) (hall : zAll Rs np ng) (hD : zD (fun q => s.heap.size ≤ q) Rs ad) (hP : zP D Rs ad (gS ks ad np ng G MI MJ XI XJ) H) (hS : va_S (fun q => s.heap.size ≤ q) s.heap H locs) (hn : 4 * n + 4 ≤ L) (hl : lv_has ls 8 (lwL ad b n)) (hcs : cells + 4 ≤ R.cells ∧ slots + 13 ≤ R.slots) (hsim : sim np ng G MI MJ XI XJ y) (kk : lwC p l e R s m args below meth c D ks Q b n cells slots) : W p l e R s m args below meth c H locs cells slots Q (F0 m 527 ls []) := by
  have hD0 : zD (fun _ => True) Rs ad := hD.weak (fun _ _ => trivial)
  have hst := hF.2.2.2.1
  have hK := hsim.2.1
  have hok := hK.2.2.2.1
  have hN := hsim.np30
  have hnp := hok.1
  have hC := hsim.2.2.2.2.1
  have hG30 : ng ≤ 30 := Nat.le_trans hK.gle hN
  have hW := (c_X3_year (ad := ad) (D := D) (ks := ks) (G := G) (MI := MI) (MJ := MJ) (XI := XI) (XJ := XJ) l hI)
  rw [← hC.1.1] at hW
  refine q_year hF hI hD hP hS hn hl hcs hW (fun sz => (c_X4_year  (D := D) (ks := ks) (G := G) (MI := MI) (MJ := MJ) (XI := XI) (XJ := XJ) l hD0 hI sz)) (by decide) (fun H locs ls hP hS hl => kk _ _ _ _ _ _ _ _ _ _ H locs ls hI hall hD hP hS (hsim.thrown 0) hl)
set_option maxHeartbeats 4000000 in
set_option maxRecDepth 100000 in
theorem s_policies {b L n y : Nat} {xs : Nat → Int32} (hF : lwF p l R s m args c D ks b L xs) (hI : zIn Rs np ng) (hall : zAll Rs np ng) (hD : zD (fun q => s.heap.size ≤ q) Rs ad) (hP : zP D Rs ad (gS ks ad np ng G MI MJ XI XJ) H) (hS : va_S (fun q => s.heap.size ≤ q) s.heap H locs) (hn : 4 * n + 4 ≤ L) (hl : lv_has ls 8 (lwL ad b n)) (hcs : cells + 4 ≤ R.cells ∧ slots + 13 ≤ R.slots) (hsim : sim np ng G MI MJ XI XJ y) (kk : lwC p l e R s m args below meth c D ks Q b n cells slots) : W p l e R s m args below meth c H locs cells slots Q (F0 m 540 ls []) := by
  have hD0 : zD (fun _ => True) Rs ad := hD.weak (fun _ _ => trivial)
  have hst := hF.2.2.2.1
  have hK := hsim.2.1
  have hok := hK.2.2.2.1
  have hN := hsim.np30
  have hnp := hok.1
  have hC := hsim.2.2.2.2.1
  have hG30 : ng ≤ 30 := Nat.le_trans hK.gle hN
  have hW := (c_X3_policies (ad := ad) (D := D) (ks := ks) (G := G) (MI := MI) (MJ := MJ) (XI := XI) (XJ := XJ) l hI)
  rw [hsim.2.2.2.2.2.2.2.1.1, ← hnp] at hW
  refine q_policies hF hI hD hP hS hn hl hcs hW (fun sz => (c_X4_policies  (D := D) (ks := ks) (G := G) (MI := MI) (MJ := MJ) (XI := XI) (XJ := XJ) l hD0 hI sz)) (by decide) (fun H locs ls hP hS hl => kk _ _ _ _ _ _ _ _ _ _ H locs ls hI hall hD hP hS (hsim.thrown 0) hl)
set_option maxHeartbeats 4000000 in
set_option maxRecDepth 100000 in
theorem s_estate {b L n y : Nat} {xs : Nat → Int32} (hF : lwF p l R s m args c D ks b L xs) (hI : zIn Rs np ng) (hall : zAll Rs np ng) (hD : zD (fun q => s.heap.size ≤ q) Rs ad) (hP : zP D Rs ad (gS ks ad np ng G MI MJ XI XJ) H) (hS : va_S (fun q => s.heap.size ≤ q) s.heap H locs) (hn : 4 * n + 4 ≤ L) (hl : lv_has ls 8 (lwL ad b n)) (hcs : cells + 4 ≤ R.cells ∧ slots + 13 ≤ R.slots) (hsim : sim np ng G MI MJ XI XJ y) (kk : lwC p l e R s m args below meth c D ks Q b n cells slots) : W p l e R s m args below meth c H locs cells slots Q (F0 m 1013 ls []) := by
  have hD0 : zD (fun _ => True) Rs ad := hD.weak (fun _ _ => trivial)
  have hst := hF.2.2.2.1
  have hK := hsim.2.1
  have hok := hK.2.2.2.1
  have hN := hsim.np30
  have hnp := hok.1
  have hC := hsim.2.2.2.2.1
  have hG30 : ng ≤ 30 := Nat.le_trans hK.gle hN
  have hW := (c_X3_estate (ad := ad) (D := D) (ks := ks) (G := G) (MI := MI) (MJ := MJ) (XI := XI) (XJ := XJ) l hI)
  rw [← hsim.2.2.1.2.2.1] at hW
  refine q_estate hF hI hD hP hS hn hl hcs hW (fun sz => (c_X4_estate  (D := D) (ks := ks) (G := G) (MI := MI) (MJ := MJ) (XI := XI) (XJ := XJ) l hD0 hI sz)) (by decide) (fun H locs ls hP hS hl => kk _ _ _ _ _ _ _ _ _ _ H locs ls hI hall hD hP hS (hsim.thrown 0) hl)
set_option maxHeartbeats 4000000 in
set_option maxRecDepth 100000 in
theorem s_assets {b L n y : Nat} {xs : Nat → Int32} (hF : lwF p l R s m args c D ks b L xs) (hI : zIn Rs np ng) (hall : zAll Rs np ng) (hD : zD (fun q => s.heap.size ≤ q) Rs ad) (hP : zP D Rs ad (gS ks ad np ng G MI MJ XI XJ) H) (hS : va_S (fun q => s.heap.size ≤ q) s.heap H locs) (hn : 4 * n + 4 ≤ L) (hl : lv_has ls 8 (lwL ad b n)) (hcs : cells + 4 ≤ R.cells ∧ slots + 13 ≤ R.slots) (hsim : sim np ng G MI MJ XI XJ y) (kk : lwC p l e R s m args below meth c D ks Q b n cells slots) : W p l e R s m args below meth c H locs cells slots Q (F0 m 1041 ls []) := by
  have hD0 : zD (fun _ => True) Rs ad := hD.weak (fun _ _ => trivial)
  have hst := hF.2.2.2.1
  have hK := hsim.2.1
  have hok := hK.2.2.2.1
  have hN := hsim.np30
  have hnp := hok.1
  have hC := hsim.2.2.2.2.1
  have hG30 : ng ≤ 30 := Nat.le_trans hK.gle hN
  have hW := (c_X3_assets (ad := ad) (D := D) (ks := ks) (G := G) (MI := MI) (MJ := MJ) (XI := XI) (XJ := XJ) l hI)
  rw [← hsim.2.2.1.2.2.2] at hW
  refine q_assets hF hI hD hP hS hn hl hcs hW (fun sz => (c_X4_assets  (D := D) (ks := ks) (G := G) (MI := MI) (MJ := MJ) (XI := XI) (XJ := XJ) l hD0 hI sz)) (by decide) (fun H locs ls hP hS hl => kk _ _ _ _ _ _ _ _ _ _ H locs ls hI hall hD hP hS (hsim.thrown 0) hl)
set_option maxHeartbeats 4000000 in
set_option maxRecDepth 100000 in
theorem s_sharesAndEstate {b L n y : Nat} {xs : Nat → Int32} (hF : lwF p l R s m args c D ks b L xs) (hI : zIn Rs np ng) (hall : zAll Rs np ng) (hD : zD (fun q => s.heap.size ≤ q) Rs ad) (hP : zP D Rs ad (gS ks ad np ng G MI MJ XI XJ) H) (hS : va_S (fun q => s.heap.size ≤ q) s.heap H locs) (hn : 4 * n + 4 ≤ L) (hl : lv_has ls 8 (lwL ad b n)) (hcs : cells + 4 ≤ R.cells ∧ slots + 13 ≤ R.slots) (hsim : sim np ng G MI MJ XI XJ y) (kk : lwC p l e R s m args below meth c D ks Q b n cells slots) : W p l e R s m args below meth c H locs cells slots Q (F0 m 1027 ls []) := by
  have hD0 : zD (fun _ => True) Rs ad := hD.weak (fun _ _ => trivial)
  have hst := hF.2.2.2.1
  have hK := hsim.2.1
  have hok := hK.2.2.2.1
  have hN := hsim.np30
  have hnp := hok.1
  have hC := hsim.2.2.2.2.1
  have hG30 : ng ≤ 30 := Nat.le_trans hK.gle hN
  have hW := (c_X3_sharesAndEstate (ad := ad) (D := D) (ks := ks) (G := G) (MI := MI) (MJ := MJ) (XI := XI) (XJ := XJ) l hI hK.xOK)
  rw [sh_eq hK hsim.2.2.1] at hW
  refine q_sharesAndEstate hF hI hD hP hS hn hl hcs hW (fun sz => (c_X4_sharesAndEstate  (D := D) (ks := ks) (G := G) (MI := MI) (MJ := MJ) (XI := XI) (XJ := XJ) l hD0 hI hok sz)) (by decide) (fun H locs ls hP hS hl => kk _ _ _ _ _ _ _ _ _ _ H locs ls hI hall hD hP hS (hsim.thrown 0) hl)
set_option maxHeartbeats 4000000 in
set_option maxRecDepth 100000 in
theorem s_shortfall {b L n y : Nat} {xs : Nat → Int32} (hF : lwF p l R s m args c D ks b L xs) (hI : zIn Rs np ng) (hall : zAll Rs np ng) (hD : zD (fun q => s.heap.size ≤ q) Rs ad) (hP : zP D Rs ad (gS ks ad np ng G MI MJ XI XJ) H) (hS : va_S (fun q => s.heap.size ≤ q) s.heap H locs) (hn : 4 * n + 4 ≤ L) (hl : lv_has ls 8 (lwL ad b n)) (hcs : cells + 4 ≤ R.cells ∧ slots + 13 ≤ R.slots) (hsim : sim np ng G MI MJ XI XJ y) (kk : lwC p l e R s m args below meth c D ks Q b n cells slots) : W p l e R s m args below meth c H locs cells slots Q (F0 m 1055 ls []) := by
  have hD0 : zD (fun _ => True) Rs ad := hD.weak (fun _ _ => trivial)
  have hst := hF.2.2.2.1
  have hK := hsim.2.1
  have hok := hK.2.2.2.1
  have hN := hsim.np30
  have hnp := hok.1
  have hC := hsim.2.2.2.2.1
  have hG30 : ng ≤ 30 := Nat.le_trans hK.gle hN
  have hW := (c_X3_shortfall (ad := ad) (D := D) (ks := ks) (G := G) (MI := MI) (MJ := MJ) (XI := XI) (XJ := XJ) l hI hK.xOK)
  rw [sf_eq hsim] at hW
  refine q_shortfall hF hI hD hP hS hn hl hcs hW (fun sz => (c_X4_shortfall  (D := D) (ks := ks) (G := G) (MI := MI) (MJ := MJ) (XI := XI) (XJ := XJ) l hD0 hI hok sz)) (by decide) (fun H locs ls hP hS hl => kk _ _ _ _ _ _ _ _ _ _ H locs ls hI hall hD hP hS (hsim.thrown 0) hl)
set_option maxHeartbeats 4000000 in
set_option maxRecDepth 100000 in
theorem s_begin {b L n y : Nat} {xs : Nat → Int32} (hF : lwF p l R s m args c D ks b L xs) (hI : zIn Rs np ng) (hall : zAll Rs np ng) (hD : zD (fun q => s.heap.size ≤ q) Rs ad) (hP : zP D Rs ad (gS ks ad np ng G MI MJ XI XJ) H) (hS : va_S (fun q => s.heap.size ≤ q) s.heap H locs) (hn : 4 * n + 4 ≤ L) (hl : lv_has ls 8 (lwL ad b n)) (hcs : cells + 4 ≤ R.cells ∧ slots + 13 ≤ R.slots) (hsim : sim np ng G MI MJ XI XJ y) (kk : lwC p l e R s m args below meth c D ks Q b n cells slots) : W p l e R s m args below meth c H locs cells slots Q (F0 m 132 ls []) := by
  have hD0 : zD (fun _ => True) Rs ad := hD.weak (fun _ _ => trivial)
  have hst := hF.2.2.2.1
  have hK := hsim.2.1
  have hok := hK.2.2.2.1
  have hN := hsim.np30
  have hnp := hok.1
  have hC := hsim.2.2.2.2.1
  have hG30 : ng ≤ 30 := Nat.le_trans hK.gle hN
  rcases fIn_01 (xs (4 * n + 1)) (2) 20 with r0 | r0
  · skip
    have hW := w_begin_x1 (D := D) (ks := ks) (G := G) (MI := MI) (MJ := MJ) (XI := XI) (XJ := XJ) l hD0 hI (c_X3_begin_bad  (D := D) (ks := ks) (G := G) (MI := MI) (MJ := MJ) (XI := XI) (XJ := XJ) l hst hI (xs (4 * n + 1)) (xs (4 * n + 2)) (xs (4 * n + 3)) (Or.inl r0)) H.size
    have hM := fun sz => (c_X4_begin_bad  (D := D) (ks := ks) (G := G) (MI := MI) (MJ := MJ) (XI := XI) (XJ := XJ) l hD0 hI (xs (4 * n + 1)) (xs (4 * n + 2)) (xs (4 * n + 3)) (Or.inl r0) sz)
    refine q_begin hF hI hD hP hS hn hl hcs hW hM rfl (fun hz => absurd hz (by decide)) (by decide) (fun H locs ls hP hS hl => kk _ _ _ _ _ _ _ _ _ _ H locs ls hI hall hD hP hS (hsim.thrown 1) hl)
  rcases fIn_01 (xs (4 * n + 2)) (1) 1000 with r1 | r1
  · skip
    have hW := w_begin_x1 (D := D) (ks := ks) (G := G) (MI := MI) (MJ := MJ) (XI := XI) (XJ := XJ) l hD0 hI (c_X3_begin_bad  (D := D) (ks := ks) (G := G) (MI := MI) (MJ := MJ) (XI := XI) (XJ := XJ) l hst hI (xs (4 * n + 1)) (xs (4 * n + 2)) (xs (4 * n + 3)) (Or.inr (Or.inl r1))) H.size
    have hM := fun sz => (c_X4_begin_bad  (D := D) (ks := ks) (G := G) (MI := MI) (MJ := MJ) (XI := XI) (XJ := XJ) l hD0 hI (xs (4 * n + 1)) (xs (4 * n + 2)) (xs (4 * n + 3)) (Or.inr (Or.inl r1)) sz)
    refine q_begin hF hI hD hP hS hn hl hcs hW hM rfl (fun hz => absurd hz (by decide)) (by decide) (fun H locs ls hP hS hl => kk _ _ _ _ _ _ _ _ _ _ H locs ls hI hall hD hP hS (hsim.thrown 1) hl)
  rcases fIn_01 (xs (4 * n + 3)) (0) 100000 with r2 | r2
  · skip
    have hW := w_begin_x1 (D := D) (ks := ks) (G := G) (MI := MI) (MJ := MJ) (XI := XI) (XJ := XJ) l hD0 hI (c_X3_begin_bad  (D := D) (ks := ks) (G := G) (MI := MI) (MJ := MJ) (XI := XI) (XJ := XJ) l hst hI (xs (4 * n + 1)) (xs (4 * n + 2)) (xs (4 * n + 3)) (Or.inr (Or.inr (r2)))) H.size
    have hM := fun sz => (c_X4_begin_bad  (D := D) (ks := ks) (G := G) (MI := MI) (MJ := MJ) (XI := XI) (XJ := XJ) l hD0 hI (xs (4 * n + 1)) (xs (4 * n + 2)) (xs (4 * n + 3)) (Or.inr (Or.inr (r2))) sz)
    refine q_begin hF hI hD hP hS hn hl hcs hW hM rfl (fun hz => absurd hz (by decide)) (by decide) (fun H locs ls hP hS hl => kk _ _ _ _ _ _ _ _ _ _ H locs ls hI hall hD hP hS (hsim.thrown 1) hl)
  have hcnt0 := hsim.2.2.2.2.2.2.2.1.1
  have hcnt := hsim.2.2.2.2.2.2.2.1.2
  rcases Nat.lt_or_ge np 30 with hn30 | hn30
  · skip
    have hGj : ∀ j, j < np → G j < ng := fun j hj => (hK.1 j hj).2.2.2.2.2
    have v0 := fIn_1 r0
    have v1 := fIn_1 r1
    have v2 := fIn_1 r2
    rcases xF_spec (b := XI 11) (t := XI 12) (y := XI 10 2) (te := xs (4 * n + 1)) ng 0 with ⟨i, -, hi, ⟨hk1, hk2⟩, hf⟩ | ⟨hf, hno⟩
    · skip
      have hi : i < ng := by omega
      have hW := w_begin (D := D) (ks := ks) (G := G) (MI := MI) (MJ := MJ) (XI := XI) (XJ := XJ) l hD0 hI H.size (c_X3_begin_old  (D := D) (ks := ks) (G := G) (MI := MI) (MJ := MJ) (XI := XI) (XJ := XJ) l hD0 hI hall (xs (4 * n + 1)) (xs (4 * n + 2)) (xs (4 * n + 3)) hcnt0 hn30 hGj hG30 r0 r1 r2 i hi hf H.size)
      have hM := fun (ad : Nat → Nat) (Rs : List Nat) (hI : zIn Rs (np + 1) ng) (hD0 : zD (fun _ => True) Rs ad) (sz : Nat) => (c_X4_begin_ok2 (D := D) (ks := ks) (np := np + 1) (ng := ng) (G := bG G np i) (cn := np) (MJ := u2 MJ 3 0 (Int32.toInt64 (nI np))) (XI := bI XI np (xs (4 * n + 2)) (xs (4 * n + 3))) (XJ := bJ (u2 XJ 7 i (XJ 7 i + Int32.toInt64 (xs (4 * n + 2)))) np) (MI := MI) l hD0 hI (xs (4 * n + 1)) (xs (4 * n + 2)) (xs (4 * n + 3)) hnp hn30 r0 r1 r2 sz)
      have hb := sim_begin (hsim.out (Int32.toInt64 (nI np))) hn30 (te := xs (4 * n + 1)) (pr := xs (4 * n + 2)) (su := xs (4 * n + 3)) v0 v1 v2 (i := i) (ng' := ng) (G' := bG G np i) (M := u2 (u2 (u2 (u2 (u2 (u2 MI 0 7 0) 1 np (MI 0 0)) 2 np (xs (4 * n + 1))) 3 np (xs (4 * n + 2))) 4 np (xs (4 * n + 3))) 0 6 (nI (np + 1))) (X := bI XI np (xs (4 * n + 2)) (xs (4 * n + 3))) (X' := bJ (u2 XJ 7 i (XJ 7 i + Int32.toInt64 (xs (4 * n + 2)))) np) (Or.inl ⟨hi, rfl⟩) (fun j => by simp [u2]) (fun j => by simp [u2]) (fun j => by simp [u2]) (fun j => by simp [u2]) (rfl) (rfl) (rfl) (rfl) (fun c hc => by rcases (show c = 0 ∨ c = 1 ∨ c = 2 ∨ c = 3 ∨ c = 4 ∨ c = 5 by omega) with rfl | rfl | rfl | rfl | rfl | rfl <;> rfl) (by simp [u2]) (fun j hj => by simp [bG, Nat.ne_of_lt hj]) (by simp [bG]) (fun k hk => by simp [u2, bI, nIx, Nat.ne_of_lt hk]) (fun k hk => by simp [u2, bI, nIx, Nat.ne_of_lt hk]) (by simp [u2, bI]; rw [hk1, hC.1.1]) (by simp [u2, bI]; exact hk2) (fun j => by simp [u2, bI, nIx]) (fun j => by simp [u2, bI, nIx]) (fun j => by simp [u2, bI, nIx]) (fun c hc => by simp [u2, bI, nIx, show c ≠ 0 by omega, show c ≠ 1 by omega]) (by simp [u2, bI]) (by simp [u2, bI]; exact hcnt) (by simp [u2, bJ, nJx]) (by simp [u2, bJ, nJx]) (fun k hk hki => by simp [u2, bJ, nJx, hki]) (by simp [u2, bJ, hi]) (fun k hk => by simp [u2, bJ, nJx, Nat.ne_of_lt hk]) (fun q => by omega) (fun j => by simp [u2, bJ, nJx]) (fun j => by simp [u2, bJ, nJx]) (fun j => by simp [u2, bJ, nJx])
      refine q_begin_b hF hI hD hP hS hn hl hcs hW hM rfl (fun _ => rfl) (by decide) (fun ad2 Rs2 H locs ls hq hI2 hall2 hD2 hP2 hS2 hl2 => kk _ _ _ _ _ _ _ _ _ _ H locs ls hI2 hall2 hD2 hP2 hS2 hb (by unfold lwL at hl2 ⊢; rw [hq.1, hq.2.1, hq.2.2]; exact hl2))
    · skip
      have hno2 : ∀ k, k < ng → ¬ (XI 11 k = MI 0 0 ∧ XI 12 k = xs (4 * n + 1)) := fun k hk => by rw [hC.1.1]; exact hno k (Nat.zero_le _) (by omega)
      have hg30 : ng < 30 := Nat.lt_of_le_of_lt hK.gle hn30
      have hW := w_begin (D := D) (ks := ks) (G := G) (MI := MI) (MJ := MJ) (XI := XI) (XJ := XJ) l hD0 hI H.size (c_X3_begin_new  (D := D) (ks := ks) (G := G) (MI := MI) (MJ := MJ) (XI := XI) (XJ := XJ) l hD0 hI hall (xs (4 * n + 1)) (xs (4 * n + 2)) (xs (4 * n + 3)) hcnt0 hn30 hGj hG30 r0 r1 r2 hg30 hcnt hf H.size)
      have hM := fun (ad : Nat → Nat) (Rs : List Nat) (hI : zIn Rs (np + 1) (ng + 1)) (hD0 : zD (fun _ => True) Rs ad) (sz : Nat) => (c_X4_begin_ok2 (D := D) (ks := ks) (np := np + 1) (ng := (ng + 1)) (G := bG G np ng) (cn := np) (MJ := u2 MJ 3 0 (Int32.toInt64 (nI np))) (XI := bI (nIx XI ng (xs (4 * n + 1))) np (xs (4 * n + 2)) (xs (4 * n + 3))) (XJ := bJ (nJx XJ ng (xs (4 * n + 2))) np) (MI := MI) l hD0 hI (xs (4 * n + 1)) (xs (4 * n + 2)) (xs (4 * n + 3)) hnp hn30 r0 r1 r2 sz)
      have hb := sim_begin (hsim.out (Int32.toInt64 (nI np))) hn30 (te := xs (4 * n + 1)) (pr := xs (4 * n + 2)) (su := xs (4 * n + 3)) v0 v1 v2 (i := ng) (ng' := (ng + 1)) (G' := bG G np ng) (M := u2 (u2 (u2 (u2 (u2 (u2 MI 0 7 0) 1 np (MI 0 0)) 2 np (xs (4 * n + 1))) 3 np (xs (4 * n + 2))) 4 np (xs (4 * n + 3))) 0 6 (nI (np + 1))) (X := bI (nIx XI ng (xs (4 * n + 1))) np (xs (4 * n + 2)) (xs (4 * n + 3))) (X' := bJ (nJx XJ ng (xs (4 * n + 2))) np) (Or.inr ⟨rfl, rfl, hno2⟩) (fun j => by simp [u2]) (fun j => by simp [u2]) (fun j => by simp [u2]) (fun j => by simp [u2]) (rfl) (rfl) (rfl) (rfl) (fun c hc => by rcases (show c = 0 ∨ c = 1 ∨ c = 2 ∨ c = 3 ∨ c = 4 ∨ c = 5 by omega) with rfl | rfl | rfl | rfl | rfl | rfl <;> rfl) (by simp [u2]) (fun j hj => by simp [bG, Nat.ne_of_lt hj]) (by simp [bG]) (fun k hk => by simp [u2, bI, nIx, Nat.ne_of_lt hk]) (fun k hk => by simp [u2, bI, nIx, Nat.ne_of_lt hk]) (by simp [u2, bI, nIx]; exact hC.1.1.symm) (by simp [u2, bI, nIx]) (fun j => by simp [u2, bI, nIx]) (fun j => by simp [u2, bI, nIx]) (fun j => by simp [u2, bI, nIx]) (fun c hc => by simp [u2, bI, nIx, show c ≠ 0 by omega, show c ≠ 1 by omega]) (by simp [u2, bI]) (by simp [u2, bI, nIx]) (by simp [u2, bJ, nJx]) (by simp [u2, bJ, nJx]) (fun k hk hki => by simp [u2, bJ, nJx, hki]) (by simp [u2, bJ, nJx]) (fun k hk => by simp [u2, bJ, nJx, Nat.ne_of_lt hk]) (fun _ => by simp [u2, bJ, nJx]) (fun j => by simp [u2, bJ, nJx]) (fun j => by simp [u2, bJ, nJx]) (fun j => by simp [u2, bJ, nJx])
      refine q_begin_b hF hI hD hP hS hn hl hcs hW hM rfl (fun _ => rfl) (by decide) (fun ad2 Rs2 H locs ls hq hI2 hall2 hD2 hP2 hS2 hl2 => kk _ _ _ _ _ _ _ _ _ _ H locs ls hI2 hall2 hD2 hP2 hS2 hb (by unfold lwL at hl2 ⊢; rw [hq.1, hq.2.1, hq.2.2]; exact hl2))
  · skip
    have h30 : np = 30 := by omega
    have hW := w_begin_x2 (D := D) (ks := ks) (G := G) (MI := MI) (MJ := MJ) (XI := XI) (XJ := XJ) l hD0 hI (c_X3_begin_full  (D := D) (ks := ks) (G := G) (MI := MI) (MJ := MJ) (XI := XI) (XJ := XJ) l hst hI (xs (4 * n + 1)) (xs (4 * n + 2)) (xs (4 * n + 3)) (by rw [hcnt0, h30]; rfl) r0 r1 r2) H.size
    have hM := fun sz => (c_X4_begin_full  (D := D) (ks := ks) (G := G) (MI := MI) (MJ := MJ) (XI := XI) (XJ := XJ) l hD0 hI (xs (4 * n + 1)) (xs (4 * n + 2)) (xs (4 * n + 3)) (by rw [hnp, h30]; rfl) r0 r1 r2 sz)
    refine q_begin hF hI hD hP hS hn hl hcs hW hM rfl (fun hz => absurd hz (by decide)) (by decide) (fun H locs ls hP hS hl => kk _ _ _ _ _ _ _ _ _ _ H locs ls hI hall hD hP hS (hsim.thrown 2) hl)
end ZLD
