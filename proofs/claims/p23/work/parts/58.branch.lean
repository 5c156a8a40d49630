/-! the law's branches -/
section ZB1
variable {D : va_G} {ks : Nat → ClassId} {ad : Nat → Nat} {np ng : Nat} {G : Nat → Nat} {MI : Nat → Nat → Int32} {MJ : Nat → Nat → Int64} {XI : Nat → Nat → Int32} {XJ : Nat → Nat → Int64} {Rs : List Nat}
variable {p : Program} {l : Launch} {e : Env} {R : Room} {s : State} {m : MethodId} {args : Array Value} {below : List Frame} {meth : Method} {c : Code} {H : Heap} {locs : List Loc} {cells slots : Nat} {Q : State → Prop} {ls : Array Slot}
/-- what the law's walk has all along -/
def lwF (p : Program) (l : Launch) (R : Room) (s : State) (m : MethodId) (args : Array Value) (c : Code) (D : va_G) (ks : Nat → ClassId) (b L : Nat) (xs : Nat → Int32) : Prop :=
  zFx p m c cL_law 13 s args RL ∧ (zK D ks s ∧ zZ s ∧ zUn (fun q => s.heap.size ≤ q) s s.heap) ∧ (va_X b L xs s s.heap ∧ b < s.heap.size ∧ L ≤ 260) ∧ l.stackTraces = false ∧ 11 ≤ R.frames ∧ 388 ≤ R.locals
def lwL (ad : Nat → Nat) (b n : Nat) (tu : Int32) : List (Nat × Value) := [(4, .int (nI n)), (3, .int tu), (2, .int 1), (1, .ref (ad 13)), (0, .ref b)]
/-- how the law goes on behind a branch -/
def lwC (p : Program) (l : Launch) (e : Env) (R : Room) (s : State) (m : MethodId) (args : Array Value) (below : List Frame) (meth : Method) (c : Code) (D : va_G) (ks : Nat → ClassId) (Q : State → Prop) (b n : Nat) (tu : Int32) (cells slots : Nat) : Prop :=
  ∀ (ad : Nat → Nat) (Rs : List Nat) (np ng : Nat) (G : Nat → Nat) (MI : Nat → Nat → Int32) (MJ : Nat → Nat → Int64) (XI : Nat → Nat → Int32) (XJ : Nat → Nat → Int64) (y : Nat) (H : Heap) (locs : List Loc) (ls : Array Slot), zIn Rs np ng → zAll Rs np ng → zD (fun q => s.heap.size ≤ q) Rs ad → zP D Rs ad (gS ks ad np ng G MI MJ XI XJ) H → va_S (fun q => s.heap.size ≤ q) s.heap H locs → sI np ng G XI XJ y → lv_has ls 13 (lwL ad b n tu) → W p l e R s m args below meth c H locs (cells + 4) (slots + 13) Q (F0 m 641 ls [])
set_option maxHeartbeats 4000000 in
set_option maxRecDepth 100000 in
theorem b_rates {b L n y : Nat} {xs : Nat → Int32} {v tu : Int32} (hF : lwF p l R s m args c D ks b L xs) (hI : zIn Rs np ng) (hall : zAll Rs np ng) (hD : zD (fun q => s.heap.size ≤ q) Rs ad) (hP : zP D Rs ad (gS ks ad np ng G MI MJ XI XJ) H) (hS : va_S (fun q => s.heap.size ≤ q) s.heap H locs) (hcs : cells + 4 ≤ R.cells ∧ slots + 13 ≤ R.slots) (hs : sI np ng G XI XJ y) (kk : lwC p l e R s m args below meth c D ks Q b n tu cells slots) {j : Nat} (hl : lv_has ls 13 [(7, .int (nI j)), (6, .int (nI np)), (5, .int v), (4, .int (nI n)), (3, .int tu), (2, .int 1), (1, .ref (ad 13)), (0, .ref b)]) : W p l e R s m args below meth c H locs cells slots Q (F0 m 355 ls []) := by
  obtain ⟨⟨hx, hb, hml, hown, hT⟩, ⟨hK, hZ, hUn⟩, ⟨hXs, hbl, hL⟩, hst, hRf, hRl⟩ := hF
  have hD0 : zD (fun _ => True) Rs ad := hD.weak (fun _ _ => trivial)
  obtain ⟨⟨hc0, hc1⟩, hGG, hgle, hN⟩ := hs.gn
  have hG30 : ng ≤ 30 := Nat.le_trans hgle hN
  have hAo : ∀ q, zA Rs ad H.size q → s.heap.size ≤ q := hD.free (fun q hq => Nat.le_trans hS.1 hq)
  have hA : ∀ q : Nat, s.heap.size ≤ q → s.heap.size ≤ q := fun q h => h
  refine lv_iload hx hb dL_law_355 (lv_at hl 2 rfl) ?_
  refine lv_sipush (v := 201) hx hb dL_law_357 (by decide) ?_
  refine z_backR1 (z_runS ⟨hx, hb, hml, hown, hT⟩ (rest := []) (As := [.int v, .int 201]) (c_L_low l v 201 (by decide)) k_L_83 (z_preR hK trivial) rfl ⟨by omega, by omega⟩ hl.1 rfl (Nat.le_of_ble_eq_true rfl) dL_law_360 ⟨by omega, by omega⟩) ?_
  refine lv_topi (fun v1 ev1 => ?_)
  have hv1 : 0 ≤ v1.toInt ∧ v1.toInt < 201 := by rw [ev1]; exact low_b (by decide) (by decide)
  clear ev1
  refine lv_istore (lv' := [(9, .int v1), (7, .int (nI j)), (6, .int (nI np)), (5, .int v), (4, .int (nI n)), (3, .int tu), (2, .int 1), (1, .ref (ad 13)), (0, .ref b)]) hx hb dL_law_363 hl (by decide) rfl (fun ls hl => ?_)
  refine lv_aload_n hx hb dL_law_365 rfl (lv_at hl 7 rfl) ?_
  refine lv_iload hx hb dL_law_366 (lv_at hl 0 rfl) ?_
  refine lv_iload hx hb dL_law_368 (lv_at hl 3 rfl) ?_
  refine lv_bipush (v := 8) hx hb dL_law_370 (by decide) ?_
  refine lv_ishr hx hb dL_law_372 ?_
  refine lv_topi (fun v2 ev2 => ?_)
  clear ev2
  refine lv_bipush (v := 101) hx hb dL_law_373 (by decide) ?_
  refine z_backR1 (z_runS ⟨hx, hb, hml, hown, hT⟩ (rest := [.int v1, .ref (ad 13)]) (As := [.int v2, .int 101]) (c_L_low l v2 101 (by decide)) k_L_83 (z_preR hK trivial) rfl ⟨by omega, by omega⟩ hl.1 rfl (Nat.le_of_ble_eq_true rfl) dL_law_375 ⟨by omega, by omega⟩) ?_
  refine lv_topi (fun v3 ev3 => ?_)
  have hv3 : 0 ≤ v3.toInt ∧ v3.toInt < 101 := by rw [ev3]; exact low_b (by decide) (by decide)
  clear ev3
  have r0 : fIn v1 0 200 = 1 := fIn_of (a := 0) (b := 200) (by decide) (by decide) (by omega) (by omega)
  have r1 : fIn v3 0 100 = 1 := fIn_of (a := 0) (b := 100) (by decide) (by decide) (by omega) (by omega)
  refine z_backW1 (z_runV ⟨hx, hb, hml, hown, hT⟩ (rest := []) (As := [.int v1, .int v3]) (c_X3_setRates_ok (D := D) (ks := ks) (G := G) (MI := MI) (MJ := MJ) (XI := XI) (XJ := XJ) l hD0 hI v1 v3 r0 r1 H.size) k_L_95 (z_preWV hK hP (hP.at (hI.1 13 (by decide)) rfl) rfl) rfl ⟨by omega, by omega⟩ hl.1 rfl (Nat.le_of_ble_eq_true rfl) dL_law_378 ⟨by omega, by omega⟩) hS (hD.free (fun q hq => Nat.le_trans hS.1 hq)) (fun H locs hP hz hk2 hS => ?_)
  have hs := rates_f hs r0 r1
  have hqX1 : u2 (u2 XI 10 3 v1) 10 4 v3 10 3 = v1 := rfl
  generalize u2 (u2 XI 10 3 v1) 10 4 v3 = X1 at hP hs hqX1
  refine lv_pop hx hb dL_law_381 rfl ?_
  refine lv_aload_n hx hb dL_law_382 rfl (lv_at hl 7 rfl) ?_
  refine lv_iload hx hb dL_law_383 (lv_at hl 0 rfl) ?_
  refine lv_iload hx hb dL_law_385 (lv_at hl 3 rfl) ?_
  refine lv_bipush (v := 8) hx hb dL_law_387 (by decide) ?_
  refine lv_ishr hx hb dL_law_389 ?_
  refine lv_topi (fun v4 ev4 => ?_)
  clear ev4
  refine lv_bipush (v := 101) hx hb dL_law_390 (by decide) ?_
  refine z_backR1 (z_runS ⟨hx, hb, hml, hown, hT⟩ (rest := [.int v1, .ref (ad 13)]) (As := [.int v4, .int 101]) (c_L_low l v4 101 (by decide)) k_L_83 (z_preR hK trivial) rfl ⟨by omega, by omega⟩ hl.1 rfl (Nat.le_of_ble_eq_true rfl) dL_law_392 ⟨by omega, by omega⟩) ?_
  refine lv_topi (fun v5 ev5 => ?_)
  have hv5 : 0 ≤ v5.toInt ∧ v5.toInt < 101 := by rw [ev5]; exact low_b (by decide) (by decide)
  clear ev5
  have r0 : fIn v1 0 200 = 1 := fIn_of (a := 0) (b := 200) (by decide) (by decide) (by omega) (by omega)
  have r1 : fIn v5 0 100 = 1 := fIn_of (a := 0) (b := 100) (by decide) (by decide) (by omega) (by omega)
  refine z_backW1 (z_runV ⟨hx, hb, hml, hown, hT⟩ (rest := []) (As := [.int v1, .int v5]) (c_X3_setRates_ok (D := D) (ks := ks) (G := G) (MI := MI) (MJ := MJ) (XI := X1) (XJ := XJ) l hD0 hI v1 v5 r0 r1 H.size) k_L_95 (z_preWV hK hP (hP.at (hI.1 13 (by decide)) rfl) rfl) rfl ⟨by omega, by omega⟩ hl.1 rfl (Nat.le_of_ble_eq_true rfl) dL_law_395 ⟨by omega, by omega⟩) hS (hD.free (fun q hq => Nat.le_trans hS.1 hq)) (fun H locs hP hz hk2 hS => ?_)
  have hs := rates_f hs r0 r1
  have hqX2 : u2 (u2 X1 10 3 v1) 10 4 v5 10 3 = v1 := rfl
  generalize u2 (u2 X1 10 3 v1) 10 4 v5 = X2 at hP hs hqX2
  refine lv_iload hx hb dL_law_398 (lv_at hl 0 rfl) ?_
  refine lv_icmp_ne (tgt := 407) hx hb dL_law_400 (by decide) (fun c_6 => ?_) (fun c_6 => ?_)
  · exact absurd hqX1 c_6
  · refine lv_iconst (v := 1) hx hb dL_law_403 (by decide) ?_
    refine lv_goto (tgt := 408) hx hb dL_law_404 (by decide) ?_
    refine lv_istore_n (lv' := [(2, .int 1), (9, .int v1), (7, .int (nI j)), (6, .int (nI np)), (5, .int v), (4, .int (nI n)), (3, .int tu), (1, .ref (ad 13)), (0, .ref b)]) hx hb dL_law_408 rfl hl (by decide) rfl (fun ls hl => ?_)
    refine lv_goto (tgt := 641) hx hb dL_law_409 (by decide) ?_
    exact W.widen (by omega) (by omega) (kk ad Rs np ng G MI MJ X2 XJ _ H locs ls hI hall hD hP hS hs (lv_sub hl [5, 6, 0, 7, 8] rfl))
set_option maxHeartbeats 4000000 in
set_option maxRecDepth 100000 in
theorem b_scale {b L n y : Nat} {xs : Nat → Int32} {v tu : Int32} (hF : lwF p l R s m args c D ks b L xs) (hI : zIn Rs np ng) (hall : zAll Rs np ng) (hD : zD (fun q => s.heap.size ≤ q) Rs ad) (hP : zP D Rs ad (gS ks ad np ng G MI MJ XI XJ) H) (hS : va_S (fun q => s.heap.size ≤ q) s.heap H locs) (hcs : cells + 4 ≤ R.cells ∧ slots + 13 ≤ R.slots) (hs : sI np ng G XI XJ y) (kk : lwC p l e R s m args below meth c D ks Q b n tu cells slots) {j : Nat} (hl : lv_has ls 13 [(7, .int (nI j)), (6, .int (nI np)), (5, .int v), (4, .int (nI n)), (3, .int tu), (2, .int 1), (1, .ref (ad 13)), (0, .ref b)]) : W p l e R s m args below meth c H locs cells slots Q (F0 m 419 ls []) := by
  obtain ⟨⟨hx, hb, hml, hown, hT⟩, ⟨hK, hZ, hUn⟩, ⟨hXs, hbl, hL⟩, hst, hRf, hRl⟩ := hF
  have hD0 : zD (fun _ => True) Rs ad := hD.weak (fun _ _ => trivial)
  obtain ⟨⟨hc0, hc1⟩, hGG, hgle, hN⟩ := hs.gn
  have hG30 : ng ≤ 30 := Nat.le_trans hgle hN
  have hAo : ∀ q, zA Rs ad H.size q → s.heap.size ≤ q := hD.free (fun q hq => Nat.le_trans hS.1 hq)
  have hA : ∀ q : Nat, s.heap.size ≤ q → s.heap.size ≤ q := fun q h => h
  refine lv_sipush (v := 500) hx hb dL_law_419 (by decide) ?_
  refine lv_iload hx hb dL_law_422 (lv_at hl 2 rfl) ?_
  refine lv_sipush (v := 1001) hx hb dL_law_424 (by decide) ?_
  refine z_backR1 (z_runS ⟨hx, hb, hml, hown, hT⟩ (rest := [.int 500]) (As := [.int v, .int 1001]) (c_L_low l v 1001 (by decide)) k_L_83 (z_preR hK trivial) rfl ⟨by omega, by omega⟩ hl.1 rfl (Nat.le_of_ble_eq_true rfl) dL_law_427 ⟨by omega, by omega⟩) ?_
  refine lv_topi (fun v1 ev1 => ?_)
  have hv1 : 0 ≤ v1.toInt ∧ v1.toInt < 1001 := by rw [ev1]; exact low_b (by decide) (by decide)
  clear ev1
  refine lv_iadd hx hb dL_law_430 ?_
  refine lv_topi (fun v2 ev2 => ?_)
  have hv2 : v2.toInt = 500 + v1.toInt := by rw [ev2, i_add (by rw [show (500 : Int32).toInt = 500 by decide]; omega) (by rw [show (500 : Int32).toInt = 500 by decide]; omega)]; rfl
  refine lv_istore (lv' := [(9, .int v2), (7, .int (nI j)), (6, .int (nI np)), (5, .int v), (4, .int (nI n)), (3, .int tu), (2, .int 1), (1, .ref (ad 13)), (0, .ref b)]) hx hb dL_law_431 hl (by decide) rfl (fun ls hl => ?_)
  refine lv_aload_n hx hb dL_law_433 rfl (lv_at hl 7 rfl) ?_
  refine lv_iload hx hb dL_law_434 (lv_at hl 0 rfl) ?_
  refine lv_iload hx hb dL_law_436 (lv_at hl 3 rfl) ?_
  refine lv_iconst (v := 5) hx hb dL_law_438 (by decide) ?_
  refine lv_ishr hx hb dL_law_439 ?_
  refine lv_topi (fun v3 ev3 => ?_)
  clear ev3
  refine lv_sipush (v := 1001) hx hb dL_law_440 (by decide) ?_
  refine z_backR1 (z_runS ⟨hx, hb, hml, hown, hT⟩ (rest := [.int v2, .ref (ad 13)]) (As := [.int v3, .int 1001]) (c_L_low l v3 1001 (by decide)) k_L_83 (z_preR hK trivial) rfl ⟨by omega, by omega⟩ hl.1 rfl (Nat.le_of_ble_eq_true rfl) dL_law_443 ⟨by omega, by omega⟩) ?_
  refine lv_topi (fun v4 ev4 => ?_)
  have hv4 : 0 ≤ v4.toInt ∧ v4.toInt < 1001 := by rw [ev4]; exact low_b (by decide) (by decide)
  clear ev4
  refine lv_iload hx hb dL_law_446 (lv_at hl 3 rfl) ?_
  refine lv_bipush (v := 9) hx hb dL_law_448 (by decide) ?_
  refine lv_ishr hx hb dL_law_450 ?_
  refine lv_topi (fun v5 ev5 => ?_)
  clear ev5
  refine lv_sipush (v := 1001) hx hb dL_law_451 (by decide) ?_
  refine z_backR1 (z_runS ⟨hx, hb, hml, hown, hT⟩ (rest := [.int v4, .int v2, .ref (ad 13)]) (As := [.int v5, .int 1001]) (c_L_low l v5 1001 (by decide)) k_L_83 (z_preR hK trivial) rfl ⟨by omega, by omega⟩ hl.1 rfl (Nat.le_of_ble_eq_true rfl) dL_law_454 ⟨by omega, by omega⟩) ?_
  refine lv_topi (fun v6 ev6 => ?_)
  have hv6 : 0 ≤ v6.toInt ∧ v6.toInt < 1001 := by rw [ev6]; exact low_b (by decide) (by decide)
  clear ev6
  have r0 : fIn v2 500 1500 = 1 := fIn_of (a := 500) (b := 1500) (by decide) (by decide) (by omega) (by omega)
  have r1 : fIn v4 0 1000 = 1 := fIn_of (a := 0) (b := 1000) (by decide) (by decide) (by omega) (by omega)
  have r2 : fIn v6 0 1000 = 1 := fIn_of (a := 0) (b := 1000) (by decide) (by decide) (by omega) (by omega)
  refine z_backW1 (z_runV ⟨hx, hb, hml, hown, hT⟩ (rest := []) (As := [.int v2, .int v4, .int v6]) (c_X3_setScale_ok (D := D) (ks := ks) (G := G) (MI := MI) (MJ := MJ) (XI := XI) (XJ := XJ) l hD0 hI v2 v4 v6 r0 r1 r2 H.size) k_L_98 (z_preWV hK hP (hP.at (hI.1 13 (by decide)) rfl) rfl) rfl ⟨by omega, by omega⟩ hl.1 rfl (Nat.le_of_ble_eq_true rfl) dL_law_457 ⟨by omega, by omega⟩) hS (hD.free (fun q hq => Nat.le_trans hS.1 hq)) (fun H locs hP hz hk2 hS => ?_)
  have hs := scale_f hs r0 r1 r2
  have hqX1 : u2 (u2 (u2 XI 10 5 v2) 10 6 v4) 10 7 v6 10 5 = v2 := rfl
  generalize u2 (u2 (u2 XI 10 5 v2) 10 6 v4) 10 7 v6 = X1 at hP hs hqX1
  refine lv_pop hx hb dL_law_460 rfl ?_
  refine lv_aload_n hx hb dL_law_461 rfl (lv_at hl 7 rfl) ?_
  refine lv_iload hx hb dL_law_462 (lv_at hl 0 rfl) ?_
  refine lv_iload hx hb dL_law_464 (lv_at hl 3 rfl) ?_
  refine lv_iconst (v := 5) hx hb dL_law_466 (by decide) ?_
  refine lv_ishr hx hb dL_law_467 ?_
  refine lv_topi (fun v7 ev7 => ?_)
  clear ev7
  refine lv_sipush (v := 1001) hx hb dL_law_468 (by decide) ?_
  refine z_backR1 (z_runS ⟨hx, hb, hml, hown, hT⟩ (rest := [.int v2, .ref (ad 13)]) (As := [.int v7, .int 1001]) (c_L_low l v7 1001 (by decide)) k_L_83 (z_preR hK trivial) rfl ⟨by omega, by omega⟩ hl.1 rfl (Nat.le_of_ble_eq_true rfl) dL_law_471 ⟨by omega, by omega⟩) ?_
  refine lv_topi (fun v8 ev8 => ?_)
  have hv8 : 0 ≤ v8.toInt ∧ v8.toInt < 1001 := by rw [ev8]; exact low_b (by decide) (by decide)
  clear ev8
  refine lv_iload hx hb dL_law_474 (lv_at hl 3 rfl) ?_
  refine lv_bipush (v := 9) hx hb dL_law_476 (by decide) ?_
  refine lv_ishr hx hb dL_law_478 ?_
  refine lv_topi (fun v9 ev9 => ?_)
  clear ev9
  refine lv_sipush (v := 1001) hx hb dL_law_479 (by decide) ?_
  refine z_backR1 (z_runS ⟨hx, hb, hml, hown, hT⟩ (rest := [.int v8, .int v2, .ref (ad 13)]) (As := [.int v9, .int 1001]) (c_L_low l v9 1001 (by decide)) k_L_83 (z_preR hK trivial) rfl ⟨by omega, by omega⟩ hl.1 rfl (Nat.le_of_ble_eq_true rfl) dL_law_482 ⟨by omega, by omega⟩) ?_
  refine lv_topi (fun v10 ev10 => ?_)
  have hv10 : 0 ≤ v10.toInt ∧ v10.toInt < 1001 := by rw [ev10]; exact low_b (by decide) (by decide)
  clear ev10
  have r0 : fIn v2 500 1500 = 1 := fIn_of (a := 500) (b := 1500) (by decide) (by decide) (by omega) (by omega)
  have r1 : fIn v8 0 1000 = 1 := fIn_of (a := 0) (b := 1000) (by decide) (by decide) (by omega) (by omega)
  have r2 : fIn v10 0 1000 = 1 := fIn_of (a := 0) (b := 1000) (by decide) (by decide) (by omega) (by omega)
  refine z_backW1 (z_runV ⟨hx, hb, hml, hown, hT⟩ (rest := []) (As := [.int v2, .int v8, .int v10]) (c_X3_setScale_ok (D := D) (ks := ks) (G := G) (MI := MI) (MJ := MJ) (XI := X1) (XJ := XJ) l hD0 hI v2 v8 v10 r0 r1 r2 H.size) k_L_98 (z_preWV hK hP (hP.at (hI.1 13 (by decide)) rfl) rfl) rfl ⟨by omega, by omega⟩ hl.1 rfl (Nat.le_of_ble_eq_true rfl) dL_law_485 ⟨by omega, by omega⟩) hS (hD.free (fun q hq => Nat.le_trans hS.1 hq)) (fun H locs hP hz hk2 hS => ?_)
  have hs := scale_f hs r0 r1 r2
  have hqX2 : u2 (u2 (u2 X1 10 5 v2) 10 6 v8) 10 7 v10 10 5 = v2 := rfl
  generalize u2 (u2 (u2 X1 10 5 v2) 10 6 v8) 10 7 v10 = X2 at hP hs hqX2
  refine lv_iload hx hb dL_law_488 (lv_at hl 0 rfl) ?_
  refine lv_icmp_ne (tgt := 497) hx hb dL_law_490 (by decide) (fun c_11 => ?_) (fun c_11 => ?_)
  · exact absurd hqX1 c_11
  · refine lv_iconst (v := 1) hx hb dL_law_493 (by decide) ?_
    refine lv_goto (tgt := 498) hx hb dL_law_494 (by decide) ?_
    refine lv_istore_n (lv' := [(2, .int 1), (9, .int v2), (7, .int (nI j)), (6, .int (nI np)), (5, .int v), (4, .int (nI n)), (3, .int tu), (1, .ref (ad 13)), (0, .ref b)]) hx hb dL_law_498 rfl hl (by decide) rfl (fun ls hl => ?_)
    refine lv_goto (tgt := 641) hx hb dL_law_499 (by decide) ?_
    exact W.widen (by omega) (by omega) (kk ad Rs np ng G MI MJ X2 XJ _ H locs ls hI hall hD hP hS hs (lv_sub hl [5, 6, 0, 7, 8] rfl))
set_option maxHeartbeats 4000000 in
set_option maxRecDepth 100000 in
theorem b_endow {b L n y : Nat} {xs : Nat → Int32} {v tu : Int32} (hF : lwF p l R s m args c D ks b L xs) (hI : zIn Rs np ng) (hall : zAll Rs np ng) (hD : zD (fun q => s.heap.size ≤ q) Rs ad) (hP : zP D Rs ad (gS ks ad np ng G MI MJ XI XJ) H) (hS : va_S (fun q => s.heap.size ≤ q) s.heap H locs) (hcs : cells + 4 ≤ R.cells ∧ slots + 13 ≤ R.slots) (hs : sI np ng G XI XJ y) (kk : lwC p l e R s m args below meth c D ks Q b n tu cells slots) {j : Nat} (hl : lv_has ls 13 [(7, .int (nI j)), (6, .int (nI np)), (5, .int v), (4, .int (nI n)), (3, .int tu), (2, .int 1), (1, .ref (ad 13)), (0, .ref b)]) : W p l e R s m args below meth c H locs cells slots Q (F0 m 509 ls []) := by
  obtain ⟨⟨hx, hb, hml, hown, hT⟩, ⟨hK, hZ, hUn⟩, ⟨hXs, hbl, hL⟩, hst, hRf, hRl⟩ := hF
  have hD0 : zD (fun _ => True) Rs ad := hD.weak (fun _ _ => trivial)
  obtain ⟨⟨hc0, hc1⟩, hGG, hgle, hN⟩ := hs.gn
  have hG30 : ng ≤ 30 := Nat.le_trans hgle hN
  have hAo : ∀ q, zA Rs ad H.size q → s.heap.size ≤ q := hD.free (fun q hq => Nat.le_trans hS.1 hq)
  have hA : ∀ q : Nat, s.heap.size ≤ q → s.heap.size ≤ q := fun q h => h
  refine lv_aload_n hx hb dL_law_509 rfl (lv_at hl 6 rfl) ?_
  refine z_backR1 (z_runV ⟨hx, hb, hml, hown, hT⟩ (rest := []) (As := []) (c_X3_estate (G := G) (MI := MI) (MJ := MJ) (XI := XI) (XJ := XJ) l hI ) k_L_56 (z_preRV hK hP (hP.at (hI.1 13 (by decide)) rfl) rfl) rfl ⟨by omega, by omega⟩ hl.1 rfl (Nat.le_of_ble_eq_true rfl) dL_law_510 ⟨by omega, by omega⟩) ?_
  refine lv_lstore (lv' := [(9, .long (XJ 4 0)), (7, .int (nI j)), (6, .int (nI np)), (5, .int v), (4, .int (nI n)), (3, .int tu), (2, .int 1), (1, .ref (ad 13)), (0, .ref b)]) hx hb dL_law_513 hl (by decide) rfl (fun ls hl => ?_)
  refine lv_iload hx hb dL_law_515 (lv_at hl 3 rfl) ?_
  refine lv_ldc (v := 2000001) hx hb hown (hT _ ki_L_101) dL_law_517 ?_
  refine z_backR1 (z_runS ⟨hx, hb, hml, hown, hT⟩ (rest := []) (As := [.int v, .int 2000001]) (c_L_low l v 2000001 (by decide)) k_L_83 (z_preR hK trivial) rfl ⟨by omega, by omega⟩ hl.1 rfl (Nat.le_of_ble_eq_true rfl) dL_law_519 ⟨by omega, by omega⟩) ?_
  refine lv_topi (fun v1 ev1 => ?_)
  have hv1 : 0 ≤ v1.toInt ∧ v1.toInt < 2000001 := by rw [ev1]; exact low_b (by decide) (by decide)
  clear ev1
  refine lv_ldc (v := 1000000) hx hb hown (hT _ ki_L_102) dL_law_522 ?_
  refine lv_isub hx hb dL_law_524 ?_
  refine lv_topi (fun v2 ev2 => ?_)
  have hv2 : v2.toInt = v1.toInt - 1000000 := by rw [ev2, i_sub (by rw [show (1000000 : Int32).toInt = 1000000 by decide]; omega) (by rw [show (1000000 : Int32).toInt = 1000000 by decide]; omega)]; rfl
  refine lv_istore (lv' := [(11, .int v2), (9, .long (XJ 4 0)), (7, .int (nI j)), (6, .int (nI np)), (5, .int v), (4, .int (nI n)), (3, .int tu), (2, .int 1), (1, .ref (ad 13)), (0, .ref b)]) hx hb dL_law_525 hl (by decide) rfl (fun ls hl => ?_)
  refine lv_aload_n hx hb dL_law_527 rfl (lv_at hl 8 rfl) ?_
  refine lv_iload hx hb dL_law_528 (lv_at hl 0 rfl) ?_
  have r0 : fIn v2 (-1000000) 1000000 = 1 := fIn_of (a := -1000000) (b := 1000000) (by decide) (by decide) (by omega) (by omega)
  refine z_backW1 (z_runV ⟨hx, hb, hml, hown, hT⟩ (rest := []) (As := [.int v2]) (c_X3_endow_ok (D := D) (ks := ks) (G := G) (MI := MI) (MJ := MJ) (XI := XI) (XJ := XJ) l hD0 hI v2 r0 H.size) k_L_103 (z_preWV hK hP (hP.at (hI.1 13 (by decide)) rfl) rfl) rfl ⟨by omega, by omega⟩ hl.1 rfl (Nat.le_of_ble_eq_true rfl) dL_law_530 ⟨by omega, by omega⟩) hS (hD.free (fun q hq => Nat.le_trans hS.1 hq)) (fun H locs hP hz hk2 hS => ?_)
  have hs := endow_f hs (Int32.toInt64 v2)
  have hqJ : u2 (u2 XJ 4 0 (XJ 4 0 + Int32.toInt64 v2)) 4 1 (XJ 4 1 + Int32.toInt64 v2) 4 0 = XJ 4 0 + Int32.toInt64 v2 := rfl
  generalize u2 (u2 XJ 4 0 (XJ 4 0 + Int32.toInt64 v2)) 4 1 (XJ 4 1 + Int32.toInt64 v2) = J1 at hP hs hqJ
  refine lv_lload hx hb dL_law_533 (lv_at hl 1 rfl) ?_
  refine lv_iload hx hb dL_law_535 (lv_at hl 0 rfl) ?_
  refine lv_i2l hx hb dL_law_537 rfl ?_
  refine lv_ladd hx hb dL_law_538 ?_
  refine z_lcmp_ne (tgt := 561) hx hb dL_law_539 dL_law_540 (by decide) (fun c_3 => ?_) (fun c_3 => ?_)
  · exact absurd rfl c_3
  · refine lv_aload_n hx hb dL_law_543 rfl (lv_at hl 8 rfl) ?_
    refine z_backR1 (z_runV ⟨hx, hb, hml, hown, hT⟩ (rest := []) (As := []) (c_X3_estate (G := G) (MI := MI) (MJ := MJ) (XI := XI) (XJ := J1) l hI ) k_L_56 (z_preRV hK hP (hP.at (hI.1 13 (by decide)) rfl) rfl) rfl ⟨by omega, by omega⟩ hl.1 rfl (Nat.le_of_ble_eq_true rfl) dL_law_544 ⟨by omega, by omega⟩) ?_
    refine lv_lload hx hb dL_law_547 (lv_at hl 1 rfl) ?_
    refine lv_iload hx hb dL_law_549 (lv_at hl 0 rfl) ?_
    refine lv_i2l hx hb dL_law_551 rfl ?_
    refine lv_ladd hx hb dL_law_552 ?_
    refine z_lcmp_ne (tgt := 561) hx hb dL_law_553 dL_law_554 (by decide) (fun c_4 => ?_) (fun c_4 => ?_)
    · exact absurd hqJ c_4
    · refine lv_iconst (v := 1) hx hb dL_law_557 (by decide) ?_
      refine lv_goto (tgt := 562) hx hb dL_law_558 (by decide) ?_
      refine lv_istore_n (lv' := [(2, .int 1), (11, .int v2), (9, .long (XJ 4 0)), (7, .int (nI j)), (6, .int (nI np)), (5, .int v), (4, .int (nI n)), (3, .int tu), (1, .ref (ad 13)), (0, .ref b)]) hx hb dL_law_562 rfl hl (by decide) rfl (fun ls hl => ?_)
      refine lv_goto (tgt := 641) hx hb dL_law_563 (by decide) ?_
      exact W.widen (by omega) (by omega) (kk ad Rs np ng G MI MJ XI J1 _ H locs ls hI hall hD hP hS hs (lv_sub hl [6, 7, 0, 8, 9] rfl))
set_option maxHeartbeats 4000000 in
set_option maxRecDepth 100000 in
theorem b_run {b L n y : Nat} {xs : Nat → Int32} {v tu : Int32} (hF : lwF p l R s m args c D ks b L xs) (hI : zIn Rs np ng) (hall : zAll Rs np ng) (hD : zD (fun q => s.heap.size ≤ q) Rs ad) (hP : zP D Rs ad (gS ks ad np ng G MI MJ XI XJ) H) (hS : va_S (fun q => s.heap.size ≤ q) s.heap H locs) (hcs : cells + 4 ≤ R.cells ∧ slots + 13 ≤ R.slots) (hs : sI np ng G XI XJ y) (kk : lwC p l e R s m args below meth c D ks Q b n tu cells slots) {j : Nat} (hl : lv_has ls 13 [(7, .int (nI j)), (6, .int (nI np)), (5, .int v), (4, .int (nI n)), (3, .int tu), (2, .int 1), (1, .ref (ad 13)), (0, .ref b)]) : W p l e R s m args below meth c H locs cells slots Q (F0 m 566 ls []) := by
  obtain ⟨⟨hx, hb, hml, hown, hT⟩, ⟨hK, hZ, hUn⟩, ⟨hXs, hbl, hL⟩, hst, hRf, hRl⟩ := hF
  have hD0 : zD (fun _ => True) Rs ad := hD.weak (fun _ _ => trivial)
  obtain ⟨⟨hc0, hc1⟩, hGG, hgle, hN⟩ := hs.gn
  have hG30 : ng ≤ 30 := Nat.le_trans hgle hN
  have hAo : ∀ q, zA Rs ad H.size q → s.heap.size ≤ q := hD.free (fun q hq => Nat.le_trans hS.1 hq)
  have hA : ∀ q : Nat, s.heap.size ≤ q → s.heap.size ≤ q := fun q h => h
  refine lv_aload_n hx hb dL_law_566 rfl (lv_at hl 6 rfl) ?_
  refine z_backR1 (z_runV ⟨hx, hb, hml, hown, hT⟩ (rest := []) (As := []) (c_X3_year (G := G) (MI := MI) (MJ := MJ) (XI := XI) (XJ := XJ) l hI ) k_L_73 (z_preRV hK hP (hP.at (hI.1 13 (by decide)) rfl) rfl) rfl ⟨by omega, by omega⟩ hl.1 rfl (Nat.le_of_ble_eq_true rfl) dL_law_567 ⟨by omega, by omega⟩) ?_
  refine lv_istore (lv' := [(9, .int (XI 10 2)), (7, .int (nI j)), (6, .int (nI np)), (5, .int v), (4, .int (nI n)), (3, .int tu), (2, .int 1), (1, .ref (ad 13)), (0, .ref b)]) hx hb dL_law_570 hl (by decide) rfl (fun ls hl => ?_)
  refine lv_aload_n hx hb dL_law_572 rfl (lv_at hl 7 rfl) ?_
  refine lv_iload hx hb dL_law_573 (lv_at hl 3 rfl) ?_
  refine lv_sipush (v := 401) hx hb dL_law_575 (by decide) ?_
  refine z_backR1 (z_runS ⟨hx, hb, hml, hown, hT⟩ (rest := [.ref (ad 13)]) (As := [.int v, .int 401]) (c_L_low l v 401 (by decide)) k_L_83 (z_preR hK trivial) rfl ⟨by omega, by omega⟩ hl.1 rfl (Nat.le_of_ble_eq_true rfl) dL_law_578 ⟨by omega, by omega⟩) ?_
  refine lv_topi (fun v1 ev1 => ?_)
  have hv1 : 0 ≤ v1.toInt ∧ v1.toInt < 401 := by rw [ev1]; exact low_b (by decide) (by decide)
  clear ev1
  refine lv_sipush (v := 200) hx hb dL_law_581 (by decide) ?_
  refine lv_isub hx hb dL_law_584 ?_
  refine lv_topi (fun v2 ev2 => ?_)
  have hv2 : v2.toInt = v1.toInt - 200 := by rw [ev2, i_sub (by rw [show (200 : Int32).toInt = 200 by decide]; omega) (by rw [show (200 : Int32).toInt = 200 by decide]; omega)]; rfl
  have r0 : fIn v2 (-200) 200 = 1 := fIn_of (a := -200) (b := 200) (by decide) (by decide) (by omega) (by omega)
  obtain ⟨hyx, hy40⟩ := hs.yr
  have h40 : (40 : Int32).toInt = 40 := by decide
  by_cases hy : y < 40
  · have hyc : XI 10 2 < 40 := by rw [Int32.lt_iff_toInt_lt, hyx, h40]; omega
    obtain ⟨hok, -⟩ := (hold_f hs).1.2.2
    obtain ⟨hs2, hM, hyr⟩ := run_f hs hy (rt := v2) (by omega)
    refine z_backW1 (z_runY ⟨hx, hb, hml, hown, hT⟩ (rest := []) (As := [.ref (ad 13), .int v2]) (k := 2) (index := 107) (w_run l hI H.size (c_X3_run_ok (D := D) (ks := ks) (G := G) (MI := MI) (MJ := MJ) (XI := XI) (XJ := XJ) l hD0 hI v2 hok r0 hyc H.size)) cw_yL_run ml_L_107 sm_yL_run in_L ⟨by decide, by decide, by decide +kernel⟩ (z_preY hK hZ hUn hS hP) rfl ⟨by omega, by omega⟩ hl.1 rfl (Nat.le_of_ble_eq_true rfl) dL_law_585 ⟨by omega, by omega⟩) hS (hD.free (fun q hq => Nat.le_trans hS.1 hq)) (fun H locs hP hz hk2 hS => ?_)
    generalize xRunI XI XJ G v2 np ng = XI2 at hP hs2 hyr
    generalize xRunJ XI XJ G v2 np ng = XJ2 at hP hs2
    generalize xMtN np G 30 (xS0 XI XJ v2 np ng) = M at hM ⊢
    refine lv_istore (lv' := [(10, .int (nI M)), (9, .int (XI 10 2)), (7, .int (nI j)), (6, .int (nI np)), (5, .int v), (4, .int (nI n)), (3, .int tu), (2, .int 1), (1, .ref (ad 13)), (0, .ref b)]) hx hb dL_law_588 hl (by decide) rfl (fun ls hl => ?_)
    refine lv_iload hx hb dL_law_590 (lv_at hl 0 rfl) ?_
    refine lv_bipush (v := (-3)) hx hb dL_law_592 (by decide) ?_
    refine lv_icmp_ne (tgt := 612) hx hb dL_law_594 (by decide) (fun c_3 => ?_) (fun c_3 => ?_)
    · refine lv_iload hx hb dL_law_612 (lv_at hl 0 rfl) ?_
      refine lv_if_lt (tgt := 639) hx hb dL_law_614 (by decide) (fun c_4 => ?_) (fun c_4 => ?_)
      · exact absurd c_4 (nI_pos (by omega))
      · refine lv_iload hx hb dL_law_617 (lv_at hl 0 rfl) ?_
        refine lv_iload hx hb dL_law_619 (lv_at hl 3 rfl) ?_
        refine lv_icmp_gt (tgt := 639) hx hb dL_law_621 (by decide) (fun c_5 => ?_) (fun c_5 => ?_)
        · exact absurd c_5 (nI_nlt hM (by omega))
        · refine lv_aload_n hx hb dL_law_624 rfl (lv_at hl 8 rfl) ?_
          refine z_backR1 (z_runV ⟨hx, hb, hml, hown, hT⟩ (rest := []) (As := []) (c_X3_year (G := G) (MI := MI) (MJ := MJ) (XI := XI2) (XJ := XJ2) l hI ) k_L_73 (z_preRV hK hP (hP.at (hI.1 13 (by decide)) rfl) rfl) rfl ⟨by omega, by omega⟩ hl.1 rfl (Nat.le_of_ble_eq_true rfl) dL_law_625 ⟨by omega, by omega⟩) ?_
          refine lv_iload hx hb dL_law_628 (lv_at hl 1 rfl) ?_
          refine lv_iconst (v := 1) hx hb dL_law_630 (by decide) ?_
          refine lv_iadd hx hb dL_law_631 ?_
          refine lv_icmp_ne (tgt := 639) hx hb dL_law_632 (by decide) (fun c_6 => ?_) (fun c_6 => ?_)
          · exact absurd hyr c_6
          · refine lv_iconst (v := 1) hx hb dL_law_635 (by decide) ?_
            refine lv_goto (tgt := 640) hx hb dL_law_636 (by decide) ?_
            refine lv_istore_n (lv' := [(2, .int 1), (10, .int (nI M)), (9, .int (XI 10 2)), (7, .int (nI j)), (6, .int (nI np)), (5, .int v), (4, .int (nI n)), (3, .int tu), (1, .ref (ad 13)), (0, .ref b)]) hx hb dL_law_640 rfl hl (by decide) rfl (fun ls hl => ?_)
            exact W.widen (by omega) (by omega) (kk ad Rs np ng G MI MJ XI2 XJ2 _ H locs ls hI hall hD hP hS hs2 (lv_sub hl [6, 7, 0, 8, 9] rfl))
    · exact absurd c_3 (fun q => by have q2 := congrArg Int32.toInt q; rw [nI_toInt (by omega), show (-3 : Int32).toInt = -3 by decide] at q2; omega)
  · have hyc : 40 ≤ XI 10 2 := by rw [Int32.le_iff_toInt_le, hyx, h40]; omega
    have hy4 : XI 10 2 = 40 := Int32.toInt_inj.mp (by rw [hyx, h40]; omega)
    refine z_backW1 (z_runY ⟨hx, hb, hml, hown, hT⟩ (rest := []) (As := [.ref (ad 13), .int v2]) (k := 2) (index := 107) (w_run_x l hI (c_X3_run_late (D := D) (ks := ks) (G := G) (MI := MI) (MJ := MJ) (XI := XI) (XJ := XJ) l hst hI v2 r0 hyc) H.size) cw_yL_run ml_L_107 sm_yL_run in_L ⟨by decide, by decide, by decide +kernel⟩ (z_preY hK hZ hUn hS hP) rfl ⟨by omega, by omega⟩ hl.1 rfl (Nat.le_of_ble_eq_true rfl) dL_law_585 ⟨by omega, by omega⟩) hS (hD.free (fun q hq => Nat.le_trans hS.1 hq)) (fun H locs hP hz hk2 hS => ?_)
    refine lv_istore (lv' := [(10, .int (-3)), (9, .int (XI 10 2)), (7, .int (nI j)), (6, .int (nI np)), (5, .int v), (4, .int (nI n)), (3, .int tu), (2, .int 1), (1, .ref (ad 13)), (0, .ref b)]) hx hb dL_law_588 hl (by decide) rfl (fun ls hl => ?_)
    refine lv_iload hx hb dL_law_590 (lv_at hl 0 rfl) ?_
    refine lv_bipush (v := (-3)) hx hb dL_law_592 (by decide) ?_
    refine lv_icmp_ne (tgt := 612) hx hb dL_law_594 (by decide) (fun c_7 => ?_) (fun c_7 => ?_)
    · exact absurd c_7 (by decide)
    · refine lv_iload hx hb dL_law_597 (lv_at hl 1 rfl) ?_
      refine lv_bipush (v := 40) hx hb dL_law_599 (by decide) ?_
      refine lv_icmp_ne (tgt := 608) hx hb dL_law_601 (by decide) (fun c_8 => ?_) (fun c_8 => ?_)
      · exact absurd hy4 c_8
      · refine lv_iconst (v := 1) hx hb dL_law_604 (by decide) ?_
        refine lv_goto (tgt := 640) hx hb dL_law_605 (by decide) ?_
        refine lv_istore_n (lv' := [(2, .int 1), (10, .int (-3)), (9, .int (XI 10 2)), (7, .int (nI j)), (6, .int (nI np)), (5, .int v), (4, .int (nI n)), (3, .int tu), (1, .ref (ad 13)), (0, .ref b)]) hx hb dL_law_640 rfl hl (by decide) rfl (fun ls hl => ?_)
        exact W.widen (by omega) (by omega) (kk ad Rs np ng G MI MJ XI XJ _ H locs ls hI hall hD hP hS hs (lv_sub hl [6, 7, 0, 8, 9] rfl))
set_option maxHeartbeats 4000000 in
set_option maxRecDepth 100000 in
theorem b_surr {b L n y : Nat} {xs : Nat → Int32} {v tu : Int32} (hF : lwF p l R s m args c D ks b L xs) (hI : zIn Rs np ng) (hall : zAll Rs np ng) (hD : zD (fun q => s.heap.size ≤ q) Rs ad) (hP : zP D Rs ad (gS ks ad np ng G MI MJ XI XJ) H) (hS : va_S (fun q => s.heap.size ≤ q) s.heap H locs) (hcs : cells + 4 ≤ R.cells ∧ slots + 13 ≤ R.slots) (hs : sI np ng G XI XJ y) (kk : lwC p l e R s m args below meth c D ks Q b n tu cells slots) {j : Nat} (hj : j < np) (hl : lv_has ls 13 [(7, .int (nI j)), (6, .int (nI np)), (5, .int v), (4, .int (nI n)), (3, .int tu), (2, .int 1), (1, .ref (ad 13)), (0, .ref b)]) : W p l e R s m args below meth c H locs cells slots Q (F0 m 263 ls []) := by
  obtain ⟨⟨hx, hb, hml, hown, hT⟩, ⟨hK, hZ, hUn⟩, ⟨hXs, hbl, hL⟩, hst, hRf, hRl⟩ := hF
  have hD0 : zD (fun _ => True) Rs ad := hD.weak (fun _ _ => trivial)
  obtain ⟨⟨hc0, hc1⟩, hGG, hgle, hN⟩ := hs.gn
  have hG30 : ng ≤ 30 := Nat.le_trans hgle hN
  have hAo : ∀ q, zA Rs ad H.size q → s.heap.size ≤ q := hD.free (fun q hq => Nat.le_trans hS.1 hq)
  have hA : ∀ q : Nat, s.heap.size ≤ q → s.heap.size ≤ q := fun q h => h
  refine lv_aload_n hx hb dL_law_263 rfl (lv_at hl 6 rfl) ?_
  refine lv_iload hx hb dL_law_264 (lv_at hl 0 rfl) ?_
  have hGj := hGG j hj
  by_cases hc : XI 15 j = 0 ∧ 1 ≤ XI 10 2 - XI 11 (G j)
  · obtain ⟨⟨hw0, hw1⟩, hs2⟩ := sur_f hs hj hc.1 hc.2
    have hw32 := to32 (x := fWo XI XJ G j) (by omega) hw1
    refine z_backW1 (z_runY ⟨hx, hb, hml, hown, hT⟩ (rest := []) (As := [.ref (ad 13), .int (nI j)]) (k := 2) (index := 90) (w_worth l hI (c_X3_worth_ok (D := D) (ks := ks) (G := G) (MI := MI) (MJ := MJ) (XI := XI) (XJ := XJ) l hI j hj hN hGj hc.1 hc.2) H.size) cw_yL_worth ml_L_90 sm_yL_worth in_L ⟨by decide, by decide, by decide +kernel⟩ (z_preY hK hZ hUn hS hP) rfl ⟨by omega, by omega⟩ hl.1 rfl (Nat.le_of_ble_eq_true rfl) dL_law_266 ⟨by omega, by omega⟩) hS (hD.free (fun q hq => Nat.le_trans hS.1 hq)) (fun H locs hP hz hk2 hS => ?_)
    refine lv_topi (fun w0 ew0 => ?_)
    have ew0 : w0 = Int64.toInt32 (fWo XI XJ G j) := ew0
    rw [← ew0] at hw32
    refine lv_istore (lv' := [(9, .int w0), (7, .int (nI j)), (6, .int (nI np)), (5, .int v), (4, .int (nI n)), (3, .int tu), (2, .int 1), (1, .ref (ad 13)), (0, .ref b)]) hx hb dL_law_269 hl (by decide) rfl (fun ls hl => ?_)
    refine lv_aload_n hx hb dL_law_271 rfl (lv_at hl 7 rfl) ?_
    refine z_backR1 (z_runV ⟨hx, hb, hml, hown, hT⟩ (rest := []) (As := []) (c_X3_assets (G := G) (MI := MI) (MJ := MJ) (XI := XI) (XJ := XJ) l hI ) k_L_27 (z_preRV hK hP (hP.at (hI.1 13 (by decide)) rfl) rfl) rfl ⟨by omega, by omega⟩ hl.1 rfl (Nat.le_of_ble_eq_true rfl) dL_law_272 ⟨by omega, by omega⟩) ?_
    refine lv_lstore (lv' := [(10, .long (XJ 4 1)), (9, .int w0), (7, .int (nI j)), (6, .int (nI np)), (5, .int v), (4, .int (nI n)), (3, .int tu), (2, .int 1), (1, .ref (ad 13)), (0, .ref b)]) hx hb dL_law_275 hl (by decide) rfl (fun ls hl => ?_)
    refine lv_aload_n hx hb dL_law_277 rfl (lv_at hl 8 rfl) ?_
    refine lv_iload hx hb dL_law_278 (lv_at hl 2 rfl) ?_
    refine z_backW1 (z_runY ⟨hx, hb, hml, hown, hT⟩ (rest := []) (As := [.ref (ad 13), .int (nI j)]) (k := 2) (index := 93) (w_surrender l hI H.size (c_X3_surrender_ok (D := D) (ks := ks) (G := G) (MI := MI) (MJ := MJ) (XI := XI) (XJ := XJ) l hD0 hI j hj hN hGj hc.1 hc.2 H.size)) cw_yL_surrender ml_L_93 sm_yL_surrender in_L ⟨by decide, by decide, by decide +kernel⟩ (z_preY hK hZ hUn hS hP) rfl ⟨by omega, by omega⟩ hl.1 rfl (Nat.le_of_ble_eq_true rfl) dL_law_280 ⟨by omega, by omega⟩) hS (hD.free (fun q hq => Nat.le_trans hS.1 hq)) (fun H locs hP hz hk2 hS => ?_)
    have hP : zP D Rs ad (gS ks ad np ng G MI MJ (u2 XI 15 j 2) (xCloJ XI G j (fWo XI XJ G j) XJ)) H := hP
    refine lv_topi (fun w1 ew1 => ?_)
    have ew1 : w1 = w0 := ew1.trans ew0.symm
    subst ew1
    have q15 : u2 XI 15 j 2 15 j = 2 := u2_s
    have q11 := xClo_11 (XI := XI) (XJ := XJ) (G := G) (w := fWo XI XJ G j) (j := j)
    have q41 := xClo_41 (XI := XI) (XJ := XJ) (G := G) (w := fWo XI XJ G j) (j := j)
    have hw64 : Int32.toInt64 w1 = fWo XI XJ G j := Int64.toInt_inj.mp (by rw [to64, hw32])
    have q11b : Int64.toInt32 (xCloJ XI G j (fWo XI XJ G j) XJ 11 j) = w1 := by rw [q11, ew0]
    have q41 : xCloJ XI G j (fWo XI XJ G j) XJ 4 1 = XJ 4 1 - Int32.toInt64 w1 := q41.trans (by rw [hw64])
    generalize xCloJ XI G j (fWo XI XJ G j) XJ = XJ2 at hP hs2 q11b q41
    generalize u2 XI 15 j 2 = XI2 at hP hs2 q15
    have hw1z : 0 ≤ w1.toInt := by omega
    refine lv_istore (lv' := [(12, .int w1), (10, .long (XJ 4 1)), (9, .int w1), (7, .int (nI j)), (6, .int (nI np)), (5, .int v), (4, .int (nI n)), (3, .int tu), (2, .int 1), (1, .ref (ad 13)), (0, .ref b)]) hx hb dL_law_283 hl (by decide) rfl (fun ls hl => ?_)
    refine lv_iload hx hb dL_law_285 (lv_at hl 0 rfl) ?_
    refine lv_iload hx hb dL_law_287 (lv_at hl 2 rfl) ?_
    refine lv_icmp_ne (tgt := 343) hx hb dL_law_289 (by decide) (fun c_1 => ?_) (fun c_1 => ?_)
    · exact absurd rfl c_1
    · refine lv_iload hx hb dL_law_292 (lv_at hl 0 rfl) ?_
      refine lv_bipush (v := (-3)) hx hb dL_law_294 (by decide) ?_
      refine lv_icmp_eq (tgt := 339) hx hb dL_law_296 (by decide) (fun c_2 => ?_) (fun c_2 => ?_)
      · exact absurd (congrArg Int32.toInt c_2) (by rw [show (-3 : Int32).toInt = -3 by decide]; omega)
      · refine lv_iload hx hb dL_law_299 (lv_at hl 0 rfl) ?_
        refine lv_if_lt (tgt := 343) hx hb dL_law_301 (by decide) (fun c_3 => ?_) (fun c_3 => ?_)
        · exact absurd (Int32.lt_iff_toInt_lt.mp c_3) (by rw [show (0 : Int32).toInt = 0 by decide]; omega)
        · refine lv_aload_n hx hb dL_law_304 rfl (lv_at hl 9 rfl) ?_
          refine lv_iload hx hb dL_law_305 (lv_at hl 3 rfl) ?_
          refine z_backR1 (z_runV ⟨hx, hb, hml, hown, hT⟩ (rest := []) (As := [.int (nI j)]) (c_X3_paid_ok (G := G) (MI := MI) (MJ := MJ) (XI := XI2) (XJ := XJ2) l hI j hj hN) k_L_50 (z_preRV hK hP (hP.at (hI.1 13 (by decide)) rfl) rfl) rfl ⟨by omega, by omega⟩ hl.1 rfl (Nat.le_of_ble_eq_true rfl) dL_law_307 ⟨by omega, by omega⟩) ?_
          refine lv_iload hx hb dL_law_310 (lv_at hl 0 rfl) ?_
          refine lv_icmp_ne (tgt := 343) hx hb dL_law_312 (by decide) (fun c_4 => ?_) (fun c_4 => ?_)
          · exact absurd q11b c_4
          · refine lv_aload_n hx hb dL_law_315 rfl (lv_at hl 9 rfl) ?_
            refine lv_iload hx hb dL_law_316 (lv_at hl 3 rfl) ?_
            refine z_backR1 (z_runV ⟨hx, hb, hml, hown, hT⟩ (rest := []) (As := [.int (nI j)]) (c_X3_stateOf_ok (G := G) (MI := MI) (MJ := MJ) (XI := XI2) (XJ := XJ2) l hI j hj hN) k_L_41 (z_preRV hK hP (hP.at (hI.1 13 (by decide)) rfl) rfl) rfl ⟨by omega, by omega⟩ hl.1 rfl (Nat.le_of_ble_eq_true rfl) dL_law_318 ⟨by omega, by omega⟩) ?_
            refine lv_iconst (v := 2) hx hb dL_law_321 (by decide) ?_
            refine lv_icmp_ne (tgt := 343) hx hb dL_law_322 (by decide) (fun c_5 => ?_) (fun c_5 => ?_)
            · exact absurd q15 c_5
            · refine lv_aload_n hx hb dL_law_325 rfl (lv_at hl 9 rfl) ?_
              refine z_backR1 (z_runV ⟨hx, hb, hml, hown, hT⟩ (rest := []) (As := []) (c_X3_assets (G := G) (MI := MI) (MJ := MJ) (XI := XI2) (XJ := XJ2) l hI ) k_L_27 (z_preRV hK hP (hP.at (hI.1 13 (by decide)) rfl) rfl) rfl ⟨by omega, by omega⟩ hl.1 rfl (Nat.le_of_ble_eq_true rfl) dL_law_326 ⟨by omega, by omega⟩) ?_
              refine lv_lload hx hb dL_law_329 (lv_at hl 1 rfl) ?_
              refine lv_iload hx hb dL_law_331 (lv_at hl 0 rfl) ?_
              refine lv_i2l hx hb dL_law_333 rfl ?_
              refine lv_lsub hx hb dL_law_334 ?_
              refine z_lcmp_ne (tgt := 343) hx hb dL_law_335 dL_law_336 (by decide) (fun c_6 => ?_) (fun c_6 => ?_)
              · exact absurd q41 c_6
              · refine lv_iconst (v := 1) hx hb dL_law_339 (by decide) ?_
                refine lv_goto (tgt := 344) hx hb dL_law_340 (by decide) ?_
                refine lv_istore_n (lv' := [(2, .int 1), (12, .int w1), (10, .long (XJ 4 1)), (9, .int w1), (7, .int (nI j)), (6, .int (nI np)), (5, .int v), (4, .int (nI n)), (3, .int tu), (1, .ref (ad 13)), (0, .ref b)]) hx hb dL_law_344 rfl hl (by decide) rfl (fun ls hl => ?_)
                refine lv_goto (tgt := 641) hx hb dL_law_345 (by decide) ?_
                exact W.widen (by omega) (by omega) (kk ad Rs np ng G MI MJ XI2 XJ2 _ H locs ls hI hall hD hP hS hs2 (lv_sub hl [7, 8, 0, 9, 10] rfl))
  · refine z_backW1 (z_runY ⟨hx, hb, hml, hown, hT⟩ (rest := []) (As := [.ref (ad 13), .int (nI j)]) (k := 2) (index := 90) (w_worth_x l hI (c_X3_worth_no (D := D) (ks := ks) (G := G) (MI := MI) (MJ := MJ) (XI := XI) (XJ := XJ) l hst hI j hj hN hGj hc) H.size) cw_yL_worth ml_L_90 sm_yL_worth in_L ⟨by decide, by decide, by decide +kernel⟩ (z_preY hK hZ hUn hS hP) rfl ⟨by omega, by omega⟩ hl.1 rfl (Nat.le_of_ble_eq_true rfl) dL_law_266 ⟨by omega, by omega⟩) hS (hD.free (fun q hq => Nat.le_trans hS.1 hq)) (fun H locs hP hz hk2 hS => ?_)
    refine lv_istore (lv' := [(9, .int (-3)), (7, .int (nI j)), (6, .int (nI np)), (5, .int v), (4, .int (nI n)), (3, .int tu), (2, .int 1), (1, .ref (ad 13)), (0, .ref b)]) hx hb dL_law_269 hl (by decide) rfl (fun ls hl => ?_)
    refine lv_aload_n hx hb dL_law_271 rfl (lv_at hl 7 rfl) ?_
    refine z_backR1 (z_runV ⟨hx, hb, hml, hown, hT⟩ (rest := []) (As := []) (c_X3_assets (G := G) (MI := MI) (MJ := MJ) (XI := XI) (XJ := XJ) l hI ) k_L_27 (z_preRV hK hP (hP.at (hI.1 13 (by decide)) rfl) rfl) rfl ⟨by omega, by omega⟩ hl.1 rfl (Nat.le_of_ble_eq_true rfl) dL_law_272 ⟨by omega, by omega⟩) ?_
    refine lv_lstore (lv' := [(10, .long (XJ 4 1)), (9, .int (-3)), (7, .int (nI j)), (6, .int (nI np)), (5, .int v), (4, .int (nI n)), (3, .int tu), (2, .int 1), (1, .ref (ad 13)), (0, .ref b)]) hx hb dL_law_275 hl (by decide) rfl (fun ls hl => ?_)
    refine lv_aload_n hx hb dL_law_277 rfl (lv_at hl 8 rfl) ?_
    refine lv_iload hx hb dL_law_278 (lv_at hl 2 rfl) ?_
    refine z_backW1 (z_runY ⟨hx, hb, hml, hown, hT⟩ (rest := []) (As := [.ref (ad 13), .int (nI j)]) (k := 2) (index := 93) (w_surrender_x l hI (c_X3_surrender_no (D := D) (ks := ks) (G := G) (MI := MI) (MJ := MJ) (XI := XI) (XJ := XJ) l hst hI j hj hN hGj hc) H.size) cw_yL_surrender ml_L_93 sm_yL_surrender in_L ⟨by decide, by decide, by decide +kernel⟩ (z_preY hK hZ hUn hS hP) rfl ⟨by omega, by omega⟩ hl.1 rfl (Nat.le_of_ble_eq_true rfl) dL_law_280 ⟨by omega, by omega⟩) hS (hD.free (fun q hq => Nat.le_trans hS.1 hq)) (fun H locs hP hz hk2 hS => ?_)
    refine lv_istore (lv' := [(12, .int (-3)), (10, .long (XJ 4 1)), (9, .int (-3)), (7, .int (nI j)), (6, .int (nI np)), (5, .int v), (4, .int (nI n)), (3, .int tu), (2, .int 1), (1, .ref (ad 13)), (0, .ref b)]) hx hb dL_law_283 hl (by decide) rfl (fun ls hl => ?_)
    refine lv_iload hx hb dL_law_285 (lv_at hl 0 rfl) ?_
    refine lv_iload hx hb dL_law_287 (lv_at hl 2 rfl) ?_
    refine lv_icmp_ne (tgt := 343) hx hb dL_law_289 (by decide) (fun c_7 => ?_) (fun c_7 => ?_)
    · exact absurd c_7 (by decide)
    · refine lv_iload hx hb dL_law_292 (lv_at hl 0 rfl) ?_
      refine lv_bipush (v := (-3)) hx hb dL_law_294 (by decide) ?_
      refine lv_icmp_eq (tgt := 339) hx hb dL_law_296 (by decide) (fun c_8 => ?_) (fun c_8 => ?_)
      · refine lv_iconst (v := 1) hx hb dL_law_339 (by decide) ?_
        refine lv_goto (tgt := 344) hx hb dL_law_340 (by decide) ?_
        refine lv_istore_n (lv' := [(2, .int 1), (12, .int (-3)), (10, .long (XJ 4 1)), (9, .int (-3)), (7, .int (nI j)), (6, .int (nI np)), (5, .int v), (4, .int (nI n)), (3, .int tu), (1, .ref (ad 13)), (0, .ref b)]) hx hb dL_law_344 rfl hl (by decide) rfl (fun ls hl => ?_)
        refine lv_goto (tgt := 641) hx hb dL_law_345 (by decide) ?_
        exact W.widen (by omega) (by omega) (kk ad Rs np ng G MI MJ XI XJ _ H locs ls hI hall hD hP hS hs (lv_sub hl [7, 8, 0, 9, 10] rfl))
      · exact absurd c_8 (by decide)
end ZB1
