/-! what is written: funds, a policy that leaves; the reference likewise -/
section ZW1
variable {D : va_G} {ks : Nat → ClassId} {ad : Nat → Nat} {np ng : Nat} {G : Nat → Nat} {MI : Nat → Nat → Int32} {MJ : Nat → Nat → Int64} {XI : Nat → Nat → Int32} {XJ : Nat → Nat → Int64} {Rs : List Nat}
def fChg (a ch : Int64) : Int64 := if 0 < a then fThou a ch else 0
def fRel (a : Int64) (p : Int32) (P : Int64) : Int64 := if 0 < P - Int32.toInt64 p then fShare a p P else a
set_option maxHeartbeats 4000000 in
set_option maxRecDepth 100000 in
theorem c_X0_earn (l : Launch) (hD0 : zD (fun _ => True) Rs ad) {g : Nat → va_E} (r : Nat) (hr1 : r ∈ Rs) (a : Int64) (he : g r = .inr (0, [.long a])) (rt : Int32) (sz : Nat) : zMW l yX0_earn cX0_earn 4 ((some .long)) 2 (48) 0 0 D ks sz [.ref (ad r), .int rt] (zP D Rs ad g) (some (.long (fThou a (Int32.toInt64 rt)))) (zP D Rs ad (va_up g r (.inr (0, [.long (a + fThou a (Int32.toInt64 rt))])))) (zA Rs ad sz) := by
  refine zMW.of (by decide +kernel) (Nat.le_of_ble_eq_true rfl) ?_
  intro p e s m below meth c ls hx hb hr hml hown hlk hT hsz hP hK hl hin
  have hl : lv_has ls 4 [(0, .ref (ad r)), (1, .int rt)] := hl
  subst hsz
  have hD := hD0.self (sz := s.heap.size)
  have hA : ∀ q : Nat, s.heap.size ≤ q → zA Rs ad s.heap.size q := fun q h => Or.inr h
  have hS : va_S (zA Rs ad s.heap.size) s.heap s.heap [] := va_S.rf
  refine lv_aload_n hx hb dX0_earn_0 rfl (lv_at hl 0 rfl) ?_
  refine gf_X0_7 hx hb hT hown hK (hP.at hr1 he) rfl dX0_earn_1 ?_
  refine lv_iload_n hx hb dX0_earn_4 rfl (lv_at hl 1 rfl) ?_
  refine lv_i2l hx hb dX0_earn_5 rfl ?_
  refine z_backR1 (z_runSN ⟨hx, hb, hml, hown, hT⟩ hK (rest := []) (As := [.long a, .long (Int32.toInt64 rt)]) (c_X3_thousandths l D ks a (Int32.toInt64 rt) ) k_X0_13 (z_preR hK trivial) rfl ⟨Nat.le_of_ble_eq_true rfl, Nat.le_of_ble_eq_true rfl⟩ hl.1 rfl (Nat.le_of_ble_eq_true rfl) dX0_earn_6 ⟨Nat.le_of_ble_eq_true rfl, Nat.le_of_ble_eq_true rfl⟩) ?_
  refine lv_lstore_n (lv' := [(2, .long (fThou a (Int32.toInt64 rt))), (0, .ref (ad r)), (1, .int rt)]) hx hb dX0_earn_9 rfl hl (by decide) rfl (fun ls hl => ?_)
  refine lv_aload_n hx hb dX0_earn_10 rfl (lv_at hl 1 rfl) ?_
  refine lv_dup hx hb dX0_earn_11 rfl ?_
  refine gf_X0_7 hx hb hT hown hK (hP.at hr1 he) rfl dX0_earn_12 ?_
  refine lv_lload_n hx hb dX0_earn_15 rfl (lv_at hl 0 rfl) ?_
  refine lv_ladd hx hb dX0_earn_16 ?_
  refine pg_X0_7 hx hb hT hown hK hP hD hS hr1 (v := a + (fThou a (Int32.toInt64 rt))) he (Nat.le_of_ble_eq_true rfl) dX0_earn_17 (fun H locs hP hS => ?_)
  refine lv_lload_n hx hb dX0_earn_20 rfl (lv_at hl 0 rfl) ?_
  exact zW_l hx hb hr hlk hS (Nat.le_of_ble_eq_true rfl) (Nat.le_of_ble_eq_true rfl) dX0_earn_21 (rfl) (hP)
set_option maxHeartbeats 4000000 in
set_option maxRecDepth 100000 in
theorem c_X0_takeCharge (l : Launch) (hD0 : zD (fun _ => True) Rs ad) {g : Nat → va_E} (r : Nat) (hr1 : r ∈ Rs) (a : Int64) (he : g r = .inr (0, [.long a])) (ch : Int32) (sz : Nat) : zMW l yX0_takeCharge cX0_takeCharge 4 ((some .long)) 2 (48) 0 0 D ks sz [.ref (ad r), .int ch] (zP D Rs ad g) (some (.long (fChg a (Int32.toInt64 ch)))) (zP D Rs ad (va_up g r (.inr (0, [.long (a - fChg a (Int32.toInt64 ch))])))) (zA Rs ad sz) := by
  refine zMW.of (by decide +kernel) (Nat.le_of_ble_eq_true rfl) ?_
  intro p e s m below meth c ls hx hb hr hml hown hlk hT hsz hP hK hl hin
  have hl : lv_has ls 4 [(0, .ref (ad r)), (1, .int ch)] := hl
  subst hsz
  have hD := hD0.self (sz := s.heap.size)
  have hA : ∀ q : Nat, s.heap.size ≤ q → zA Rs ad s.heap.size q := fun q h => Or.inr h
  have hS : va_S (zA Rs ad s.heap.size) s.heap s.heap [] := va_S.rf
  refine lv_aload_n hx hb dX0_takeCharge_0 rfl (lv_at hl 0 rfl) ?_
  refine gf_X0_7 hx hb hT hown hK (hP.at hr1 he) rfl dX0_takeCharge_1 ?_
  refine lv_lconst (v := 0) hx hb dX0_takeCharge_4 (by decide) ?_
  refine z_lcmp_le (tgt := 21) hx hb dX0_takeCharge_5 dX0_takeCharge_6 (by decide) (fun c_1 => ?_) (fun c_1 => ?_)
  · refine lv_lconst (v := 0) hx hb dX0_takeCharge_21 (by decide) ?_
    refine lv_lstore_n (lv' := [(2, .long 0), (0, .ref (ad r)), (1, .int ch)]) hx hb dX0_takeCharge_22 rfl hl (by decide) rfl (fun ls hl => ?_)
    refine lv_aload_n hx hb dX0_takeCharge_23 rfl (lv_at hl 1 rfl) ?_
    refine lv_dup hx hb dX0_takeCharge_24 rfl ?_
    refine gf_X0_7 hx hb hT hown hK (hP.at hr1 he) rfl dX0_takeCharge_25 ?_
    refine lv_lload_n hx hb dX0_takeCharge_28 rfl (lv_at hl 0 rfl) ?_
    refine lv_lsub hx hb dX0_takeCharge_29 ?_
    refine pg_X0_7 hx hb hT hown hK hP hD hS hr1 (v := a - 0) he (Nat.le_of_ble_eq_true rfl) dX0_takeCharge_30 (fun H locs hP hS => ?_)
    refine lv_lload_n hx hb dX0_takeCharge_33 rfl (lv_at hl 0 rfl) ?_
    exact zW_l hx hb hr hlk hS (Nat.le_of_ble_eq_true rfl) (Nat.le_of_ble_eq_true rfl) dX0_takeCharge_34 ((if_neg c_1).symm) (by rw [show fChg a (Int32.toInt64 ch) = _ from if_neg c_1]; exact hP)
  · refine lv_aload_n hx hb dX0_takeCharge_9 rfl (lv_at hl 0 rfl) ?_
    refine gf_X0_7 hx hb hT hown hK (hP.at hr1 he) rfl dX0_takeCharge_10 ?_
    refine lv_iload_n hx hb dX0_takeCharge_13 rfl (lv_at hl 1 rfl) ?_
    refine lv_i2l hx hb dX0_takeCharge_14 rfl ?_
    refine z_backR1 (z_runSN ⟨hx, hb, hml, hown, hT⟩ hK (rest := []) (As := [.long a, .long (Int32.toInt64 ch)]) (c_X3_thousandths l D ks a (Int32.toInt64 ch) ) k_X0_13 (z_preR hK trivial) rfl ⟨Nat.le_of_ble_eq_true rfl, Nat.le_of_ble_eq_true rfl⟩ hl.1 rfl (Nat.le_of_ble_eq_true rfl) dX0_takeCharge_15 ⟨Nat.le_of_ble_eq_true rfl, Nat.le_of_ble_eq_true rfl⟩) ?_
    refine lv_goto (tgt := 22) hx hb dX0_takeCharge_18 (by decide) ?_
    refine lv_lstore_n (lv' := [(2, .long (fThou a (Int32.toInt64 ch))), (0, .ref (ad r)), (1, .int ch)]) hx hb dX0_takeCharge_22 rfl hl (by decide) rfl (fun ls hl => ?_)
    refine lv_aload_n hx hb dX0_takeCharge_23 rfl (lv_at hl 1 rfl) ?_
    refine lv_dup hx hb dX0_takeCharge_24 rfl ?_
    refine gf_X0_7 hx hb hT hown hK (hP.at hr1 he) rfl dX0_takeCharge_25 ?_
    refine lv_lload_n hx hb dX0_takeCharge_28 rfl (lv_at hl 0 rfl) ?_
    refine lv_lsub hx hb dX0_takeCharge_29 ?_
    refine pg_X0_7 hx hb hT hown hK hP hD hS hr1 (v := a - (fThou a (Int32.toInt64 ch))) he (Nat.le_of_ble_eq_true rfl) dX0_takeCharge_30 (fun H locs hP hS => ?_)
    refine lv_lload_n hx hb dX0_takeCharge_33 rfl (lv_at hl 0 rfl) ?_
    exact zW_l hx hb hr hlk hS (Nat.le_of_ble_eq_true rfl) (Nat.le_of_ble_eq_true rfl) dX0_takeCharge_34 ((if_pos c_1).symm) (by rw [show fChg a (Int32.toInt64 ch) = _ from if_pos c_1]; exact hP)
set_option maxHeartbeats 4000000 in
set_option maxRecDepth 100000 in
theorem c_X1_release (l : Launch) (hD0 : zD (fun _ => True) Rs ad) (hI : zIn Rs np ng) (i : Nat) (p0 : Int32) (hi : i < ng) (sz : Nat) : zMW l yX1_release cX1_release 4 ((some .long)) 2 (44) 0 0 D ks sz [.ref (ad (20 + 4 * i)), .int p0] (zP D Rs ad (gS ks ad np ng G MI MJ XI XJ)) (some (.long (fRel (XJ 8 i) p0 (XJ 7 i)))) (zP D Rs ad (gS ks ad np ng G MI MJ XI (u2 (u2 XJ 7 i ((XJ 7 i) - Int32.toInt64 p0)) 8 i ((XJ 8 i) - fRel (XJ 8 i) p0 (XJ 7 i))))) (zA Rs ad sz) := by
  refine zMW.of (by decide +kernel) (Nat.le_of_ble_eq_true rfl) ?_
  intro p e s m below meth c ls hx hb hr hml hown hlk hT hsz hP hK hl hin
  have hl : lv_has ls 4 [(0, .ref (ad (20 + 4 * i))), (1, .int p0)] := hl
  subst hsz
  have hD := hD0.self (sz := s.heap.size)
  have hA : ∀ q : Nat, s.heap.size ≤ q → zA Rs ad s.heap.size q := fun q h => Or.inr h
  have hS : va_S (zA Rs ad s.heap.size) s.heap s.heap [] := va_S.rf
  refine lv_aload_n hx hb dX1_release_0 rfl (lv_at hl 0 rfl) ?_
  refine lv_iload_n hx hb dX1_release_1 rfl (lv_at hl 1 rfl) ?_
  refine z_backR1 (z_runV ⟨hx, hb, hml, hown, hT⟩ (rest := []) (As := [.int p0]) (c_X1_shareFor (MI := MI) (MJ := MJ) (XI := XI) (XJ := XJ) l hI i p0 (hi)) k_X1_36 (z_preRV hK hP (hP.at (hI.2.1 i hi).1 gS_0) rfl) rfl ⟨Nat.le_of_ble_eq_true rfl, Nat.le_of_ble_eq_true rfl⟩ hl.1 rfl (Nat.le_of_ble_eq_true rfl) dX1_release_2 ⟨Nat.le_of_ble_eq_true rfl, Nat.le_of_ble_eq_true rfl⟩) ?_
  refine lv_lstore_n (lv' := [(2, .long (fShare (XJ 8 i) p0 (XJ 7 i))), (0, .ref (ad (20 + 4 * i))), (1, .int p0)]) hx hb dX1_release_5 rfl hl (by decide) rfl (fun ls hl => ?_)
  refine lv_aload_n hx hb dX1_release_6 rfl (lv_at hl 1 rfl) ?_
  refine lv_dup hx hb dX1_release_7 rfl ?_
  refine gf_X1_27 hx hb hT hown hK (hP.at (hI.2.1 i hi).1 gS_0) rfl dX1_release_8 ?_
  refine lv_iload_n hx hb dX1_release_11 rfl (lv_at hl 2 rfl) ?_
  refine lv_i2l hx hb dX1_release_12 rfl ?_
  refine lv_lsub hx hb dX1_release_13 ?_
  refine pf_X1_27 hx hb hT hown hK hP hD hS (hI.2.1 i hi).1 (v := (XJ 7 i) - (Int32.toInt64 p0)) dX1_release_14 (fun H locs hP hS => ?_)
  refine lv_aload_n hx hb dX1_release_17 rfl (lv_at hl 1 rfl) ?_
  refine gf_X1_27 hx hb hT hown hK (v := .long ((XJ 7 i) - (Int32.toInt64 p0))) (hP.at (hI.2.1 i hi).1 gS_0) (congrArg (fun z => some (Value.long z)) (u2_s (F := XJ) (k := 7) (i := i) (v := (XJ 7 i) - (Int32.toInt64 p0)))) dX1_release_18 ?_
  refine lv_lconst (v := 0) hx hb dX1_release_21 (by decide) ?_
  refine z_lcmp_gt (tgt := 34) hx hb dX1_release_22 dX1_release_23 (by decide) (fun c_1 => ?_) (fun c_1 => ?_)
  · refine lv_aload_n hx hb dX1_release_34 rfl (lv_at hl 1 rfl) ?_
    refine gf_X1_19 hx hb hT hown hK (v := .ref (ad (21 + 4 * i))) (hP.at (hI.2.1 i hi).1 gS_0) rfl dX1_release_35 ?_
    refine lv_dup hx hb dX1_release_38 rfl ?_
    refine gf_X1_23 hx hb hT hown hK (v := .long (XJ 8 i)) (hP.at (hI.2.1 i hi).2 gS_1) rfl dX1_release_39 ?_
    refine lv_lload_n hx hb dX1_release_42 rfl (lv_at hl 0 rfl) ?_
    refine lv_lsub hx hb dX1_release_43 ?_
    refine pf_X1_23 hx hb hT hown hK hP hD hS (hI.2.1 i hi).2 (v := (XJ 8 i) - (fShare (XJ 8 i) p0 (XJ 7 i))) dX1_release_44 (fun H locs hP hS => ?_)
    refine lv_lload_n hx hb dX1_release_47 rfl (lv_at hl 0 rfl) ?_
    exact zW_l hx hb hr hlk hS (Nat.le_of_ble_eq_true rfl) (Nat.le_of_ble_eq_true rfl) dX1_release_48 (by exact (if_pos c_1).symm) (by rw [show fRel (XJ 8 i) p0 (XJ 7 i) = _ from if_pos c_1]; exact hP)
  · refine lv_aload_n hx hb dX1_release_26 rfl (lv_at hl 1 rfl) ?_
    refine gf_X1_19 hx hb hT hown hK (v := .ref (ad (21 + 4 * i))) (hP.at (hI.2.1 i hi).1 gS_0) rfl dX1_release_27 ?_
    refine gf_X1_23 hx hb hT hown hK (v := .long (XJ 8 i)) (hP.at (hI.2.1 i hi).2 gS_1) rfl dX1_release_30 ?_
    refine lv_lstore_n (lv' := [(2, .long (XJ 8 i)), (0, .ref (ad (20 + 4 * i))), (1, .int p0)]) hx hb dX1_release_33 rfl hl (by decide) rfl (fun ls hl => ?_)
    refine lv_aload_n hx hb dX1_release_34 rfl (lv_at hl 1 rfl) ?_
    refine gf_X1_19 hx hb hT hown hK (v := .ref (ad (21 + 4 * i))) (hP.at (hI.2.1 i hi).1 gS_0) rfl dX1_release_35 ?_
    refine lv_dup hx hb dX1_release_38 rfl ?_
    refine gf_X1_23 hx hb hT hown hK (v := .long (XJ 8 i)) (hP.at (hI.2.1 i hi).2 gS_1) rfl dX1_release_39 ?_
    refine lv_lload_n hx hb dX1_release_42 rfl (lv_at hl 0 rfl) ?_
    refine lv_lsub hx hb dX1_release_43 ?_
    refine pf_X1_23 hx hb hT hown hK hP hD hS (hI.2.1 i hi).2 (v := (XJ 8 i) - (XJ 8 i)) dX1_release_44 (fun H locs hP hS => ?_)
    refine lv_lload_n hx hb dX1_release_47 rfl (lv_at hl 0 rfl) ?_
    exact zW_l hx hb hr hlk hS (Nat.le_of_ble_eq_true rfl) (Nat.le_of_ble_eq_true rfl) dX1_release_48 (by exact (if_neg c_1).symm) (by rw [show fRel (XJ 8 i) p0 (XJ 7 i) = _ from if_neg c_1]; exact hP)
set_option maxHeartbeats 4000000 in
set_option maxRecDepth 100000 in
theorem c_X3_close (l : Launch) (hD0 : zD (fun _ => True) Rs ad) (hI : zIn Rs np ng) (j : Nat) (stt : Int32) (pay : Int64) (hj : j < np) (hG : G j < ng) (sz : Nat) : zMW l yX3_close cX3_close 5 ((none : Option FieldType)) 3 (67) 0 0 D ks sz [.ref (ad 13), .ref (ad (22 + 4 * j)), .int stt, .long pay] (zP D Rs ad (gS ks ad np ng G MI MJ XI XJ)) none (zP D Rs ad (gS ks ad np ng G MI MJ (u2 XI 15 j stt) (u2 (u2 (u2 (u2 (u2 XJ 7 (G j) ((XJ 7 (G j)) - Int32.toInt64 (XI 13 j))) 8 (G j) ((XJ 8 (G j)) - fRel (XJ 8 (G j)) (XI 13 j) (XJ 7 (G j)))) 4 0 ((XJ 4 0) + (fRel (XJ 8 (G j)) (XI 13 j) (XJ 7 (G j)) - pay))) 4 1 ((XJ 4 1) - pay)) 11 j pay))) (zA Rs ad sz) := by
  refine zMW.of (by decide +kernel) (Nat.le_of_ble_eq_true rfl) ?_
  intro p e s m below meth c ls hx hb hr hml hown hlk hT hsz hP hK hl hin
  have hl : lv_has ls 5 [(0, .ref (ad 13)), (1, .ref (ad (22 + 4 * j))), (2, .int stt), (3, .long pay)] := hl
  subst hsz
  have hD := hD0.self (sz := s.heap.size)
  have hA : ∀ q : Nat, s.heap.size ≤ q → zA Rs ad s.heap.size q := fun q h => Or.inr h
  have hS : va_S (zA Rs ad s.heap.size) s.heap s.heap [] := va_S.rf
  refine lv_aload_n hx hb dX3_close_0 rfl (lv_at hl 0 rfl) ?_
  refine lv_dup hx hb dX3_close_1 rfl ?_
  refine gf_X3_101 hx hb hT hown hK (hP.at (hI.1 13 (by decide)) rfl) rfl dX3_close_2 ?_
  refine lv_aload_n hx hb dX3_close_5 rfl (lv_at hl 1 rfl) ?_
  refine gf_X3_192 hx hb hT hown hK (hP.at (hI.2.2 j hj).1 gS_2) rfl dX3_close_6 ?_
  refine lv_aload_n hx hb dX3_close_9 rfl (lv_at hl 1 rfl) ?_
  refine gf_X3_218 hx hb hT hown hK (hP.at (hI.2.2 j hj).1 gS_2) rfl dX3_close_10 ?_
  refine z_backW1 (z_runVN ⟨hx, hb, hml, hown, hT⟩ hK (rest := [.long (XJ 4 0), .ref (ad 13)]) (As := [.int (XI 13 j)]) (c_X1_release (MI := MI) (MJ := MJ) (XI := XI) (XJ := XJ) l hD0 hI (G j) (XI 13 j) (hG) _) k_X3_239 (z_preWV hK hP (hP.at (hI.2.1 (G j) hG).1 gS_0) rfl) rfl ⟨Nat.le_of_ble_eq_true rfl, Nat.le_of_ble_eq_true rfl⟩ hl.1 rfl (Nat.le_of_ble_eq_true rfl) dX3_close_13 ⟨Nat.le_of_ble_eq_true rfl, Nat.le_of_ble_eq_true rfl⟩) hS (hD.free (fun q hq => hA q (Nat.le_trans hS.1 hq))) (fun H locs hP hz1 hk1 hS => ?_)
  have hP : zP D Rs ad (gS ks ad np ng G MI MJ XI (u2 (u2 XJ 7 (G j) ((XJ 7 (G j)) - Int32.toInt64 (XI 13 j))) 8 (G j) ((XJ 8 (G j)) - fRel (XJ 8 (G j)) (XI 13 j) (XJ 7 (G j))))) H := hP
  refine lv_lload_n hx hb dX3_close_16 rfl (lv_at hl 3 rfl) ?_
  refine lv_lsub hx hb dX3_close_17 ?_
  refine lv_ladd hx hb dX3_close_18 ?_
  refine lv_topl (fun v1 ev1 => ?_)
  refine pf_X3_101 hx hb hT hown hK hP hD hS (hI.1 13 (by decide)) (v := v1) dX3_close_19 (fun H locs hP hS => ?_)
  refine lv_aload_n hx hb dX3_close_22 rfl (lv_at hl 0 rfl) ?_
  refine lv_dup hx hb dX3_close_23 rfl ?_
  refine gf_X3_105 hx hb hT hown hK (v := .long (XJ 4 1)) (hP.at (hI.1 13 (by decide)) rfl) rfl dX3_close_24 ?_
  refine lv_lload_n hx hb dX3_close_27 rfl (lv_at hl 3 rfl) ?_
  refine lv_lsub hx hb dX3_close_28 ?_
  refine pf_X3_105 hx hb hT hown hK hP hD hS (hI.1 13 (by decide)) (v := (XJ 4 1) - pay) dX3_close_29 (fun H locs hP hS => ?_)
  refine lv_aload_n hx hb dX3_close_32 rfl (lv_at hl 1 rfl) ?_
  refine lv_iload_n hx hb dX3_close_33 rfl (lv_at hl 2 rfl) ?_
  refine pf_X3_133 hx hb hT hown hK hP hD hS (hI.2.2 j hj).1 (v := stt) dX3_close_34 (fun H locs hP hS => ?_)
  refine lv_aload_n hx hb dX3_close_37 rfl (lv_at hl 1 rfl) ?_
  refine lv_lload_n hx hb dX3_close_38 rfl (lv_at hl 3 rfl) ?_
  refine pf_X3_164 hx hb hT hown hK hP hD hS (hI.2.2 j hj).1 (v := pay) dX3_close_39 (fun H locs hP hS => ?_)
  exact zW_v hx hb hr hlk hS (Nat.le_of_ble_eq_true rfl) (Nat.le_of_ble_eq_true rfl) dX3_close_42 (by subst ev1; exact hP)
def isP (q : Int32) (np : Nat) : Int32 := fIn q 0 (nI np - 1)
def lvJ (z : Int64) (MJ : Nat → Nat → Int64) (h : Nat) (sh : Int64) (pay : Int32) : Nat → Nat → Int64 :=
  if z = 0 then u2 (u2 (u2 (u2 (u2 MJ 2 h (MJ 2 h - sh)) 0 0 (MJ 0 0 + (sh - Int32.toInt64 pay))) 0 1 (MJ 0 1 - Int32.toInt64 pay)) 0 0 (MJ 0 0 + (sh - Int32.toInt64 pay) + (MJ 2 h - sh))) 2 h 0
  else u2 (u2 (u2 MJ 2 h (MJ 2 h - sh)) 0 0 (MJ 0 0 + (sh - Int32.toInt64 pay))) 0 1 (MJ 0 1 - Int32.toInt64 pay)
end ZW1
