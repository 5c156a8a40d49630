/-! the reference: its calls but the year -/
section ZM2
variable {D : va_G} {ks : Nat → ClassId} {ad : Nat → Nat} {np ng : Nat} {G : Nat → Nat} {MI : Nat → Nat → Int32} {MJ : Nat → Nat → Int64} {XI : Nat → Nat → Int32} {XJ : Nat → Nat → Int64} {Rs : List Nat}
set_option maxHeartbeats 4000000 in
set_option maxRecDepth 100000 in
theorem c_X4_isPolicy_ok (l : Launch) (hD0 : zD (fun _ => True) Rs ad) (hI : zIn Rs np ng) (q : Int32) (hq : fIn q 0 (MI 0 6 - 1) = 1) (sz : Nat) : zMW l yX4_isPolicy cX4_isPolicy 2 ((some .boolean)) 1 (22) 0 0 D ks sz [.ref (ad 0), .int q] (zP D Rs ad (gS ks ad np ng G MI MJ XI XJ)) (some (.int (1))) (zP D Rs ad (gS ks ad np ng G (u2 MI 0 7 0) MJ XI XJ)) (zA Rs ad sz) := by
  refine zMW.of (by decide +kernel) (Nat.le_of_ble_eq_true rfl) ?_
  intro p e s m below meth c ls hx hb hr hml hown hlk hT hsz hP hK hl hin
  have hl : lv_has ls 2 [(0, .ref (ad 0)), (1, .int q)] := hl
  subst hsz
  have hD := hD0.self (sz := s.heap.size)
  have hA : ∀ q : Nat, s.heap.size ≤ q → zA Rs ad s.heap.size q := fun q h => Or.inr h
  have hS : va_S (zA Rs ad s.heap.size) s.heap s.heap [] := va_S.rf
  refine lv_aload_n hx hb dX4_isPolicy_0 rfl (lv_at hl 0 rfl) ?_
  refine lv_iload_n hx hb dX4_isPolicy_1 rfl (lv_at hl 1 rfl) ?_
  refine lv_iconst (v := 0) hx hb dX4_isPolicy_2 (by decide) ?_
  refine lv_aload_n hx hb dX4_isPolicy_3 rfl (lv_at hl 0 rfl) ?_
  refine gf_X4_63 hx hb hT hown hK (hP.at (hI.1 0 (by decide)) rfl) rfl dX4_isPolicy_4 ?_
  refine lv_iconst (v := 1) hx hb dX4_isPolicy_7 (by decide) ?_
  refine lv_isub hx hb dX4_isPolicy_8 ?_
  refine z_backR1 (z_runS ⟨hx, hb, hml, hown, hT⟩ (rest := [.ref (ad 0)]) (As := [.int q, .int 0, .int ((MI 0 6) - 1)]) (c_X4_in l D ks q 0 ((MI 0 6) - 1) ) k_X4_66 (z_preR hK trivial) rfl ⟨Nat.le_of_ble_eq_true rfl, Nat.le_of_ble_eq_true rfl⟩ hl.1 rfl (Nat.le_of_ble_eq_true rfl) dX4_isPolicy_9 ⟨Nat.le_of_ble_eq_true rfl, Nat.le_of_ble_eq_true rfl⟩) ?_
  refine lv_if_eq (tgt := 19) hx hb dX4_isPolicy_12 (by decide) (fun c_1 => ?_) (fun c_1 => ?_)
  · exact absurd ((hq).symm.trans c_1) (by decide)
  · refine lv_iconst (v := 0) hx hb dX4_isPolicy_15 (by decide) ?_
    refine lv_goto (tgt := 20) hx hb dX4_isPolicy_16 (by decide) ?_
    refine pf_X4_60 hx hb hT hown hK hP hD hS (hI.1 0 (by decide)) (v := 0) dX4_isPolicy_20 (fun H locs hP hS => ?_)
    refine lv_aload_n hx hb dX4_isPolicy_23 rfl (lv_at hl 0 rfl) ?_
    refine gf_X4_60 hx hb hT hown hK (v := .int 0) (hP.at (hI.1 0 (by decide)) rfl) rfl dX4_isPolicy_24 ?_
    refine lv_if_ne (tgt := 34) hx hb dX4_isPolicy_27 (by decide) (fun c_2 => ?_) (fun c_2 => ?_)
    · exact absurd c_2 (by decide)
    · refine lv_iconst (v := 1) hx hb dX4_isPolicy_30 (by decide) ?_
      refine lv_goto (tgt := 35) hx hb dX4_isPolicy_31 (by decide) ?_
      exact zW_z hx hb hr hlk hS (Nat.le_of_ble_eq_true rfl) (Nat.le_of_ble_eq_true rfl) dX4_isPolicy_35 (rfl) (rfl) (hP)
set_option maxHeartbeats 4000000 in
set_option maxRecDepth 100000 in
theorem c_X4_isPolicy_bad (l : Launch) (hD0 : zD (fun _ => True) Rs ad) (hI : zIn Rs np ng) (q : Int32) (hq : fIn q 0 (MI 0 6 - 1) = 0) (sz : Nat) : zMW l yX4_isPolicy cX4_isPolicy 2 ((some .boolean)) 1 (22) 0 0 D ks sz [.ref (ad 0), .int q] (zP D Rs ad (gS ks ad np ng G MI MJ XI XJ)) (some (.int (0))) (zP D Rs ad (gS ks ad np ng G (u2 MI 0 7 1) MJ XI XJ)) (zA Rs ad sz) := by
  refine zMW.of (by decide +kernel) (Nat.le_of_ble_eq_true rfl) ?_
  intro p e s m below meth c ls hx hb hr hml hown hlk hT hsz hP hK hl hin
  have hl : lv_has ls 2 [(0, .ref (ad 0)), (1, .int q)] := hl
  subst hsz
  have hD := hD0.self (sz := s.heap.size)
  have hA : ∀ q : Nat, s.heap.size ≤ q → zA Rs ad s.heap.size q := fun q h => Or.inr h
  have hS : va_S (zA Rs ad s.heap.size) s.heap s.heap [] := va_S.rf
  refine lv_aload_n hx hb dX4_isPolicy_0 rfl (lv_at hl 0 rfl) ?_
  refine lv_iload_n hx hb dX4_isPolicy_1 rfl (lv_at hl 1 rfl) ?_
  refine lv_iconst (v := 0) hx hb dX4_isPolicy_2 (by decide) ?_
  refine lv_aload_n hx hb dX4_isPolicy_3 rfl (lv_at hl 0 rfl) ?_
  refine gf_X4_63 hx hb hT hown hK (hP.at (hI.1 0 (by decide)) rfl) rfl dX4_isPolicy_4 ?_
  refine lv_iconst (v := 1) hx hb dX4_isPolicy_7 (by decide) ?_
  refine lv_isub hx hb dX4_isPolicy_8 ?_
  refine z_backR1 (z_runS ⟨hx, hb, hml, hown, hT⟩ (rest := [.ref (ad 0)]) (As := [.int q, .int 0, .int ((MI 0 6) - 1)]) (c_X4_in l D ks q 0 ((MI 0 6) - 1) ) k_X4_66 (z_preR hK trivial) rfl ⟨Nat.le_of_ble_eq_true rfl, Nat.le_of_ble_eq_true rfl⟩ hl.1 rfl (Nat.le_of_ble_eq_true rfl) dX4_isPolicy_9 ⟨Nat.le_of_ble_eq_true rfl, Nat.le_of_ble_eq_true rfl⟩) ?_
  refine lv_if_eq (tgt := 19) hx hb dX4_isPolicy_12 (by decide) (fun c_1 => ?_) (fun c_1 => ?_)
  · refine lv_iconst (v := 1) hx hb dX4_isPolicy_19 (by decide) ?_
    refine pf_X4_60 hx hb hT hown hK hP hD hS (hI.1 0 (by decide)) (v := 1) dX4_isPolicy_20 (fun H locs hP hS => ?_)
    refine lv_aload_n hx hb dX4_isPolicy_23 rfl (lv_at hl 0 rfl) ?_
    refine gf_X4_60 hx hb hT hown hK (v := .int 1) (hP.at (hI.1 0 (by decide)) rfl) rfl dX4_isPolicy_24 ?_
    refine lv_if_ne (tgt := 34) hx hb dX4_isPolicy_27 (by decide) (fun c_2 => ?_) (fun c_2 => ?_)
    · refine lv_iconst (v := 0) hx hb dX4_isPolicy_34 (by decide) ?_
      exact zW_z hx hb hr hlk hS (Nat.le_of_ble_eq_true rfl) (Nat.le_of_ble_eq_true rfl) dX4_isPolicy_35 (rfl) (rfl) (hP)
    · exact absurd c_2 (by decide)
  · exact absurd (hq) c_1
theorem isP_j {np j : Nat} {x : Int32} (hx : x = nI np) (hj : j < np) (hN : np ≤ 30) : fIn (nI j) 0 (x - 1) = 1 := by
  subst hx
  obtain ⟨k, rfl⟩ : ∃ k, np = k + 1 := ⟨np - 1, by omega⟩
  rw [nI_pred]
  exact if_pos ⟨nI_pos' (by omega), nI_le (by omega) (by omega)⟩
set_option maxHeartbeats 4000000 in
set_option maxRecDepth 100000 in
theorem c_X4_stateOf_ok (l : Launch) (hD0 : zD (fun _ => True) Rs ad) (hI : zIn Rs np ng) (j : Nat) (hj : j < np) (hnp : MI 0 6 = nI np) (hN : np ≤ 30) (sz : Nat) : zMW l yX4_stateOf cX4_stateOf 2 ((some .int)) 2 (43) 0 0 D ks sz [.ref (ad 0), .int (nI j)] (zP D Rs ad (gS ks ad np ng G MI MJ XI XJ)) (some (.int (MI 5 j))) (zP D Rs ad (gS ks ad np ng G (u2 MI 0 7 0) MJ XI XJ)) (zA Rs ad sz) := by
  refine zMW.of (by decide +kernel) (Nat.le_of_ble_eq_true rfl) ?_
  intro p e s m below meth c ls hx hb hr hml hown hlk hT hsz hP hK hl hin
  have hl : lv_has ls 2 [(0, .ref (ad 0)), (1, .int (nI j))] := hl
  subst hsz
  have hD := hD0.self (sz := s.heap.size)
  have hA : ∀ q : Nat, s.heap.size ≤ q → zA Rs ad s.heap.size q := fun q h => Or.inr h
  have hS : va_S (zA Rs ad s.heap.size) s.heap s.heap [] := va_S.rf
  refine lv_aload_n hx hb dX4_stateOf_0 rfl (lv_at hl 0 rfl) ?_
  refine lv_iload_n hx hb dX4_stateOf_1 rfl (lv_at hl 1 rfl) ?_
  refine z_backW1 (z_runV ⟨hx, hb, hml, hown, hT⟩ (rest := []) (As := [.int (nI j)]) (c_X4_isPolicy_ok (MI := MI) (MJ := MJ) (XI := XI) (XJ := XJ) l hD0 hI (nI j) (isP_j hnp hj hN) _) k_X4_107 (z_preWV hK hP (hP.at (hI.1 0 (by decide)) rfl) rfl) rfl ⟨Nat.le_of_ble_eq_true rfl, Nat.le_of_ble_eq_true rfl⟩ hl.1 rfl (Nat.le_of_ble_eq_true rfl) dX4_stateOf_2 ⟨Nat.le_of_ble_eq_true rfl, Nat.le_of_ble_eq_true rfl⟩) hS (hD.free (fun q hq => hA q (Nat.le_trans hS.1 hq))) (fun H locs hP hz1 hk1 hS => ?_)
  have hP : zP D Rs ad (gS ks ad np ng G (u2 MI 0 7 0) MJ XI XJ) H := hP
  refine lv_if_eq (tgt := 17) hx hb dX4_stateOf_5 (by decide) (fun c_1 => ?_) (fun c_1 => ?_)
  · exact absurd ((rfl).symm.trans c_1) (by decide)
  · refine lv_aload_n hx hb dX4_stateOf_8 rfl (lv_at hl 0 rfl) ?_
    refine gf_X4_38 hx hb hT hown hK (v := .ref (ad 5)) (hP.at (hI.1 0 (by decide)) rfl) rfl dX4_stateOf_9 ?_
    refine lv_iload_n hx hb dX4_stateOf_12 rfl (lv_at hl 1 rfl) ?_
    refine z_ialdN hx hb hK (hP.at (hI.1 5 (by decide)) rfl) (Nat.lt_of_lt_of_le hj hN) (by decide) (v := MI 5 j) (rfl) dX4_stateOf_13 ?_
    refine lv_goto (tgt := 18) hx hb dX4_stateOf_14 (by decide) ?_
    exact zW_i hx hb hr hlk hS (Nat.le_of_ble_eq_true rfl) (Nat.le_of_ble_eq_true rfl) dX4_stateOf_18 (rfl) (hP)
set_option maxHeartbeats 4000000 in
set_option maxRecDepth 100000 in
theorem c_X4_stateOf_bad (l : Launch) (hD0 : zD (fun _ => True) Rs ad) (hI : zIn Rs np ng) (q : Int32) (hq : fIn q 0 (MI 0 6 - 1) = 0) (sz : Nat) : zMW l yX4_stateOf cX4_stateOf 2 ((some .int)) 2 (43) 0 0 D ks sz [.ref (ad 0), .int q] (zP D Rs ad (gS ks ad np ng G MI MJ XI XJ)) (some (.int (0))) (zP D Rs ad (gS ks ad np ng G (u2 MI 0 7 1) MJ XI XJ)) (zA Rs ad sz) := by
  refine zMW.of (by decide +kernel) (Nat.le_of_ble_eq_true rfl) ?_
  intro p e s m below meth c ls hx hb hr hml hown hlk hT hsz hP hK hl hin
  have hl : lv_has ls 2 [(0, .ref (ad 0)), (1, .int q)] := hl
  subst hsz
  have hD := hD0.self (sz := s.heap.size)
  have hA : ∀ q : Nat, s.heap.size ≤ q → zA Rs ad s.heap.size q := fun q h => Or.inr h
  have hS : va_S (zA Rs ad s.heap.size) s.heap s.heap [] := va_S.rf
  refine lv_aload_n hx hb dX4_stateOf_0 rfl (lv_at hl 0 rfl) ?_
  refine lv_iload_n hx hb dX4_stateOf_1 rfl (lv_at hl 1 rfl) ?_
  refine z_backW1 (z_runV ⟨hx, hb, hml, hown, hT⟩ (rest := []) (As := [.int q]) (c_X4_isPolicy_bad (MI := MI) (MJ := MJ) (XI := XI) (XJ := XJ) l hD0 hI q (hq) _) k_X4_107 (z_preWV hK hP (hP.at (hI.1 0 (by decide)) rfl) rfl) rfl ⟨Nat.le_of_ble_eq_true rfl, Nat.le_of_ble_eq_true rfl⟩ hl.1 rfl (Nat.le_of_ble_eq_true rfl) dX4_stateOf_2 ⟨Nat.le_of_ble_eq_true rfl, Nat.le_of_ble_eq_true rfl⟩) hS (hD.free (fun q hq => hA q (Nat.le_trans hS.1 hq))) (fun H locs hP hz1 hk1 hS => ?_)
  have hP : zP D Rs ad (gS ks ad np ng G (u2 MI 0 7 1) MJ XI XJ) H := hP
  refine lv_if_eq (tgt := 17) hx hb dX4_stateOf_5 (by decide) (fun c_1 => ?_) (fun c_1 => ?_)
  · refine lv_iconst (v := 0) hx hb dX4_stateOf_17 (by decide) ?_
    exact zW_i hx hb hr hlk hS (Nat.le_of_ble_eq_true rfl) (Nat.le_of_ble_eq_true rfl) dX4_stateOf_18 (rfl) (hP)
  · exact absurd c_1 (by decide)
set_option maxHeartbeats 4000000 in
set_option maxRecDepth 100000 in
theorem c_X4_bonuses_ok (l : Launch) (hD0 : zD (fun _ => True) Rs ad) (hI : zIn Rs np ng) (j : Nat) (hj : j < np) (hnp : MI 0 6 = nI np) (hN : np ≤ 30) (sz : Nat) : zMW l yX4_bonuses cX4_bonuses 2 ((some .int)) 2 (43) 0 0 D ks sz [.ref (ad 0), .int (nI j)] (zP D Rs ad (gS ks ad np ng G MI MJ XI XJ)) (some (.int (MI 6 j))) (zP D Rs ad (gS ks ad np ng G (u2 MI 0 7 0) MJ XI XJ)) (zA Rs ad sz) := by
  refine zMW.of (by decide +kernel) (Nat.le_of_ble_eq_true rfl) ?_
  intro p e s m below meth c ls hx hb hr hml hown hlk hT hsz hP hK hl hin
  have hl : lv_has ls 2 [(0, .ref (ad 0)), (1, .int (nI j))] := hl
  subst hsz
  have hD := hD0.self (sz := s.heap.size)
  have hA : ∀ q : Nat, s.heap.size ≤ q → zA Rs ad s.heap.size q := fun q h => Or.inr h
  have hS : va_S (zA Rs ad s.heap.size) s.heap s.heap [] := va_S.rf
  refine lv_aload_n hx hb dX4_bonuses_0 rfl (lv_at hl 0 rfl) ?_
  refine lv_iload_n hx hb dX4_bonuses_1 rfl (lv_at hl 1 rfl) ?_
  refine z_backW1 (z_runV ⟨hx, hb, hml, hown, hT⟩ (rest := []) (As := [.int (nI j)]) (c_X4_isPolicy_ok (MI := MI) (MJ := MJ) (XI := XI) (XJ := XJ) l hD0 hI (nI j) (isP_j hnp hj hN) _) k_X4_107 (z_preWV hK hP (hP.at (hI.1 0 (by decide)) rfl) rfl) rfl ⟨Nat.le_of_ble_eq_true rfl, Nat.le_of_ble_eq_true rfl⟩ hl.1 rfl (Nat.le_of_ble_eq_true rfl) dX4_bonuses_2 ⟨Nat.le_of_ble_eq_true rfl, Nat.le_of_ble_eq_true rfl⟩) hS (hD.free (fun q hq => hA q (Nat.le_trans hS.1 hq))) (fun H locs hP hz1 hk1 hS => ?_)
  have hP : zP D Rs ad (gS ks ad np ng G (u2 MI 0 7 0) MJ XI XJ) H := hP
  refine lv_if_eq (tgt := 17) hx hb dX4_bonuses_5 (by decide) (fun c_1 => ?_) (fun c_1 => ?_)
  · exact absurd ((rfl).symm.trans c_1) (by decide)
  · refine lv_aload_n hx hb dX4_bonuses_8 rfl (lv_at hl 0 rfl) ?_
    refine gf_X4_41 hx hb hT hown hK (v := .ref (ad 6)) (hP.at (hI.1 0 (by decide)) rfl) rfl dX4_bonuses_9 ?_
    refine lv_iload_n hx hb dX4_bonuses_12 rfl (lv_at hl 1 rfl) ?_
    refine z_ialdN hx hb hK (hP.at (hI.1 6 (by decide)) rfl) (Nat.lt_of_lt_of_le hj hN) (by decide) (v := MI 6 j) (rfl) dX4_bonuses_13 ?_
    refine lv_goto (tgt := 18) hx hb dX4_bonuses_14 (by decide) ?_
    exact zW_i hx hb hr hlk hS (Nat.le_of_ble_eq_true rfl) (Nat.le_of_ble_eq_true rfl) dX4_bonuses_18 (rfl) (hP)
set_option maxHeartbeats 4000000 in
set_option maxRecDepth 100000 in
theorem c_X4_bonuses_bad (l : Launch) (hD0 : zD (fun _ => True) Rs ad) (hI : zIn Rs np ng) (q : Int32) (hq : fIn q 0 (MI 0 6 - 1) = 0) (sz : Nat) : zMW l yX4_bonuses cX4_bonuses 2 ((some .int)) 2 (43) 0 0 D ks sz [.ref (ad 0), .int q] (zP D Rs ad (gS ks ad np ng G MI MJ XI XJ)) (some (.int (0))) (zP D Rs ad (gS ks ad np ng G (u2 MI 0 7 1) MJ XI XJ)) (zA Rs ad sz) := by
  refine zMW.of (by decide +kernel) (Nat.le_of_ble_eq_true rfl) ?_
  intro p e s m below meth c ls hx hb hr hml hown hlk hT hsz hP hK hl hin
  have hl : lv_has ls 2 [(0, .ref (ad 0)), (1, .int q)] := hl
  subst hsz
  have hD := hD0.self (sz := s.heap.size)
  have hA : ∀ q : Nat, s.heap.size ≤ q → zA Rs ad s.heap.size q := fun q h => Or.inr h
  have hS : va_S (zA Rs ad s.heap.size) s.heap s.heap [] := va_S.rf
  refine lv_aload_n hx hb dX4_bonuses_0 rfl (lv_at hl 0 rfl) ?_
  refine lv_iload_n hx hb dX4_bonuses_1 rfl (lv_at hl 1 rfl) ?_
  refine z_backW1 (z_runV ⟨hx, hb, hml, hown, hT⟩ (rest := []) (As := [.int q]) (c_X4_isPolicy_bad (MI := MI) (MJ := MJ) (XI := XI) (XJ := XJ) l hD0 hI q (hq) _) k_X4_107 (z_preWV hK hP (hP.at (hI.1 0 (by decide)) rfl) rfl) rfl ⟨Nat.le_of_ble_eq_true rfl, Nat.le_of_ble_eq_true rfl⟩ hl.1 rfl (Nat.le_of_ble_eq_true rfl) dX4_bonuses_2 ⟨Nat.le_of_ble_eq_true rfl, Nat.le_of_ble_eq_true rfl⟩) hS (hD.free (fun q hq => hA q (Nat.le_trans hS.1 hq))) (fun H locs hP hz1 hk1 hS => ?_)
  have hP : zP D Rs ad (gS ks ad np ng G (u2 MI 0 7 1) MJ XI XJ) H := hP
  refine lv_if_eq (tgt := 17) hx hb dX4_bonuses_5 (by decide) (fun c_1 => ?_) (fun c_1 => ?_)
  · refine lv_iconst (v := 0) hx hb dX4_bonuses_17 (by decide) ?_
    exact zW_i hx hb hr hlk hS (Nat.le_of_ble_eq_true rfl) (Nat.le_of_ble_eq_true rfl) dX4_bonuses_18 (rfl) (hP)
  · exact absurd c_1 (by decide)
set_option maxHeartbeats 4000000 in
set_option maxRecDepth 100000 in
theorem c_X4_shareOf_ok (l : Launch) (hD0 : zD (fun _ => True) Rs ad) (hI : zIn Rs np ng) (j : Nat) (hj : j < np) (hnp : MI 0 6 = nI np) (hN : np ≤ 30) (hd : MI 5 j = 0 → ¬ mPr MI np j = 0) (sz : Nat) : zMW l yX4_shareOf cX4_shareOf 2 ((some .int)) 3 (66) 0 0 D ks sz [.ref (ad 0), .int (nI j)] (zP D Rs ad (gS ks ad np ng G MI MJ XI XJ)) (some (.int (Int64.toInt32 (mShare MI MJ np j)))) (zP D Rs ad (gS ks ad np ng G (u2 MI 0 7 0) MJ XI XJ)) (zA Rs ad sz) := by
  refine zMW.of (by decide +kernel) (Nat.le_of_ble_eq_true rfl) ?_
  intro p e s m below meth c ls hx hb hr hml hown hlk hT hsz hP hK hl hin
  have hl : lv_has ls 2 [(0, .ref (ad 0)), (1, .int (nI j))] := hl
  subst hsz
  have hD := hD0.self (sz := s.heap.size)
  have hA : ∀ q : Nat, s.heap.size ≤ q → zA Rs ad s.heap.size q := fun q h => Or.inr h
  have hS : va_S (zA Rs ad s.heap.size) s.heap s.heap [] := va_S.rf
  refine lv_aload_n hx hb dX4_shareOf_0 rfl (lv_at hl 0 rfl) ?_
  refine lv_iload_n hx hb dX4_shareOf_1 rfl (lv_at hl 1 rfl) ?_
  refine z_backW1 (z_runV ⟨hx, hb, hml, hown, hT⟩ (rest := []) (As := [.int (nI j)]) (c_X4_isPolicy_ok (MI := MI) (MJ := MJ) (XI := XI) (XJ := XJ) l hD0 hI (nI j) (isP_j hnp hj hN) _) k_X4_107 (z_preWV hK hP (hP.at (hI.1 0 (by decide)) rfl) rfl) rfl ⟨Nat.le_of_ble_eq_true rfl, Nat.le_of_ble_eq_true rfl⟩ hl.1 rfl (Nat.le_of_ble_eq_true rfl) dX4_shareOf_2 ⟨Nat.le_of_ble_eq_true rfl, Nat.le_of_ble_eq_true rfl⟩) hS (hD.free (fun q hq => hA q (Nat.le_trans hS.1 hq))) (fun H locs hP hz1 hk1 hS => ?_)
  have hP : zP D Rs ad (gS ks ad np ng G (u2 MI 0 7 0) MJ XI XJ) H := hP
  refine lv_if_eq (tgt := 17) hx hb dX4_shareOf_5 (by decide) (fun c_1 => ?_) (fun c_1 => ?_)
  · exact absurd ((rfl).symm.trans c_1) (by decide)
  · refine lv_aload_n hx hb dX4_shareOf_8 rfl (lv_at hl 0 rfl) ?_
    refine lv_iload_n hx hb dX4_shareOf_9 rfl (lv_at hl 1 rfl) ?_
    refine z_backR1 (z_runV ⟨hx, hb, hml, hown, hT⟩ (rest := []) (As := [.int (nI j)]) (c_X4_share (MI := u2 MI 0 7 0) (MJ := MJ) (XI := XI) (XJ := XJ) l hI j (hj) (hnp) (hN) (hd)) k_X4_95 (z_preRV hK hP (hP.at (hI.1 0 (by decide)) rfl) rfl) rfl ⟨Nat.le_of_ble_eq_true rfl, Nat.le_of_ble_eq_true rfl⟩ hl.1 rfl (Nat.le_of_ble_eq_true rfl) dX4_shareOf_10 ⟨Nat.le_of_ble_eq_true rfl, Nat.le_of_ble_eq_true rfl⟩) ?_
    refine lv_l2i hx hb dX4_shareOf_13 rfl ?_
    refine lv_goto (tgt := 18) hx hb dX4_shareOf_14 (by decide) ?_
    exact zW_i hx hb hr hlk hS (Nat.le_of_ble_eq_true rfl) (Nat.le_of_ble_eq_true rfl) dX4_shareOf_18 (rfl) (hP)
set_option maxHeartbeats 4000000 in
set_option maxRecDepth 100000 in
theorem c_X4_shareOf_bad (l : Launch) (hD0 : zD (fun _ => True) Rs ad) (hI : zIn Rs np ng) (q : Int32) (hq : fIn q 0 (MI 0 6 - 1) = 0) (sz : Nat) : zMW l yX4_shareOf cX4_shareOf 2 ((some .int)) 2 (43) 0 0 D ks sz [.ref (ad 0), .int q] (zP D Rs ad (gS ks ad np ng G MI MJ XI XJ)) (some (.int (0))) (zP D Rs ad (gS ks ad np ng G (u2 MI 0 7 1) MJ XI XJ)) (zA Rs ad sz) := by
  refine zMW.of (by decide +kernel) (Nat.le_of_ble_eq_true rfl) ?_
  intro p e s m below meth c ls hx hb hr hml hown hlk hT hsz hP hK hl hin
  have hl : lv_has ls 2 [(0, .ref (ad 0)), (1, .int q)] := hl
  subst hsz
  have hD := hD0.self (sz := s.heap.size)
  have hA : ∀ q : Nat, s.heap.size ≤ q → zA Rs ad s.heap.size q := fun q h => Or.inr h
  have hS : va_S (zA Rs ad s.heap.size) s.heap s.heap [] := va_S.rf
  refine lv_aload_n hx hb dX4_shareOf_0 rfl (lv_at hl 0 rfl) ?_
  refine lv_iload_n hx hb dX4_shareOf_1 rfl (lv_at hl 1 rfl) ?_
  refine z_backW1 (z_runV ⟨hx, hb, hml, hown, hT⟩ (rest := []) (As := [.int q]) (c_X4_isPolicy_bad (MI := MI) (MJ := MJ) (XI := XI) (XJ := XJ) l hD0 hI q (hq) _) k_X4_107 (z_preWV hK hP (hP.at (hI.1 0 (by decide)) rfl) rfl) rfl ⟨Nat.le_of_ble_eq_true rfl, Nat.le_of_ble_eq_true rfl⟩ hl.1 rfl (Nat.le_of_ble_eq_true rfl) dX4_shareOf_2 ⟨Nat.le_of_ble_eq_true rfl, Nat.le_of_ble_eq_true rfl⟩) hS (hD.free (fun q hq => hA q (Nat.le_trans hS.1 hq))) (fun H locs hP hz1 hk1 hS => ?_)
  have hP : zP D Rs ad (gS ks ad np ng G (u2 MI 0 7 1) MJ XI XJ) H := hP
  refine lv_if_eq (tgt := 17) hx hb dX4_shareOf_5 (by decide) (fun c_1 => ?_) (fun c_1 => ?_)
  · refine lv_iconst (v := 0) hx hb dX4_shareOf_17 (by decide) ?_
    exact zW_i hx hb hr hlk hS (Nat.le_of_ble_eq_true rfl) (Nat.le_of_ble_eq_true rfl) dX4_shareOf_18 (rfl) (hP)
  · exact absurd c_1 (by decide)
set_option maxHeartbeats 4000000 in
set_option maxRecDepth 100000 in
theorem c_X4_shareAlone_ok (l : Launch) (hD0 : zD (fun _ => True) Rs ad) (hI : zIn Rs np ng) (j : Nat) (hj : j < np) (hnp : MI 0 6 = nI np) (hN : np ≤ 30) (sz : Nat) : zMW l yX4_shareAlone cX4_shareAlone 2 ((some .int)) 2 (43) 0 0 D ks sz [.ref (ad 0), .int (nI j)] (zP D Rs ad (gS ks ad np ng G MI MJ XI XJ)) (some (.int (if MI 5 j = 0 then Int64.toInt32 (MJ 1 j) else 0))) (zP D Rs ad (gS ks ad np ng G (u2 MI 0 7 0) MJ XI XJ)) (zA Rs ad sz) := by
  refine zMW.of (by decide +kernel) (Nat.le_of_ble_eq_true rfl) ?_
  intro p e s m below meth c ls hx hb hr hml hown hlk hT hsz hP hK hl hin
  have hl : lv_has ls 2 [(0, .ref (ad 0)), (1, .int (nI j))] := hl
  subst hsz
  have hD := hD0.self (sz := s.heap.size)
  have hA : ∀ q : Nat, s.heap.size ≤ q → zA Rs ad s.heap.size q := fun q h => Or.inr h
  have hS : va_S (zA Rs ad s.heap.size) s.heap s.heap [] := va_S.rf
  refine lv_aload_n hx hb dX4_shareAlone_0 rfl (lv_at hl 0 rfl) ?_
  refine lv_iload_n hx hb dX4_shareAlone_1 rfl (lv_at hl 1 rfl) ?_
  refine z_backW1 (z_runV ⟨hx, hb, hml, hown, hT⟩ (rest := []) (As := [.int (nI j)]) (c_X4_isPolicy_ok (MI := MI) (MJ := MJ) (XI := XI) (XJ := XJ) l hD0 hI (nI j) (isP_j hnp hj hN) _) k_X4_107 (z_preWV hK hP (hP.at (hI.1 0 (by decide)) rfl) rfl) rfl ⟨Nat.le_of_ble_eq_true rfl, Nat.le_of_ble_eq_true rfl⟩ hl.1 rfl (Nat.le_of_ble_eq_true rfl) dX4_shareAlone_2 ⟨Nat.le_of_ble_eq_true rfl, Nat.le_of_ble_eq_true rfl⟩) hS (hD.free (fun q hq => hA q (Nat.le_trans hS.1 hq))) (fun H locs hP hz1 hk1 hS => ?_)
  have hP : zP D Rs ad (gS ks ad np ng G (u2 MI 0 7 0) MJ XI XJ) H := hP
  refine lv_if_eq (tgt := 27) hx hb dX4_shareAlone_5 (by decide) (fun c_1 => ?_) (fun c_1 => ?_)
  · exact absurd ((rfl).symm.trans c_1) (by decide)
  · refine lv_aload_n hx hb dX4_shareAlone_8 rfl (lv_at hl 0 rfl) ?_
    refine gf_X4_38 hx hb hT hown hK (v := .ref (ad 5)) (hP.at (hI.1 0 (by decide)) rfl) rfl dX4_shareAlone_9 ?_
    refine lv_iload_n hx hb dX4_shareAlone_12 rfl (lv_at hl 1 rfl) ?_
    refine z_ialdN hx hb hK (hP.at (hI.1 5 (by decide)) rfl) (Nat.lt_of_lt_of_le hj hN) (by decide) (v := MI 5 j) (rfl) dX4_shareAlone_13 ?_
    refine lv_if_ne (tgt := 27) hx hb dX4_shareAlone_14 (by decide) (fun c_2 => ?_) (fun c_2 => ?_)
    · refine lv_iconst (v := 0) hx hb dX4_shareAlone_27 (by decide) ?_
      exact zW_i hx hb hr hlk hS (Nat.le_of_ble_eq_true rfl) (Nat.le_of_ble_eq_true rfl) dX4_shareAlone_28 ((if_neg c_2).symm) (hP)
    · refine lv_aload_n hx hb dX4_shareAlone_17 rfl (lv_at hl 0 rfl) ?_
      refine gf_X4_47 hx hb hT hown hK (v := .ref (ad 8)) (hP.at (hI.1 0 (by decide)) rfl) rfl dX4_shareAlone_18 ?_
      refine lv_iload_n hx hb dX4_shareAlone_21 rfl (lv_at hl 1 rfl) ?_
      refine z_laldN hx hb hK (hP.at (hI.1 8 (by decide)) rfl) (Nat.lt_of_lt_of_le hj hN) (by decide) (v := MJ 1 j) (rfl) dX4_shareAlone_22 ?_
      refine lv_l2i hx hb dX4_shareAlone_23 rfl ?_
      refine lv_goto (tgt := 28) hx hb dX4_shareAlone_24 (by decide) ?_
      exact zW_i hx hb hr hlk hS (Nat.le_of_ble_eq_true rfl) (Nat.le_of_ble_eq_true rfl) dX4_shareAlone_28 ((if_pos c_2).symm) (hP)
set_option maxHeartbeats 4000000 in
set_option maxRecDepth 100000 in
theorem c_X4_shareAlone_bad (l : Launch) (hD0 : zD (fun _ => True) Rs ad) (hI : zIn Rs np ng) (q : Int32) (hq : fIn q 0 (MI 0 6 - 1) = 0) (sz : Nat) : zMW l yX4_shareAlone cX4_shareAlone 2 ((some .int)) 2 (43) 0 0 D ks sz [.ref (ad 0), .int q] (zP D Rs ad (gS ks ad np ng G MI MJ XI XJ)) (some (.int (0))) (zP D Rs ad (gS ks ad np ng G (u2 MI 0 7 1) MJ XI XJ)) (zA Rs ad sz) := by
  refine zMW.of (by decide +kernel) (Nat.le_of_ble_eq_true rfl) ?_
  intro p e s m below meth c ls hx hb hr hml hown hlk hT hsz hP hK hl hin
  have hl : lv_has ls 2 [(0, .ref (ad 0)), (1, .int q)] := hl
  subst hsz
  have hD := hD0.self (sz := s.heap.size)
  have hA : ∀ q : Nat, s.heap.size ≤ q → zA Rs ad s.heap.size q := fun q h => Or.inr h
  have hS : va_S (zA Rs ad s.heap.size) s.heap s.heap [] := va_S.rf
  refine lv_aload_n hx hb dX4_shareAlone_0 rfl (lv_at hl 0 rfl) ?_
  refine lv_iload_n hx hb dX4_shareAlone_1 rfl (lv_at hl 1 rfl) ?_
  refine z_backW1 (z_runV ⟨hx, hb, hml, hown, hT⟩ (rest := []) (As := [.int q]) (c_X4_isPolicy_bad (MI := MI) (MJ := MJ) (XI := XI) (XJ := XJ) l hD0 hI q (hq) _) k_X4_107 (z_preWV hK hP (hP.at (hI.1 0 (by decide)) rfl) rfl) rfl ⟨Nat.le_of_ble_eq_true rfl, Nat.le_of_ble_eq_true rfl⟩ hl.1 rfl (Nat.le_of_ble_eq_true rfl) dX4_shareAlone_2 ⟨Nat.le_of_ble_eq_true rfl, Nat.le_of_ble_eq_true rfl⟩) hS (hD.free (fun q hq => hA q (Nat.le_trans hS.1 hq))) (fun H locs hP hz1 hk1 hS => ?_)
  have hP : zP D Rs ad (gS ks ad np ng G (u2 MI 0 7 1) MJ XI XJ) H := hP
  refine lv_if_eq (tgt := 27) hx hb dX4_shareAlone_5 (by decide) (fun c_1 => ?_) (fun c_1 => ?_)
  · refine lv_iconst (v := 0) hx hb dX4_shareAlone_27 (by decide) ?_
    exact zW_i hx hb hr hlk hS (Nat.le_of_ble_eq_true rfl) (Nat.le_of_ble_eq_true rfl) dX4_shareAlone_28 (rfl) (hP)
  · exact absurd c_1 (by decide)
set_option maxHeartbeats 4000000 in
set_option maxRecDepth 100000 in
theorem c_X4_paid_ok (l : Launch) (hD0 : zD (fun _ => True) Rs ad) (hI : zIn Rs np ng) (j : Nat) (hj : j < np) (hnp : MI 0 6 = nI np) (hN : np ≤ 30) (sz : Nat) : zMW l yX4_paid cX4_paid 2 ((some .int)) 2 (43) 0 0 D ks sz [.ref (ad 0), .int (nI j)] (zP D Rs ad (gS ks ad np ng G MI MJ XI XJ)) (some (.int (if MI 5 j = 0 then -1 else MI 7 j))) (zP D Rs ad (gS ks ad np ng G (u2 MI 0 7 0) MJ XI XJ)) (zA Rs ad sz) := by
  refine zMW.of (by decide +kernel) (Nat.le_of_ble_eq_true rfl) ?_
  intro p e s m below meth c ls hx hb hr hml hown hlk hT hsz hP hK hl hin
  have hl : lv_has ls 2 [(0, .ref (ad 0)), (1, .int (nI j))] := hl
  subst hsz
  have hD := hD0.self (sz := s.heap.size)
  have hA : ∀ q : Nat, s.heap.size ≤ q → zA Rs ad s.heap.size q := fun q h => Or.inr h
  have hS : va_S (zA Rs ad s.heap.size) s.heap s.heap [] := va_S.rf
  refine lv_aload_n hx hb dX4_paid_0 rfl (lv_at hl 0 rfl) ?_
  refine lv_iload_n hx hb dX4_paid_1 rfl (lv_at hl 1 rfl) ?_
  refine z_backW1 (z_runV ⟨hx, hb, hml, hown, hT⟩ (rest := []) (As := [.int (nI j)]) (c_X4_isPolicy_ok (MI := MI) (MJ := MJ) (XI := XI) (XJ := XJ) l hD0 hI (nI j) (isP_j hnp hj hN) _) k_X4_107 (z_preWV hK hP (hP.at (hI.1 0 (by decide)) rfl) rfl) rfl ⟨Nat.le_of_ble_eq_true rfl, Nat.le_of_ble_eq_true rfl⟩ hl.1 rfl (Nat.le_of_ble_eq_true rfl) dX4_paid_2 ⟨Nat.le_of_ble_eq_true rfl, Nat.le_of_ble_eq_true rfl⟩) hS (hD.free (fun q hq => hA q (Nat.le_trans hS.1 hq))) (fun H locs hP hz1 hk1 hS => ?_)
  have hP : zP D Rs ad (gS ks ad np ng G (u2 MI 0 7 0) MJ XI XJ) H := hP
  refine lv_if_ne (tgt := 12) hx hb dX4_paid_5 (by decide) (fun c_1 => ?_) (fun c_1 => ?_)
  · refine lv_aload_n hx hb dX4_paid_12 rfl (lv_at hl 0 rfl) ?_
    refine gf_X4_38 hx hb hT hown hK (v := .ref (ad 5)) (hP.at (hI.1 0 (by decide)) rfl) rfl dX4_paid_13 ?_
    refine lv_iload_n hx hb dX4_paid_16 rfl (lv_at hl 1 rfl) ?_
    refine z_ialdN hx hb hK (hP.at (hI.1 5 (by decide)) rfl) (Nat.lt_of_lt_of_le hj hN) (by decide) (v := MI 5 j) (rfl) dX4_paid_17 ?_
    refine lv_if_ne (tgt := 25) hx hb dX4_paid_18 (by decide) (fun c_2 => ?_) (fun c_2 => ?_)
    · refine lv_aload_n hx hb dX4_paid_25 rfl (lv_at hl 0 rfl) ?_
      refine gf_X4_44 hx hb hT hown hK (v := .ref (ad 7)) (hP.at (hI.1 0 (by decide)) rfl) rfl dX4_paid_26 ?_
      refine lv_iload_n hx hb dX4_paid_29 rfl (lv_at hl 1 rfl) ?_
      refine z_ialdN hx hb hK (hP.at (hI.1 7 (by decide)) rfl) (Nat.lt_of_lt_of_le hj hN) (by decide) (v := MI 7 j) (rfl) dX4_paid_30 ?_
      exact zW_i hx hb hr hlk hS (Nat.le_of_ble_eq_true rfl) (Nat.le_of_ble_eq_true rfl) dX4_paid_31 ((if_neg c_2).symm) (hP)
    · refine lv_iconst (v := (-1)) hx hb dX4_paid_21 (by decide) ?_
      refine lv_goto (tgt := 31) hx hb dX4_paid_22 (by decide) ?_
      exact zW_i hx hb hr hlk hS (Nat.le_of_ble_eq_true rfl) (Nat.le_of_ble_eq_true rfl) dX4_paid_31 ((if_pos c_2).symm) (hP)
  · exact absurd ((rfl).symm.trans c_1) (by decide)
set_option maxHeartbeats 4000000 in
set_option maxRecDepth 100000 in
theorem c_X4_paid_bad (l : Launch) (hD0 : zD (fun _ => True) Rs ad) (hI : zIn Rs np ng) (q : Int32) (hq : fIn q 0 (MI 0 6 - 1) = 0) (sz : Nat) : zMW l yX4_paid cX4_paid 2 ((some .int)) 2 (43) 0 0 D ks sz [.ref (ad 0), .int q] (zP D Rs ad (gS ks ad np ng G MI MJ XI XJ)) (some (.int (0))) (zP D Rs ad (gS ks ad np ng G (u2 MI 0 7 1) MJ XI XJ)) (zA Rs ad sz) := by
  refine zMW.of (by decide +kernel) (Nat.le_of_ble_eq_true rfl) ?_
  intro p e s m below meth c ls hx hb hr hml hown hlk hT hsz hP hK hl hin
  have hl : lv_has ls 2 [(0, .ref (ad 0)), (1, .int q)] := hl
  subst hsz
  have hD := hD0.self (sz := s.heap.size)
  have hA : ∀ q : Nat, s.heap.size ≤ q → zA Rs ad s.heap.size q := fun q h => Or.inr h
  have hS : va_S (zA Rs ad s.heap.size) s.heap s.heap [] := va_S.rf
  refine lv_aload_n hx hb dX4_paid_0 rfl (lv_at hl 0 rfl) ?_
  refine lv_iload_n hx hb dX4_paid_1 rfl (lv_at hl 1 rfl) ?_
  refine z_backW1 (z_runV ⟨hx, hb, hml, hown, hT⟩ (rest := []) (As := [.int q]) (c_X4_isPolicy_bad (MI := MI) (MJ := MJ) (XI := XI) (XJ := XJ) l hD0 hI q (hq) _) k_X4_107 (z_preWV hK hP (hP.at (hI.1 0 (by decide)) rfl) rfl) rfl ⟨Nat.le_of_ble_eq_true rfl, Nat.le_of_ble_eq_true rfl⟩ hl.1 rfl (Nat.le_of_ble_eq_true rfl) dX4_paid_2 ⟨Nat.le_of_ble_eq_true rfl, Nat.le_of_ble_eq_true rfl⟩) hS (hD.free (fun q hq => hA q (Nat.le_trans hS.1 hq))) (fun H locs hP hz1 hk1 hS => ?_)
  have hP : zP D Rs ad (gS ks ad np ng G (u2 MI 0 7 1) MJ XI XJ) H := hP
  refine lv_if_ne (tgt := 12) hx hb dX4_paid_5 (by decide) (fun c_1 => ?_) (fun c_1 => ?_)
  · exact absurd c_1 (by decide)
  · refine lv_iconst (v := 0) hx hb dX4_paid_8 (by decide) ?_
    refine lv_goto (tgt := 31) hx hb dX4_paid_9 (by decide) ?_
    exact zW_i hx hb hr hlk hS (Nat.le_of_ble_eq_true rfl) (Nat.le_of_ble_eq_true rfl) dX4_paid_31 (rfl) (hP)
set_option maxHeartbeats 4000000 in
set_option maxRecDepth 100000 in
theorem c_X4_canLeave_ok (l : Launch) (hD0 : zD (fun _ => True) Rs ad) (hI : zIn Rs np ng) (j : Nat) (hj : j < np) (hnp : MI 0 6 = nI np) (hN : np ≤ 30) (hst : MI 5 j = 0) (hyr : MI 1 j < MI 0 0) (sz : Nat) : zMW l yX4_canLeave cX4_canLeave 2 ((some .boolean)) 2 (43) 0 0 D ks sz [.ref (ad 0), .int (nI j)] (zP D Rs ad (gS ks ad np ng G MI MJ XI XJ)) (some (.int (1))) (zP D Rs ad (gS ks ad np ng G (u2 (u2 MI 0 7 0) 0 7 0) MJ XI XJ)) (zA Rs ad sz) := by
  refine zMW.of (by decide +kernel) (Nat.le_of_ble_eq_true rfl) ?_
  intro p e s m below meth c ls hx hb hr hml hown hlk hT hsz hP hK hl hin
  have hl : lv_has ls 2 [(0, .ref (ad 0)), (1, .int (nI j))] := hl
  subst hsz
  have hD := hD0.self (sz := s.heap.size)
  have hA : ∀ q : Nat, s.heap.size ≤ q → zA Rs ad s.heap.size q := fun q h => Or.inr h
  have hS : va_S (zA Rs ad s.heap.size) s.heap s.heap [] := va_S.rf
  refine lv_aload_n hx hb dX4_canLeave_0 rfl (lv_at hl 0 rfl) ?_
  refine lv_iload_n hx hb dX4_canLeave_1 rfl (lv_at hl 1 rfl) ?_
  refine z_backW1 (z_runV ⟨hx, hb, hml, hown, hT⟩ (rest := []) (As := [.int (nI j)]) (c_X4_isPolicy_ok (MI := MI) (MJ := MJ) (XI := XI) (XJ := XJ) l hD0 hI (nI j) (isP_j hnp hj hN) _) k_X4_107 (z_preWV hK hP (hP.at (hI.1 0 (by decide)) rfl) rfl) rfl ⟨Nat.le_of_ble_eq_true rfl, Nat.le_of_ble_eq_true rfl⟩ hl.1 rfl (Nat.le_of_ble_eq_true rfl) dX4_canLeave_2 ⟨Nat.le_of_ble_eq_true rfl, Nat.le_of_ble_eq_true rfl⟩) hS (hD.free (fun q hq => hA q (Nat.le_trans hS.1 hq))) (fun H locs hP hz1 hk1 hS => ?_)
  have hP : zP D Rs ad (gS ks ad np ng G (u2 MI 0 7 0) MJ XI XJ) H := hP
  refine lv_if_eq (tgt := 39) hx hb dX4_canLeave_5 (by decide) (fun c_1 => ?_) (fun c_1 => ?_)
  · exact absurd ((rfl).symm.trans c_1) (by decide)
  · refine lv_aload_n hx hb dX4_canLeave_8 rfl (lv_at hl 0 rfl) ?_
    refine lv_aload_n hx hb dX4_canLeave_9 rfl (lv_at hl 0 rfl) ?_
    refine gf_X4_38 hx hb hT hown hK (v := .ref (ad 5)) (hP.at (hI.1 0 (by decide)) rfl) rfl dX4_canLeave_10 ?_
    refine lv_iload_n hx hb dX4_canLeave_13 rfl (lv_at hl 1 rfl) ?_
    refine z_ialdN hx hb hK (hP.at (hI.1 5 (by decide)) rfl) (Nat.lt_of_lt_of_le hj hN) (by decide) (v := MI 5 j) (rfl) dX4_canLeave_14 ?_
    refine lv_if_ne (tgt := 35) hx hb dX4_canLeave_15 (by decide) (fun c_2 => ?_) (fun c_2 => ?_)
    · exact absurd (hst) c_2
    · refine lv_aload_n hx hb dX4_canLeave_18 rfl (lv_at hl 0 rfl) ?_
      refine gf_X4_92 hx hb hT hown hK (v := .int (MI 0 0)) (hP.at (hI.1 0 (by decide)) rfl) rfl dX4_canLeave_19 ?_
      refine lv_aload_n hx hb dX4_canLeave_22 rfl (lv_at hl 0 rfl) ?_
      refine gf_X4_25 hx hb hT hown hK (v := .ref (ad 1)) (hP.at (hI.1 0 (by decide)) rfl) rfl dX4_canLeave_23 ?_
      refine lv_iload_n hx hb dX4_canLeave_26 rfl (lv_at hl 1 rfl) ?_
      refine z_ialdN hx hb hK (hP.at (hI.1 1 (by decide)) rfl) (Nat.lt_of_lt_of_le hj hN) (by decide) (v := MI 1 j) (rfl) dX4_canLeave_27 ?_
      refine lv_icmp_le (tgt := 35) hx hb dX4_canLeave_28 (by decide) (fun c_3 => ?_) (fun c_3 => ?_)
      · exact absurd c_3 (Int32.not_le.mpr hyr)
      · refine lv_iconst (v := 0) hx hb dX4_canLeave_31 (by decide) ?_
        refine lv_goto (tgt := 36) hx hb dX4_canLeave_32 (by decide) ?_
        refine pf_X4_60 hx hb hT hown hK hP hD hS (hI.1 0 (by decide)) (v := 0) dX4_canLeave_36 (fun H locs hP hS => ?_)
        refine lv_aload_n hx hb dX4_canLeave_39 rfl (lv_at hl 0 rfl) ?_
        refine gf_X4_60 hx hb hT hown hK (v := .int 0) (hP.at (hI.1 0 (by decide)) rfl) rfl dX4_canLeave_40 ?_
        refine lv_if_ne (tgt := 50) hx hb dX4_canLeave_43 (by decide) (fun c_4 => ?_) (fun c_4 => ?_)
        · exact absurd c_4 (by decide)
        · refine lv_iconst (v := 1) hx hb dX4_canLeave_46 (by decide) ?_
          refine lv_goto (tgt := 51) hx hb dX4_canLeave_47 (by decide) ?_
          exact zW_z hx hb hr hlk hS (Nat.le_of_ble_eq_true rfl) (Nat.le_of_ble_eq_true rfl) dX4_canLeave_51 (rfl) (rfl) (hP)
set_option maxHeartbeats 4000000 in
set_option maxRecDepth 100000 in
theorem c_X4_canLeave_no (l : Launch) (hD0 : zD (fun _ => True) Rs ad) (hI : zIn Rs np ng) (j : Nat) (hj : j < np) (hnp : MI 0 6 = nI np) (hN : np ≤ 30) (hno : ¬ (MI 5 j = 0 ∧ MI 1 j < MI 0 0)) (sz : Nat) : zMW l yX4_canLeave cX4_canLeave 2 ((some .boolean)) 2 (43) 0 0 D ks sz [.ref (ad 0), .int (nI j)] (zP D Rs ad (gS ks ad np ng G MI MJ XI XJ)) (some (.int (0))) (zP D Rs ad (gS ks ad np ng G (u2 (u2 MI 0 7 0) 0 7 2) MJ XI XJ)) (zA Rs ad sz) := by
  refine zMW.of (by decide +kernel) (Nat.le_of_ble_eq_true rfl) ?_
  intro p e s m below meth c ls hx hb hr hml hown hlk hT hsz hP hK hl hin
  have hl : lv_has ls 2 [(0, .ref (ad 0)), (1, .int (nI j))] := hl
  subst hsz
  have hD := hD0.self (sz := s.heap.size)
  have hA : ∀ q : Nat, s.heap.size ≤ q → zA Rs ad s.heap.size q := fun q h => Or.inr h
  have hS : va_S (zA Rs ad s.heap.size) s.heap s.heap [] := va_S.rf
  refine lv_aload_n hx hb dX4_canLeave_0 rfl (lv_at hl 0 rfl) ?_
  refine lv_iload_n hx hb dX4_canLeave_1 rfl (lv_at hl 1 rfl) ?_
  refine z_backW1 (z_runV ⟨hx, hb, hml, hown, hT⟩ (rest := []) (As := [.int (nI j)]) (c_X4_isPolicy_ok (MI := MI) (MJ := MJ) (XI := XI) (XJ := XJ) l hD0 hI (nI j) (isP_j hnp hj hN) _) k_X4_107 (z_preWV hK hP (hP.at (hI.1 0 (by decide)) rfl) rfl) rfl ⟨Nat.le_of_ble_eq_true rfl, Nat.le_of_ble_eq_true rfl⟩ hl.1 rfl (Nat.le_of_ble_eq_true rfl) dX4_canLeave_2 ⟨Nat.le_of_ble_eq_true rfl, Nat.le_of_ble_eq_true rfl⟩) hS (hD.free (fun q hq => hA q (Nat.le_trans hS.1 hq))) (fun H locs hP hz1 hk1 hS => ?_)
  have hP : zP D Rs ad (gS ks ad np ng G (u2 MI 0 7 0) MJ XI XJ) H := hP
  refine lv_if_eq (tgt := 39) hx hb dX4_canLeave_5 (by decide) (fun c_1 => ?_) (fun c_1 => ?_)
  · exact absurd ((rfl).symm.trans c_1) (by decide)
  · refine lv_aload_n hx hb dX4_canLeave_8 rfl (lv_at hl 0 rfl) ?_
    refine lv_aload_n hx hb dX4_canLeave_9 rfl (lv_at hl 0 rfl) ?_
    refine gf_X4_38 hx hb hT hown hK (v := .ref (ad 5)) (hP.at (hI.1 0 (by decide)) rfl) rfl dX4_canLeave_10 ?_
    refine lv_iload_n hx hb dX4_canLeave_13 rfl (lv_at hl 1 rfl) ?_
    refine z_ialdN hx hb hK (hP.at (hI.1 5 (by decide)) rfl) (Nat.lt_of_lt_of_le hj hN) (by decide) (v := MI 5 j) (rfl) dX4_canLeave_14 ?_
    refine lv_if_ne (tgt := 35) hx hb dX4_canLeave_15 (by decide) (fun c_2 => ?_) (fun c_2 => ?_)
    · refine lv_iconst (v := 2) hx hb dX4_canLeave_35 (by decide) ?_
      refine pf_X4_60 hx hb hT hown hK hP hD hS (hI.1 0 (by decide)) (v := 2) dX4_canLeave_36 (fun H locs hP hS => ?_)
      refine lv_aload_n hx hb dX4_canLeave_39 rfl (lv_at hl 0 rfl) ?_
      refine gf_X4_60 hx hb hT hown hK (v := .int 2) (hP.at (hI.1 0 (by decide)) rfl) rfl dX4_canLeave_40 ?_
      refine lv_if_ne (tgt := 50) hx hb dX4_canLeave_43 (by decide) (fun c_3 => ?_) (fun c_3 => ?_)
      · refine lv_iconst (v := 0) hx hb dX4_canLeave_50 (by decide) ?_
        exact zW_z hx hb hr hlk hS (Nat.le_of_ble_eq_true rfl) (Nat.le_of_ble_eq_true rfl) dX4_canLeave_51 (rfl) (rfl) (hP)
      · exact absurd c_3 (by decide)
    · refine lv_aload_n hx hb dX4_canLeave_18 rfl (lv_at hl 0 rfl) ?_
      refine gf_X4_92 hx hb hT hown hK (v := .int (MI 0 0)) (hP.at (hI.1 0 (by decide)) rfl) rfl dX4_canLeave_19 ?_
      refine lv_aload_n hx hb dX4_canLeave_22 rfl (lv_at hl 0 rfl) ?_
      refine gf_X4_25 hx hb hT hown hK (v := .ref (ad 1)) (hP.at (hI.1 0 (by decide)) rfl) rfl dX4_canLeave_23 ?_
      refine lv_iload_n hx hb dX4_canLeave_26 rfl (lv_at hl 1 rfl) ?_
      refine z_ialdN hx hb hK (hP.at (hI.1 1 (by decide)) rfl) (Nat.lt_of_lt_of_le hj hN) (by decide) (v := MI 1 j) (rfl) dX4_canLeave_27 ?_
      refine lv_icmp_le (tgt := 35) hx hb dX4_canLeave_28 (by decide) (fun c_4 => ?_) (fun c_4 => ?_)
      · refine lv_iconst (v := 2) hx hb dX4_canLeave_35 (by decide) ?_
        refine pf_X4_60 hx hb hT hown hK hP hD hS (hI.1 0 (by decide)) (v := 2) dX4_canLeave_36 (fun H locs hP hS => ?_)
        refine lv_aload_n hx hb dX4_canLeave_39 rfl (lv_at hl 0 rfl) ?_
        refine gf_X4_60 hx hb hT hown hK (v := .int 2) (hP.at (hI.1 0 (by decide)) rfl) rfl dX4_canLeave_40 ?_
        refine lv_if_ne (tgt := 50) hx hb dX4_canLeave_43 (by decide) (fun c_5 => ?_) (fun c_5 => ?_)
        · refine lv_iconst (v := 0) hx hb dX4_canLeave_50 (by decide) ?_
          exact zW_z hx hb hr hlk hS (Nat.le_of_ble_eq_true rfl) (Nat.le_of_ble_eq_true rfl) dX4_canLeave_51 (rfl) (rfl) (hP)
        · exact absurd c_5 (by decide)
      · exact absurd (Int32.not_le.mp c_4) (fun h => hno ⟨c_2, h⟩)
set_option maxHeartbeats 4000000 in
set_option maxRecDepth 100000 in
theorem c_X4_canLeave_bad (l : Launch) (hD0 : zD (fun _ => True) Rs ad) (hI : zIn Rs np ng) (q : Int32) (hq : fIn q 0 (MI 0 6 - 1) = 0) (sz : Nat) : zMW l yX4_canLeave cX4_canLeave 2 ((some .boolean)) 2 (43) 0 0 D ks sz [.ref (ad 0), .int q] (zP D Rs ad (gS ks ad np ng G MI MJ XI XJ)) (some (.int (0))) (zP D Rs ad (gS ks ad np ng G (u2 MI 0 7 1) MJ XI XJ)) (zA Rs ad sz) := by
  refine zMW.of (by decide +kernel) (Nat.le_of_ble_eq_true rfl) ?_
  intro p e s m below meth c ls hx hb hr hml hown hlk hT hsz hP hK hl hin
  have hl : lv_has ls 2 [(0, .ref (ad 0)), (1, .int q)] := hl
  subst hsz
  have hD := hD0.self (sz := s.heap.size)
  have hA : ∀ q : Nat, s.heap.size ≤ q → zA Rs ad s.heap.size q := fun q h => Or.inr h
  have hS : va_S (zA Rs ad s.heap.size) s.heap s.heap [] := va_S.rf
  refine lv_aload_n hx hb dX4_canLeave_0 rfl (lv_at hl 0 rfl) ?_
  refine lv_iload_n hx hb dX4_canLeave_1 rfl (lv_at hl 1 rfl) ?_
  refine z_backW1 (z_runV ⟨hx, hb, hml, hown, hT⟩ (rest := []) (As := [.int q]) (c_X4_isPolicy_bad (MI := MI) (MJ := MJ) (XI := XI) (XJ := XJ) l hD0 hI q (hq) _) k_X4_107 (z_preWV hK hP (hP.at (hI.1 0 (by decide)) rfl) rfl) rfl ⟨Nat.le_of_ble_eq_true rfl, Nat.le_of_ble_eq_true rfl⟩ hl.1 rfl (Nat.le_of_ble_eq_true rfl) dX4_canLeave_2 ⟨Nat.le_of_ble_eq_true rfl, Nat.le_of_ble_eq_true rfl⟩) hS (hD.free (fun q hq => hA q (Nat.le_trans hS.1 hq))) (fun H locs hP hz1 hk1 hS => ?_)
  have hP : zP D Rs ad (gS ks ad np ng G (u2 MI 0 7 1) MJ XI XJ) H := hP
  refine lv_if_eq (tgt := 39) hx hb dX4_canLeave_5 (by decide) (fun c_1 => ?_) (fun c_1 => ?_)
  · refine lv_aload_n hx hb dX4_canLeave_39 rfl (lv_at hl 0 rfl) ?_
    refine gf_X4_60 hx hb hT hown hK (v := .int 1) (hP.at (hI.1 0 (by decide)) rfl) rfl dX4_canLeave_40 ?_
    refine lv_if_ne (tgt := 50) hx hb dX4_canLeave_43 (by decide) (fun c_2 => ?_) (fun c_2 => ?_)
    · refine lv_iconst (v := 0) hx hb dX4_canLeave_50 (by decide) ?_
      exact zW_z hx hb hr hlk hS (Nat.le_of_ble_eq_true rfl) (Nat.le_of_ble_eq_true rfl) dX4_canLeave_51 (rfl) (rfl) (hP)
    · exact absurd c_2 (by decide)
  · exact absurd c_1 (by decide)
set_option maxHeartbeats 4000000 in
set_option maxRecDepth 100000 in
theorem c_X4_worth_ok (l : Launch) (hD0 : zD (fun _ => True) Rs ad) (hI : zIn Rs np ng) (j : Nat) (hj : j < np) (hnp : MI 0 6 = nI np) (hN : np ≤ 30) (hst : MI 5 j = 0) (hyr : MI 1 j < MI 0 0) (hd : MI 5 j = 0 → ¬ mPr MI np j = 0) (ht : ¬ Int32.toInt64 (MI 2 j) = 0) (sz : Nat) : zMW l yX4_worth cX4_worth 2 ((some .int)) 4 (92) 0 0 D ks sz [.ref (ad 0), .int (nI j)] (zP D Rs ad (gS ks ad np ng G MI MJ XI XJ)) (some (.int (Int64.toInt32 (mWorth MI MJ np j)))) (zP D Rs ad (gS ks ad np ng G (u2 (u2 MI 0 7 0) 0 7 0) MJ XI XJ)) (zA Rs ad sz) := by
  refine zMW.of (by decide +kernel) (Nat.le_of_ble_eq_true rfl) ?_
  intro p e s m below meth c ls hx hb hr hml hown hlk hT hsz hP hK hl hin
  have hl : lv_has ls 2 [(0, .ref (ad 0)), (1, .int (nI j))] := hl
  subst hsz
  have hD := hD0.self (sz := s.heap.size)
  have hA : ∀ q : Nat, s.heap.size ≤ q → zA Rs ad s.heap.size q := fun q h => Or.inr h
  have hS : va_S (zA Rs ad s.heap.size) s.heap s.heap [] := va_S.rf
  refine lv_aload_n hx hb dX4_worth_0 rfl (lv_at hl 0 rfl) ?_
  refine lv_iload_n hx hb dX4_worth_1 rfl (lv_at hl 1 rfl) ?_
  refine z_backW1 (z_runV ⟨hx, hb, hml, hown, hT⟩ (rest := []) (As := [.int (nI j)]) (c_X4_canLeave_ok (MI := MI) (MJ := MJ) (XI := XI) (XJ := XJ) l hD0 hI j (hj) (hnp) (hN) (hst) (hyr) _) k_X4_111 (z_preWV hK hP (hP.at (hI.1 0 (by decide)) rfl) rfl) rfl ⟨Nat.le_of_ble_eq_true rfl, Nat.le_of_ble_eq_true rfl⟩ hl.1 rfl (Nat.le_of_ble_eq_true rfl) dX4_worth_2 ⟨Nat.le_of_ble_eq_true rfl, Nat.le_of_ble_eq_true rfl⟩) hS (hD.free (fun q hq => hA q (Nat.le_trans hS.1 hq))) (fun H locs hP hz1 hk1 hS => ?_)
  have hP : zP D Rs ad (gS ks ad np ng G (u2 (u2 MI 0 7 0) 0 7 0) MJ XI XJ) H := hP
  refine lv_if_eq (tgt := 17) hx hb dX4_worth_5 (by decide) (fun c_1 => ?_) (fun c_1 => ?_)
  · exact absurd ((rfl).symm.trans c_1) (by decide)
  · refine lv_aload_n hx hb dX4_worth_8 rfl (lv_at hl 0 rfl) ?_
    refine lv_iload_n hx hb dX4_worth_9 rfl (lv_at hl 1 rfl) ?_
    refine z_backR1 (z_runV ⟨hx, hb, hml, hown, hT⟩ (rest := []) (As := [.int (nI j)]) (c_X4_worthOf (MI := u2 (u2 MI 0 7 0) 0 7 0) (MJ := MJ) (XI := XI) (XJ := XJ) l hI j (hj) (hnp) (hN) (hd) (ht)) k_X4_114 (z_preRV hK hP (hP.at (hI.1 0 (by decide)) rfl) rfl) rfl ⟨Nat.le_of_ble_eq_true rfl, Nat.le_of_ble_eq_true rfl⟩ hl.1 rfl (Nat.le_of_ble_eq_true rfl) dX4_worth_10 ⟨Nat.le_of_ble_eq_true rfl, Nat.le_of_ble_eq_true rfl⟩) ?_
    refine lv_l2i hx hb dX4_worth_13 rfl ?_
    refine lv_goto (tgt := 18) hx hb dX4_worth_14 (by decide) ?_
    exact zW_i hx hb hr hlk hS (Nat.le_of_ble_eq_true rfl) (Nat.le_of_ble_eq_true rfl) dX4_worth_18 (rfl) (hP)
set_option maxHeartbeats 4000000 in
set_option maxRecDepth 100000 in
theorem c_X4_worth_no (l : Launch) (hD0 : zD (fun _ => True) Rs ad) (hI : zIn Rs np ng) (j : Nat) (hj : j < np) (hnp : MI 0 6 = nI np) (hN : np ≤ 30) (hno : ¬ (MI 5 j = 0 ∧ MI 1 j < MI 0 0)) (sz : Nat) : zMW l yX4_worth cX4_worth 2 ((some .int)) 3 (64) 0 0 D ks sz [.ref (ad 0), .int (nI j)] (zP D Rs ad (gS ks ad np ng G MI MJ XI XJ)) (some (.int (0))) (zP D Rs ad (gS ks ad np ng G (u2 (u2 MI 0 7 0) 0 7 2) MJ XI XJ)) (zA Rs ad sz) := by
  refine zMW.of (by decide +kernel) (Nat.le_of_ble_eq_true rfl) ?_
  intro p e s m below meth c ls hx hb hr hml hown hlk hT hsz hP hK hl hin
  have hl : lv_has ls 2 [(0, .ref (ad 0)), (1, .int (nI j))] := hl
  subst hsz
  have hD := hD0.self (sz := s.heap.size)
  have hA : ∀ q : Nat, s.heap.size ≤ q → zA Rs ad s.heap.size q := fun q h => Or.inr h
  have hS : va_S (zA Rs ad s.heap.size) s.heap s.heap [] := va_S.rf
  refine lv_aload_n hx hb dX4_worth_0 rfl (lv_at hl 0 rfl) ?_
  refine lv_iload_n hx hb dX4_worth_1 rfl (lv_at hl 1 rfl) ?_
  refine z_backW1 (z_runV ⟨hx, hb, hml, hown, hT⟩ (rest := []) (As := [.int (nI j)]) (c_X4_canLeave_no (MI := MI) (MJ := MJ) (XI := XI) (XJ := XJ) l hD0 hI j (hj) (hnp) (hN) (hno) _) k_X4_111 (z_preWV hK hP (hP.at (hI.1 0 (by decide)) rfl) rfl) rfl ⟨Nat.le_of_ble_eq_true rfl, Nat.le_of_ble_eq_true rfl⟩ hl.1 rfl (Nat.le_of_ble_eq_true rfl) dX4_worth_2 ⟨Nat.le_of_ble_eq_true rfl, Nat.le_of_ble_eq_true rfl⟩) hS (hD.free (fun q hq => hA q (Nat.le_trans hS.1 hq))) (fun H locs hP hz1 hk1 hS => ?_)
  have hP : zP D Rs ad (gS ks ad np ng G (u2 (u2 MI 0 7 0) 0 7 2) MJ XI XJ) H := hP
  refine lv_if_eq (tgt := 17) hx hb dX4_worth_5 (by decide) (fun c_1 => ?_) (fun c_1 => ?_)
  · refine lv_iconst (v := 0) hx hb dX4_worth_17 (by decide) ?_
    exact zW_i hx hb hr hlk hS (Nat.le_of_ble_eq_true rfl) (Nat.le_of_ble_eq_true rfl) dX4_worth_18 (rfl) (hP)
  · exact absurd c_1 (by decide)
set_option maxHeartbeats 4000000 in
set_option maxRecDepth 100000 in
theorem c_X4_worth_bad (l : Launch) (hD0 : zD (fun _ => True) Rs ad) (hI : zIn Rs np ng) (q : Int32) (hq : fIn q 0 (MI 0 6 - 1) = 0) (sz : Nat) : zMW l yX4_worth cX4_worth 2 ((some .int)) 3 (64) 0 0 D ks sz [.ref (ad 0), .int q] (zP D Rs ad (gS ks ad np ng G MI MJ XI XJ)) (some (.int (0))) (zP D Rs ad (gS ks ad np ng G (u2 MI 0 7 1) MJ XI XJ)) (zA Rs ad sz) := by
  refine zMW.of (by decide +kernel) (Nat.le_of_ble_eq_true rfl) ?_
  intro p e s m below meth c ls hx hb hr hml hown hlk hT hsz hP hK hl hin
  have hl : lv_has ls 2 [(0, .ref (ad 0)), (1, .int q)] := hl
  subst hsz
  have hD := hD0.self (sz := s.heap.size)
  have hA : ∀ q : Nat, s.heap.size ≤ q → zA Rs ad s.heap.size q := fun q h => Or.inr h
  have hS : va_S (zA Rs ad s.heap.size) s.heap s.heap [] := va_S.rf
  refine lv_aload_n hx hb dX4_worth_0 rfl (lv_at hl 0 rfl) ?_
  refine lv_iload_n hx hb dX4_worth_1 rfl (lv_at hl 1 rfl) ?_
  refine z_backW1 (z_runV ⟨hx, hb, hml, hown, hT⟩ (rest := []) (As := [.int q]) (c_X4_canLeave_bad (MI := MI) (MJ := MJ) (XI := XI) (XJ := XJ) l hD0 hI q (hq) _) k_X4_111 (z_preWV hK hP (hP.at (hI.1 0 (by decide)) rfl) rfl) rfl ⟨Nat.le_of_ble_eq_true rfl, Nat.le_of_ble_eq_true rfl⟩ hl.1 rfl (Nat.le_of_ble_eq_true rfl) dX4_worth_2 ⟨Nat.le_of_ble_eq_true rfl, Nat.le_of_ble_eq_true rfl⟩) hS (hD.free (fun q hq => hA q (Nat.le_trans hS.1 hq))) (fun H locs hP hz1 hk1 hS => ?_)
  have hP : zP D Rs ad (gS ks ad np ng G (u2 MI 0 7 1) MJ XI XJ) H := hP
  refine lv_if_eq (tgt := 17) hx hb dX4_worth_5 (by decide) (fun c_1 => ?_) (fun c_1 => ?_)
  · refine lv_iconst (v := 0) hx hb dX4_worth_17 (by decide) ?_
    exact zW_i hx hb hr hlk hS (Nat.le_of_ble_eq_true rfl) (Nat.le_of_ble_eq_true rfl) dX4_worth_18 (rfl) (hP)
  · exact absurd c_1 (by decide)
set_option maxHeartbeats 4000000 in
set_option maxRecDepth 100000 in
theorem c_X4_surrender_ok (l : Launch) (hD0 : zD (fun _ => True) Rs ad) (hI : zIn Rs np ng) (j : Nat) (hj : j < np) (hnp : MI 0 6 = nI np) (hN : np ≤ 30) (hst : MI 5 j = 0) (hyr : MI 1 j < MI 0 0) (hd : MI 5 j = 0 → ¬ mPr MI np j = 0) (ht : ¬ Int32.toInt64 (MI 2 j) = 0) (sz : Nat) : zMW l yX4_surrender cX4_surrender 3 ((some .int)) 4 (92) 0 0 D ks sz [.ref (ad 0), .int (nI j)] (zP D Rs ad (gS ks ad np ng G MI MJ XI XJ)) (some (.int (Int64.toInt32 (mWorth MI MJ np j)))) (zP D Rs ad (gS ks ad np ng G (u2 (u2 (u2 (u2 MI 0 7 0) 0 7 0) 5 j 2) 7 j (Int64.toInt32 (mWorth MI MJ np j))) (lvJ (mPr (u2 (u2 (u2 (u2 MI 0 7 0) 0 7 0) 5 j 2) 7 j (Int64.toInt32 (mWorth MI MJ np j))) np j) MJ (hm (u2 (u2 MI 0 7 0) 0 7 0) np j) (mShare MI MJ np j) (Int64.toInt32 (mWorth MI MJ np j))) XI XJ)) (zA Rs ad sz) := by
  refine zMW.of (by decide +kernel) (Nat.le_of_ble_eq_true rfl) ?_
  intro p e s m below meth c ls hx hb hr hml hown hlk hT hsz hP hK hl hin
  have hl : lv_has ls 3 [(0, .ref (ad 0)), (1, .int (nI j))] := hl
  subst hsz
  have hD := hD0.self (sz := s.heap.size)
  have hA : ∀ q : Nat, s.heap.size ≤ q → zA Rs ad s.heap.size q := fun q h => Or.inr h
  have hS : va_S (zA Rs ad s.heap.size) s.heap s.heap [] := va_S.rf
  refine lv_aload_n hx hb dX4_surrender_0 rfl (lv_at hl 0 rfl) ?_
  refine lv_iload_n hx hb dX4_surrender_1 rfl (lv_at hl 1 rfl) ?_
  refine z_backW1 (z_runV ⟨hx, hb, hml, hown, hT⟩ (rest := []) (As := [.int (nI j)]) (c_X4_canLeave_ok (MI := MI) (MJ := MJ) (XI := XI) (XJ := XJ) l hD0 hI j (hj) (hnp) (hN) (hst) (hyr) _) k_X4_111 (z_preWV hK hP (hP.at (hI.1 0 (by decide)) rfl) rfl) rfl ⟨Nat.le_of_ble_eq_true rfl, Nat.le_of_ble_eq_true rfl⟩ hl.1 rfl (Nat.le_of_ble_eq_true rfl) dX4_surrender_2 ⟨Nat.le_of_ble_eq_true rfl, Nat.le_of_ble_eq_true rfl⟩) hS (hD.free (fun q hq => hA q (Nat.le_trans hS.1 hq))) (fun H locs hP hz1 hk1 hS => ?_)
  have hP : zP D Rs ad (gS ks ad np ng G (u2 (u2 MI 0 7 0) 0 7 0) MJ XI XJ) H := hP
  refine lv_if_ne (tgt := 10) hx hb dX4_surrender_5 (by decide) (fun c_1 => ?_) (fun c_1 => ?_)
  · refine lv_aload_n hx hb dX4_surrender_10 rfl (lv_at hl 0 rfl) ?_
    refine lv_iload_n hx hb dX4_surrender_11 rfl (lv_at hl 1 rfl) ?_
    refine z_backR1 (z_runV ⟨hx, hb, hml, hown, hT⟩ (rest := []) (As := [.int (nI j)]) (c_X4_worthOf (MI := u2 (u2 MI 0 7 0) 0 7 0) (MJ := MJ) (XI := XI) (XJ := XJ) l hI j (hj) (hnp) (hN) (hd) (ht)) k_X4_114 (z_preRV hK hP (hP.at (hI.1 0 (by decide)) rfl) rfl) rfl ⟨Nat.le_of_ble_eq_true rfl, Nat.le_of_ble_eq_true rfl⟩ hl.1 rfl (Nat.le_of_ble_eq_true rfl) dX4_surrender_12 ⟨Nat.le_of_ble_eq_true rfl, Nat.le_of_ble_eq_true rfl⟩) ?_
    refine lv_l2i hx hb dX4_surrender_15 rfl ?_
    refine lv_istore_n (lv' := [(2, .int (Int64.toInt32 (mWorth (u2 (u2 MI 0 7 0) 0 7 0) MJ np j))), (0, .ref (ad 0)), (1, .int (nI j))]) hx hb dX4_surrender_16 rfl hl (by decide) rfl (fun ls hl => ?_)
    refine lv_aload_n hx hb dX4_surrender_17 rfl (lv_at hl 1 rfl) ?_
    refine lv_iload_n hx hb dX4_surrender_18 rfl (lv_at hl 2 rfl) ?_
    refine lv_iconst (v := 2) hx hb dX4_surrender_19 (by decide) ?_
    refine lv_aload_n hx hb dX4_surrender_20 rfl (lv_at hl 1 rfl) ?_
    refine lv_iload_n hx hb dX4_surrender_21 rfl (lv_at hl 2 rfl) ?_
    refine z_backR1 (z_runV ⟨hx, hb, hml, hown, hT⟩ (rest := [.int 2, .int (nI j), .ref (ad 0)]) (As := [.int (nI j)]) (c_X4_share (MI := u2 (u2 MI 0 7 0) 0 7 0) (MJ := MJ) (XI := XI) (XJ := XJ) l hI j (hj) (hnp) (hN) (hd)) k_X4_95 (z_preRV hK hP (hP.at (hI.1 0 (by decide)) rfl) rfl) rfl ⟨Nat.le_of_ble_eq_true rfl, Nat.le_of_ble_eq_true rfl⟩ hl.1 rfl (Nat.le_of_ble_eq_true rfl) dX4_surrender_22 ⟨Nat.le_of_ble_eq_true rfl, Nat.le_of_ble_eq_true rfl⟩) ?_
    refine lv_iload_n hx hb dX4_surrender_25 rfl (lv_at hl 0 rfl) ?_
    refine z_backW0 (z_runV ⟨hx, hb, hml, hown, hT⟩ (rest := []) (As := [.int (nI j), .int 2, .long (mShare (u2 (u2 MI 0 7 0) 0 7 0) MJ np j), .int (Int64.toInt32 (mWorth (u2 (u2 MI 0 7 0) 0 7 0) MJ np j))]) (c_X4_leaves (MI := u2 (u2 MI 0 7 0) 0 7 0) (MJ := MJ) (XI := XI) (XJ := XJ) l hD0 hI j 2 (mShare (u2 (u2 MI 0 7 0) 0 7 0) MJ np j) (Int64.toInt32 (mWorth (u2 (u2 MI 0 7 0) 0 7 0) MJ np j)) (hj) (hnp) (hN) _) k_X4_117 (z_preWV hK hP (hP.at (hI.1 0 (by decide)) rfl) rfl) rfl ⟨Nat.le_of_ble_eq_true rfl, Nat.le_of_ble_eq_true rfl⟩ hl.1 rfl (Nat.le_of_ble_eq_true rfl) dX4_surrender_26 ⟨Nat.le_of_ble_eq_true rfl, Nat.le_of_ble_eq_true rfl⟩) hS (hD.free (fun q hq => hA q (Nat.le_trans hS.1 hq))) (fun H locs hP hz1 hk1 hS => ?_)
    have hP : zP D Rs ad (gS ks ad np ng G (u2 (u2 (u2 (u2 MI 0 7 0) 0 7 0) 5 j 2) 7 j (Int64.toInt32 (mWorth (u2 (u2 MI 0 7 0) 0 7 0) MJ np j))) (lvJ (mPr (u2 (u2 (u2 (u2 MI 0 7 0) 0 7 0) 5 j 2) 7 j (Int64.toInt32 (mWorth (u2 (u2 MI 0 7 0) 0 7 0) MJ np j))) np j) MJ (hm (u2 (u2 MI 0 7 0) 0 7 0) np j) (mShare (u2 (u2 MI 0 7 0) 0 7 0) MJ np j) (Int64.toInt32 (mWorth (u2 (u2 MI 0 7 0) 0 7 0) MJ np j))) XI XJ) H := hP
    refine lv_iload_n hx hb dX4_surrender_29 rfl (lv_at hl 0 rfl) ?_
    exact zW_i hx hb hr hlk hS (Nat.le_of_ble_eq_true rfl) (Nat.le_of_ble_eq_true rfl) dX4_surrender_30 (rfl) (by first | exact hP | (subst hx; exact hP))
  · exact absurd ((rfl).symm.trans c_1) (by decide)
set_option maxHeartbeats 4000000 in
set_option maxRecDepth 100000 in
theorem c_X4_surrender_no (l : Launch) (hD0 : zD (fun _ => True) Rs ad) (hI : zIn Rs np ng) (j : Nat) (hj : j < np) (hnp : MI 0 6 = nI np) (hN : np ≤ 30) (hno : ¬ (MI 5 j = 0 ∧ MI 1 j < MI 0 0)) (sz : Nat) : zMW l yX4_surrender cX4_surrender 3 ((some .int)) 3 (64) 0 0 D ks sz [.ref (ad 0), .int (nI j)] (zP D Rs ad (gS ks ad np ng G MI MJ XI XJ)) (some (.int (0))) (zP D Rs ad (gS ks ad np ng G (u2 (u2 MI 0 7 0) 0 7 2) MJ XI XJ)) (zA Rs ad sz) := by
  refine zMW.of (by decide +kernel) (Nat.le_of_ble_eq_true rfl) ?_
  intro p e s m below meth c ls hx hb hr hml hown hlk hT hsz hP hK hl hin
  have hl : lv_has ls 3 [(0, .ref (ad 0)), (1, .int (nI j))] := hl
  subst hsz
  have hD := hD0.self (sz := s.heap.size)
  have hA : ∀ q : Nat, s.heap.size ≤ q → zA Rs ad s.heap.size q := fun q h => Or.inr h
  have hS : va_S (zA Rs ad s.heap.size) s.heap s.heap [] := va_S.rf
  refine lv_aload_n hx hb dX4_surrender_0 rfl (lv_at hl 0 rfl) ?_
  refine lv_iload_n hx hb dX4_surrender_1 rfl (lv_at hl 1 rfl) ?_
  refine z_backW1 (z_runV ⟨hx, hb, hml, hown, hT⟩ (rest := []) (As := [.int (nI j)]) (c_X4_canLeave_no (MI := MI) (MJ := MJ) (XI := XI) (XJ := XJ) l hD0 hI j (hj) (hnp) (hN) (hno) _) k_X4_111 (z_preWV hK hP (hP.at (hI.1 0 (by decide)) rfl) rfl) rfl ⟨Nat.le_of_ble_eq_true rfl, Nat.le_of_ble_eq_true rfl⟩ hl.1 rfl (Nat.le_of_ble_eq_true rfl) dX4_surrender_2 ⟨Nat.le_of_ble_eq_true rfl, Nat.le_of_ble_eq_true rfl⟩) hS (hD.free (fun q hq => hA q (Nat.le_trans hS.1 hq))) (fun H locs hP hz1 hk1 hS => ?_)
  have hP : zP D Rs ad (gS ks ad np ng G (u2 (u2 MI 0 7 0) 0 7 2) MJ XI XJ) H := hP
  refine lv_if_ne (tgt := 10) hx hb dX4_surrender_5 (by decide) (fun c_1 => ?_) (fun c_1 => ?_)
  · exact absurd c_1 (by decide)
  · refine lv_iconst (v := 0) hx hb dX4_surrender_8 (by decide) ?_
    exact zW_i hx hb hr hlk hS (Nat.le_of_ble_eq_true rfl) (Nat.le_of_ble_eq_true rfl) dX4_surrender_9 (rfl) (hP)
set_option maxHeartbeats 4000000 in
set_option maxRecDepth 100000 in
theorem c_X4_surrender_bad (l : Launch) (hD0 : zD (fun _ => True) Rs ad) (hI : zIn Rs np ng) (q : Int32) (hq : fIn q 0 (MI 0 6 - 1) = 0) (sz : Nat) : zMW l yX4_surrender cX4_surrender 3 ((some .int)) 3 (64) 0 0 D ks sz [.ref (ad 0), .int q] (zP D Rs ad (gS ks ad np ng G MI MJ XI XJ)) (some (.int (0))) (zP D Rs ad (gS ks ad np ng G (u2 MI 0 7 1) MJ XI XJ)) (zA Rs ad sz) := by
  refine zMW.of (by decide +kernel) (Nat.le_of_ble_eq_true rfl) ?_
  intro p e s m below meth c ls hx hb hr hml hown hlk hT hsz hP hK hl hin
  have hl : lv_has ls 3 [(0, .ref (ad 0)), (1, .int q)] := hl
  subst hsz
  have hD := hD0.self (sz := s.heap.size)
  have hA : ∀ q : Nat, s.heap.size ≤ q → zA Rs ad s.heap.size q := fun q h => Or.inr h
  have hS : va_S (zA Rs ad s.heap.size) s.heap s.heap [] := va_S.rf
  refine lv_aload_n hx hb dX4_surrender_0 rfl (lv_at hl 0 rfl) ?_
  refine lv_iload_n hx hb dX4_surrender_1 rfl (lv_at hl 1 rfl) ?_
  refine z_backW1 (z_runV ⟨hx, hb, hml, hown, hT⟩ (rest := []) (As := [.int q]) (c_X4_canLeave_bad (MI := MI) (MJ := MJ) (XI := XI) (XJ := XJ) l hD0 hI q (hq) _) k_X4_111 (z_preWV hK hP (hP.at (hI.1 0 (by decide)) rfl) rfl) rfl ⟨Nat.le_of_ble_eq_true rfl, Nat.le_of_ble_eq_true rfl⟩ hl.1 rfl (Nat.le_of_ble_eq_true rfl) dX4_surrender_2 ⟨Nat.le_of_ble_eq_true rfl, Nat.le_of_ble_eq_true rfl⟩) hS (hD.free (fun q hq => hA q (Nat.le_trans hS.1 hq))) (fun H locs hP hz1 hk1 hS => ?_)
  have hP : zP D Rs ad (gS ks ad np ng G (u2 MI 0 7 1) MJ XI XJ) H := hP
  refine lv_if_ne (tgt := 10) hx hb dX4_surrender_5 (by decide) (fun c_1 => ?_) (fun c_1 => ?_)
  · exact absurd c_1 (by decide)
  · refine lv_iconst (v := 0) hx hb dX4_surrender_8 (by decide) ?_
    exact zW_i hx hb hr hlk hS (Nat.le_of_ble_eq_true rfl) (Nat.le_of_ble_eq_true rfl) dX4_surrender_9 (rfl) (hP)
set_option maxHeartbeats 4000000 in
set_option maxRecDepth 100000 in
theorem c_X4_setRates_ok (l : Launch) (hD0 : zD (fun _ => True) Rs ad) (hI : zIn Rs np ng) (bo : Int32) (ch : Int32) (h0 : fIn bo 0 200 = 1) (h1 : fIn ch 0 100 = 1) (sz : Nat) : zMW l yX4_setRates cX4_setRates 4 ((some .int)) 1 (22) 0 0 D ks sz [.ref (ad 0), .int bo, .int ch] (zP D Rs ad (gS ks ad np ng G MI MJ XI XJ)) (some (.int (MI 0 1))) (zP D Rs ad (gS ks ad np ng G (u2 (u2 (u2 MI 0 7 0) 0 1 bo) 0 2 ch) MJ XI XJ)) (zA Rs ad sz) := by
  refine zMW.of (by decide +kernel) (Nat.le_of_ble_eq_true rfl) ?_
  intro p e s m below meth c ls hx hb hr hml hown hlk hT hsz hP hK hl hin
  have hl : lv_has ls 4 [(0, .ref (ad 0)), (1, .int bo), (2, .int ch)] := hl
  subst hsz
  have hD := hD0.self (sz := s.heap.size)
  have hA : ∀ q : Nat, s.heap.size ≤ q → zA Rs ad s.heap.size q := fun q h => Or.inr h
  have hS : va_S (zA Rs ad s.heap.size) s.heap s.heap [] := va_S.rf
  refine lv_aload_n hx hb dX4_setRates_0 rfl (lv_at hl 0 rfl) ?_
  refine lv_iload_n hx hb dX4_setRates_1 rfl (lv_at hl 1 rfl) ?_
  refine lv_iconst (v := 0) hx hb dX4_setRates_2 (by decide) ?_
  refine lv_sipush (v := 200) hx hb dX4_setRates_3 (by decide) ?_
  refine z_backR1 (z_runS ⟨hx, hb, hml, hown, hT⟩ (rest := [.ref (ad 0)]) (As := [.int bo, .int 0, .int 200]) (c_X4_in l D ks bo 0 200 ) k_X4_66 (z_preR hK trivial) rfl ⟨Nat.le_of_ble_eq_true rfl, Nat.le_of_ble_eq_true rfl⟩ hl.1 rfl (Nat.le_of_ble_eq_true rfl) dX4_setRates_6 ⟨Nat.le_of_ble_eq_true rfl, Nat.le_of_ble_eq_true rfl⟩) ?_
  refine lv_if_eq (tgt := 26) hx hb dX4_setRates_9 (by decide) (fun c_1 => ?_) (fun c_1 => ?_)
  · exact absurd ((h0).symm.trans c_1) (by decide)
  · refine lv_iload_n hx hb dX4_setRates_12 rfl (lv_at hl 2 rfl) ?_
    refine lv_iconst (v := 0) hx hb dX4_setRates_13 (by decide) ?_
    refine lv_bipush (v := 100) hx hb dX4_setRates_14 (by decide) ?_
    refine z_backR1 (z_runS ⟨hx, hb, hml, hown, hT⟩ (rest := [.ref (ad 0)]) (As := [.int ch, .int 0, .int 100]) (c_X4_in l D ks ch 0 100 ) k_X4_66 (z_preR hK trivial) rfl ⟨Nat.le_of_ble_eq_true rfl, Nat.le_of_ble_eq_true rfl⟩ hl.1 rfl (Nat.le_of_ble_eq_true rfl) dX4_setRates_16 ⟨Nat.le_of_ble_eq_true rfl, Nat.le_of_ble_eq_true rfl⟩) ?_
    refine lv_if_eq (tgt := 26) hx hb dX4_setRates_19 (by decide) (fun c_2 => ?_) (fun c_2 => ?_)
    · exact absurd ((h1).symm.trans c_2) (by decide)
    · refine lv_iconst (v := 0) hx hb dX4_setRates_22 (by decide) ?_
      refine lv_goto (tgt := 27) hx hb dX4_setRates_23 (by decide) ?_
      refine pf_X4_60 hx hb hT hown hK hP hD hS (hI.1 0 (by decide)) (v := 0) dX4_setRates_27 (fun H locs hP hS => ?_)
      refine lv_aload_n hx hb dX4_setRates_30 rfl (lv_at hl 0 rfl) ?_
      refine gf_X4_60 hx hb hT hown hK (v := .int 0) (hP.at (hI.1 0 (by decide)) rfl) rfl dX4_setRates_31 ?_
      refine lv_if_le (tgt := 39) hx hb dX4_setRates_34 (by decide) (fun c_3 => ?_) (fun c_3 => ?_)
      · refine lv_aload_n hx hb dX4_setRates_39 rfl (lv_at hl 0 rfl) ?_
        refine gf_X4_7 hx hb hT hown hK (v := .int (MI 0 1)) (hP.at (hI.1 0 (by decide)) rfl) rfl dX4_setRates_40 ?_
        refine lv_istore_n (lv' := [(3, .int (MI 0 1)), (0, .ref (ad 0)), (1, .int bo), (2, .int ch)]) hx hb dX4_setRates_43 rfl hl (by decide) rfl (fun ls hl => ?_)
        refine lv_aload_n hx hb dX4_setRates_44 rfl (lv_at hl 1 rfl) ?_
        refine lv_iload_n hx hb dX4_setRates_45 rfl (lv_at hl 2 rfl) ?_
        refine pf_X4_7 hx hb hT hown hK hP hD hS (hI.1 0 (by decide)) (v := bo) dX4_setRates_46 (fun H locs hP hS => ?_)
        refine lv_aload_n hx hb dX4_setRates_49 rfl (lv_at hl 1 rfl) ?_
        refine lv_iload_n hx hb dX4_setRates_50 rfl (lv_at hl 3 rfl) ?_
        refine pf_X4_13 hx hb hT hown hK hP hD hS (hI.1 0 (by decide)) (v := ch) dX4_setRates_51 (fun H locs hP hS => ?_)
        refine lv_iload_n hx hb dX4_setRates_54 rfl (lv_at hl 0 rfl) ?_
        exact zW_i hx hb hr hlk hS (Nat.le_of_ble_eq_true rfl) (Nat.le_of_ble_eq_true rfl) dX4_setRates_55 (rfl) (hP)
      · exact absurd c_3 (by decide)
set_option maxHeartbeats 4000000 in
set_option maxRecDepth 100000 in
theorem c_X4_setRates_bad (l : Launch) (hD0 : zD (fun _ => True) Rs ad) (hI : zIn Rs np ng) (bo : Int32) (ch : Int32) (hq : fIn bo 0 200 = 0 ∨ fIn ch 0 100 = 0) (sz : Nat) : zMW l yX4_setRates cX4_setRates 4 ((some .int)) 1 (22) 0 0 D ks sz [.ref (ad 0), .int bo, .int ch] (zP D Rs ad (gS ks ad np ng G MI MJ XI XJ)) (some (.int (0))) (zP D Rs ad (gS ks ad np ng G (u2 MI 0 7 1) MJ XI XJ)) (zA Rs ad sz) := by
  refine zMW.of (by decide +kernel) (Nat.le_of_ble_eq_true rfl) ?_
  intro p e s m below meth c ls hx hb hr hml hown hlk hT hsz hP hK hl hin
  have hl : lv_has ls 4 [(0, .ref (ad 0)), (1, .int bo), (2, .int ch)] := hl
  subst hsz
  have hD := hD0.self (sz := s.heap.size)
  have hA : ∀ q : Nat, s.heap.size ≤ q → zA Rs ad s.heap.size q := fun q h => Or.inr h
  have hS : va_S (zA Rs ad s.heap.size) s.heap s.heap [] := va_S.rf
  refine lv_aload_n hx hb dX4_setRates_0 rfl (lv_at hl 0 rfl) ?_
  refine lv_iload_n hx hb dX4_setRates_1 rfl (lv_at hl 1 rfl) ?_
  refine lv_iconst (v := 0) hx hb dX4_setRates_2 (by decide) ?_
  refine lv_sipush (v := 200) hx hb dX4_setRates_3 (by decide) ?_
  refine z_backR1 (z_runS ⟨hx, hb, hml, hown, hT⟩ (rest := [.ref (ad 0)]) (As := [.int bo, .int 0, .int 200]) (c_X4_in l D ks bo 0 200 ) k_X4_66 (z_preR hK trivial) rfl ⟨Nat.le_of_ble_eq_true rfl, Nat.le_of_ble_eq_true rfl⟩ hl.1 rfl (Nat.le_of_ble_eq_true rfl) dX4_setRates_6 ⟨Nat.le_of_ble_eq_true rfl, Nat.le_of_ble_eq_true rfl⟩) ?_
  refine lv_if_eq (tgt := 26) hx hb dX4_setRates_9 (by decide) (fun c_1 => ?_) (fun c_1 => ?_)
  · refine lv_iconst (v := 1) hx hb dX4_setRates_26 (by decide) ?_
    refine pf_X4_60 hx hb hT hown hK hP hD hS (hI.1 0 (by decide)) (v := 1) dX4_setRates_27 (fun H locs hP hS => ?_)
    refine lv_aload_n hx hb dX4_setRates_30 rfl (lv_at hl 0 rfl) ?_
    refine gf_X4_60 hx hb hT hown hK (v := .int 1) (hP.at (hI.1 0 (by decide)) rfl) rfl dX4_setRates_31 ?_
    refine lv_if_le (tgt := 39) hx hb dX4_setRates_34 (by decide) (fun c_2 => ?_) (fun c_2 => ?_)
    · exact absurd c_2 (by decide)
    · refine lv_iconst (v := 0) hx hb dX4_setRates_37 (by decide) ?_
      exact zW_i hx hb hr hlk hS (Nat.le_of_ble_eq_true rfl) (Nat.le_of_ble_eq_true rfl) dX4_setRates_38 (rfl) (hP)
  · refine lv_iload_n hx hb dX4_setRates_12 rfl (lv_at hl 2 rfl) ?_
    refine lv_iconst (v := 0) hx hb dX4_setRates_13 (by decide) ?_
    refine lv_bipush (v := 100) hx hb dX4_setRates_14 (by decide) ?_
    refine z_backR1 (z_runS ⟨hx, hb, hml, hown, hT⟩ (rest := [.ref (ad 0)]) (As := [.int ch, .int 0, .int 100]) (c_X4_in l D ks ch 0 100 ) k_X4_66 (z_preR hK trivial) rfl ⟨Nat.le_of_ble_eq_true rfl, Nat.le_of_ble_eq_true rfl⟩ hl.1 rfl (Nat.le_of_ble_eq_true rfl) dX4_setRates_16 ⟨Nat.le_of_ble_eq_true rfl, Nat.le_of_ble_eq_true rfl⟩) ?_
    refine lv_if_eq (tgt := 26) hx hb dX4_setRates_19 (by decide) (fun c_3 => ?_) (fun c_3 => ?_)
    · refine lv_iconst (v := 1) hx hb dX4_setRates_26 (by decide) ?_
      refine pf_X4_60 hx hb hT hown hK hP hD hS (hI.1 0 (by decide)) (v := 1) dX4_setRates_27 (fun H locs hP hS => ?_)
      refine lv_aload_n hx hb dX4_setRates_30 rfl (lv_at hl 0 rfl) ?_
      refine gf_X4_60 hx hb hT hown hK (v := .int 1) (hP.at (hI.1 0 (by decide)) rfl) rfl dX4_setRates_31 ?_
      refine lv_if_le (tgt := 39) hx hb dX4_setRates_34 (by decide) (fun c_4 => ?_) (fun c_4 => ?_)
      · exact absurd c_4 (by decide)
      · refine lv_iconst (v := 0) hx hb dX4_setRates_37 (by decide) ?_
        exact zW_i hx hb hr hlk hS (Nat.le_of_ble_eq_true rfl) (Nat.le_of_ble_eq_true rfl) dX4_setRates_38 (rfl) (hP)
    · exact absurd hq (not_or.mpr ⟨c_1, c_3⟩)
set_option maxHeartbeats 4000000 in
set_option maxRecDepth 100000 in
theorem c_X4_setScale_ok (l : Launch) (hD0 : zD (fun _ => True) Rs ad) (hI : zIn Rs np ng) (sc : Int32) (sp : Int32) (fl : Int32) (h0 : fIn sc 500 1500 = 1) (h1 : fIn sp 0 1000 = 1) (h2 : fIn fl 0 1000 = 1) (sz : Nat) : zMW l yX4_setScale cX4_setScale 5 ((some .int)) 1 (22) 0 0 D ks sz [.ref (ad 0), .int sc, .int sp, .int fl] (zP D Rs ad (gS ks ad np ng G MI MJ XI XJ)) (some (.int (MI 0 3))) (zP D Rs ad (gS ks ad np ng G (u2 (u2 (u2 (u2 MI 0 7 0) 0 3 sc) 0 4 sp) 0 5 fl) MJ XI XJ)) (zA Rs ad sz) := by
  refine zMW.of (by decide +kernel) (Nat.le_of_ble_eq_true rfl) ?_
  intro p e s m below meth c ls hx hb hr hml hown hlk hT hsz hP hK hl hin
  have hl : lv_has ls 5 [(0, .ref (ad 0)), (1, .int sc), (2, .int sp), (3, .int fl)] := hl
  subst hsz
  have hD := hD0.self (sz := s.heap.size)
  have hA : ∀ q : Nat, s.heap.size ≤ q → zA Rs ad s.heap.size q := fun q h => Or.inr h
  have hS : va_S (zA Rs ad s.heap.size) s.heap s.heap [] := va_S.rf
  refine lv_aload_n hx hb dX4_setScale_0 rfl (lv_at hl 0 rfl) ?_
  refine lv_iload_n hx hb dX4_setScale_1 rfl (lv_at hl 1 rfl) ?_
  refine lv_sipush (v := 500) hx hb dX4_setScale_2 (by decide) ?_
  refine lv_sipush (v := 1500) hx hb dX4_setScale_5 (by decide) ?_
  refine z_backR1 (z_runS ⟨hx, hb, hml, hown, hT⟩ (rest := [.ref (ad 0)]) (As := [.int sc, .int 500, .int 1500]) (c_X4_in l D ks sc 500 1500 ) k_X4_66 (z_preR hK trivial) rfl ⟨Nat.le_of_ble_eq_true rfl, Nat.le_of_ble_eq_true rfl⟩ hl.1 rfl (Nat.le_of_ble_eq_true rfl) dX4_setScale_8 ⟨Nat.le_of_ble_eq_true rfl, Nat.le_of_ble_eq_true rfl⟩) ?_
  refine lv_if_eq (tgt := 40) hx hb dX4_setScale_11 (by decide) (fun c_1 => ?_) (fun c_1 => ?_)
  · exact absurd ((h0).symm.trans c_1) (by decide)
  · refine lv_iload_n hx hb dX4_setScale_14 rfl (lv_at hl 2 rfl) ?_
    refine lv_iconst (v := 0) hx hb dX4_setScale_15 (by decide) ?_
    refine lv_sipush (v := 1000) hx hb dX4_setScale_16 (by decide) ?_
    refine z_backR1 (z_runS ⟨hx, hb, hml, hown, hT⟩ (rest := [.ref (ad 0)]) (As := [.int sp, .int 0, .int 1000]) (c_X4_in l D ks sp 0 1000 ) k_X4_66 (z_preR hK trivial) rfl ⟨Nat.le_of_ble_eq_true rfl, Nat.le_of_ble_eq_true rfl⟩ hl.1 rfl (Nat.le_of_ble_eq_true rfl) dX4_setScale_19 ⟨Nat.le_of_ble_eq_true rfl, Nat.le_of_ble_eq_true rfl⟩) ?_
    refine lv_if_eq (tgt := 40) hx hb dX4_setScale_22 (by decide) (fun c_2 => ?_) (fun c_2 => ?_)
    · exact absurd ((h1).symm.trans c_2) (by decide)
    · refine lv_iload_n hx hb dX4_setScale_25 rfl (lv_at hl 3 rfl) ?_
      refine lv_iconst (v := 0) hx hb dX4_setScale_26 (by decide) ?_
      refine lv_sipush (v := 1000) hx hb dX4_setScale_27 (by decide) ?_
      refine z_backR1 (z_runS ⟨hx, hb, hml, hown, hT⟩ (rest := [.ref (ad 0)]) (As := [.int fl, .int 0, .int 1000]) (c_X4_in l D ks fl 0 1000 ) k_X4_66 (z_preR hK trivial) rfl ⟨Nat.le_of_ble_eq_true rfl, Nat.le_of_ble_eq_true rfl⟩ hl.1 rfl (Nat.le_of_ble_eq_true rfl) dX4_setScale_30 ⟨Nat.le_of_ble_eq_true rfl, Nat.le_of_ble_eq_true rfl⟩) ?_
      refine lv_if_eq (tgt := 40) hx hb dX4_setScale_33 (by decide) (fun c_3 => ?_) (fun c_3 => ?_)
      · exact absurd ((h2).symm.trans c_3) (by decide)
      · refine lv_iconst (v := 0) hx hb dX4_setScale_36 (by decide) ?_
        refine lv_goto (tgt := 41) hx hb dX4_setScale_37 (by decide) ?_
        refine pf_X4_60 hx hb hT hown hK hP hD hS (hI.1 0 (by decide)) (v := 0) dX4_setScale_41 (fun H locs hP hS => ?_)
        refine lv_aload_n hx hb dX4_setScale_44 rfl (lv_at hl 0 rfl) ?_
        refine gf_X4_60 hx hb hT hown hK (v := .int 0) (hP.at (hI.1 0 (by decide)) rfl) rfl dX4_setScale_45 ?_
        refine lv_if_le (tgt := 53) hx hb dX4_setScale_48 (by decide) (fun c_4 => ?_) (fun c_4 => ?_)
        · refine lv_aload_n hx hb dX4_setScale_53 rfl (lv_at hl 0 rfl) ?_
          refine gf_X4_16 hx hb hT hown hK (v := .int (MI 0 3)) (hP.at (hI.1 0 (by decide)) rfl) rfl dX4_setScale_54 ?_
          refine lv_istore (lv' := [(4, .int (MI 0 3)), (0, .ref (ad 0)), (1, .int sc), (2, .int sp), (3, .int fl)]) hx hb dX4_setScale_57 hl (by decide) rfl (fun ls hl => ?_)
          refine lv_aload_n hx hb dX4_setScale_59 rfl (lv_at hl 1 rfl) ?_
          refine lv_iload_n hx hb dX4_setScale_60 rfl (lv_at hl 2 rfl) ?_
          refine pf_X4_16 hx hb hT hown hK hP hD hS (hI.1 0 (by decide)) (v := sc) dX4_setScale_61 (fun H locs hP hS => ?_)
          refine lv_aload_n hx hb dX4_setScale_64 rfl (lv_at hl 1 rfl) ?_
          refine lv_iload_n hx hb dX4_setScale_65 rfl (lv_at hl 3 rfl) ?_
          refine pf_X4_19 hx hb hT hown hK hP hD hS (hI.1 0 (by decide)) (v := sp) dX4_setScale_66 (fun H locs hP hS => ?_)
          refine lv_aload_n hx hb dX4_setScale_69 rfl (lv_at hl 1 rfl) ?_
          refine lv_iload_n hx hb dX4_setScale_70 rfl (lv_at hl 4 rfl) ?_
          refine pf_X4_22 hx hb hT hown hK hP hD hS (hI.1 0 (by decide)) (v := fl) dX4_setScale_71 (fun H locs hP hS => ?_)
          refine lv_iload hx hb dX4_setScale_74 (lv_at hl 0 rfl) ?_
          exact zW_i hx hb hr hlk hS (Nat.le_of_ble_eq_true rfl) (Nat.le_of_ble_eq_true rfl) dX4_setScale_76 (rfl) (hP)
        · exact absurd c_4 (by decide)
set_option maxHeartbeats 4000000 in
set_option maxRecDepth 100000 in
theorem c_X4_setScale_bad (l : Launch) (hD0 : zD (fun _ => True) Rs ad) (hI : zIn Rs np ng) (sc : Int32) (sp : Int32) (fl : Int32) (hq : fIn sc 500 1500 = 0 ∨ fIn sp 0 1000 = 0 ∨ fIn fl 0 1000 = 0) (sz : Nat) : zMW l yX4_setScale cX4_setScale 5 ((some .int)) 1 (22) 0 0 D ks sz [.ref (ad 0), .int sc, .int sp, .int fl] (zP D Rs ad (gS ks ad np ng G MI MJ XI XJ)) (some (.int (0))) (zP D Rs ad (gS ks ad np ng G (u2 MI 0 7 1) MJ XI XJ)) (zA Rs ad sz) := by
  refine zMW.of (by decide +kernel) (Nat.le_of_ble_eq_true rfl) ?_
  intro p e s m below meth c ls hx hb hr hml hown hlk hT hsz hP hK hl hin
  have hl : lv_has ls 5 [(0, .ref (ad 0)), (1, .int sc), (2, .int sp), (3, .int fl)] := hl
  subst hsz
  have hD := hD0.self (sz := s.heap.size)
  have hA : ∀ q : Nat, s.heap.size ≤ q → zA Rs ad s.heap.size q := fun q h => Or.inr h
  have hS : va_S (zA Rs ad s.heap.size) s.heap s.heap [] := va_S.rf
  refine lv_aload_n hx hb dX4_setScale_0 rfl (lv_at hl 0 rfl) ?_
  refine lv_iload_n hx hb dX4_setScale_1 rfl (lv_at hl 1 rfl) ?_
  refine lv_sipush (v := 500) hx hb dX4_setScale_2 (by decide) ?_
  refine lv_sipush (v := 1500) hx hb dX4_setScale_5 (by decide) ?_
  refine z_backR1 (z_runS ⟨hx, hb, hml, hown, hT⟩ (rest := [.ref (ad 0)]) (As := [.int sc, .int 500, .int 1500]) (c_X4_in l D ks sc 500 1500 ) k_X4_66 (z_preR hK trivial) rfl ⟨Nat.le_of_ble_eq_true rfl, Nat.le_of_ble_eq_true rfl⟩ hl.1 rfl (Nat.le_of_ble_eq_true rfl) dX4_setScale_8 ⟨Nat.le_of_ble_eq_true rfl, Nat.le_of_ble_eq_true rfl⟩) ?_
  refine lv_if_eq (tgt := 40) hx hb dX4_setScale_11 (by decide) (fun c_1 => ?_) (fun c_1 => ?_)
  · refine lv_iconst (v := 1) hx hb dX4_setScale_40 (by decide) ?_
    refine pf_X4_60 hx hb hT hown hK hP hD hS (hI.1 0 (by decide)) (v := 1) dX4_setScale_41 (fun H locs hP hS => ?_)
    refine lv_aload_n hx hb dX4_setScale_44 rfl (lv_at hl 0 rfl) ?_
    refine gf_X4_60 hx hb hT hown hK (v := .int 1) (hP.at (hI.1 0 (by decide)) rfl) rfl dX4_setScale_45 ?_
    refine lv_if_le (tgt := 53) hx hb dX4_setScale_48 (by decide) (fun c_2 => ?_) (fun c_2 => ?_)
    · exact absurd c_2 (by decide)
    · refine lv_iconst (v := 0) hx hb dX4_setScale_51 (by decide) ?_
      exact zW_i hx hb hr hlk hS (Nat.le_of_ble_eq_true rfl) (Nat.le_of_ble_eq_true rfl) dX4_setScale_52 (rfl) (hP)
  · refine lv_iload_n hx hb dX4_setScale_14 rfl (lv_at hl 2 rfl) ?_
    refine lv_iconst (v := 0) hx hb dX4_setScale_15 (by decide) ?_
    refine lv_sipush (v := 1000) hx hb dX4_setScale_16 (by decide) ?_
    refine z_backR1 (z_runS ⟨hx, hb, hml, hown, hT⟩ (rest := [.ref (ad 0)]) (As := [.int sp, .int 0, .int 1000]) (c_X4_in l D ks sp 0 1000 ) k_X4_66 (z_preR hK trivial) rfl ⟨Nat.le_of_ble_eq_true rfl, Nat.le_of_ble_eq_true rfl⟩ hl.1 rfl (Nat.le_of_ble_eq_true rfl) dX4_setScale_19 ⟨Nat.le_of_ble_eq_true rfl, Nat.le_of_ble_eq_true rfl⟩) ?_
    refine lv_if_eq (tgt := 40) hx hb dX4_setScale_22 (by decide) (fun c_3 => ?_) (fun c_3 => ?_)
    · refine lv_iconst (v := 1) hx hb dX4_setScale_40 (by decide) ?_
      refine pf_X4_60 hx hb hT hown hK hP hD hS (hI.1 0 (by decide)) (v := 1) dX4_setScale_41 (fun H locs hP hS => ?_)
      refine lv_aload_n hx hb dX4_setScale_44 rfl (lv_at hl 0 rfl) ?_
      refine gf_X4_60 hx hb hT hown hK (v := .int 1) (hP.at (hI.1 0 (by decide)) rfl) rfl dX4_setScale_45 ?_
      refine lv_if_le (tgt := 53) hx hb dX4_setScale_48 (by decide) (fun c_4 => ?_) (fun c_4 => ?_)
      · exact absurd c_4 (by decide)
      · refine lv_iconst (v := 0) hx hb dX4_setScale_51 (by decide) ?_
        exact zW_i hx hb hr hlk hS (Nat.le_of_ble_eq_true rfl) (Nat.le_of_ble_eq_true rfl) dX4_setScale_52 (rfl) (hP)
    · refine lv_iload_n hx hb dX4_setScale_25 rfl (lv_at hl 3 rfl) ?_
      refine lv_iconst (v := 0) hx hb dX4_setScale_26 (by decide) ?_
      refine lv_sipush (v := 1000) hx hb dX4_setScale_27 (by decide) ?_
      refine z_backR1 (z_runS ⟨hx, hb, hml, hown, hT⟩ (rest := [.ref (ad 0)]) (As := [.int fl, .int 0, .int 1000]) (c_X4_in l D ks fl 0 1000 ) k_X4_66 (z_preR hK trivial) rfl ⟨Nat.le_of_ble_eq_true rfl, Nat.le_of_ble_eq_true rfl⟩ hl.1 rfl (Nat.le_of_ble_eq_true rfl) dX4_setScale_30 ⟨Nat.le_of_ble_eq_true rfl, Nat.le_of_ble_eq_true rfl⟩) ?_
      refine lv_if_eq (tgt := 40) hx hb dX4_setScale_33 (by decide) (fun c_5 => ?_) (fun c_5 => ?_)
      · refine lv_iconst (v := 1) hx hb dX4_setScale_40 (by decide) ?_
        refine pf_X4_60 hx hb hT hown hK hP hD hS (hI.1 0 (by decide)) (v := 1) dX4_setScale_41 (fun H locs hP hS => ?_)
        refine lv_aload_n hx hb dX4_setScale_44 rfl (lv_at hl 0 rfl) ?_
        refine gf_X4_60 hx hb hT hown hK (v := .int 1) (hP.at (hI.1 0 (by decide)) rfl) rfl dX4_setScale_45 ?_
        refine lv_if_le (tgt := 53) hx hb dX4_setScale_48 (by decide) (fun c_6 => ?_) (fun c_6 => ?_)
        · exact absurd c_6 (by decide)
        · refine lv_iconst (v := 0) hx hb dX4_setScale_51 (by decide) ?_
          exact zW_i hx hb hr hlk hS (Nat.le_of_ble_eq_true rfl) (Nat.le_of_ble_eq_true rfl) dX4_setScale_52 (rfl) (hP)
      · exact absurd hq (not_or.mpr ⟨c_1, not_or.mpr ⟨c_3, c_5⟩⟩)
set_option maxHeartbeats 4000000 in
set_option maxRecDepth 100000 in
theorem c_X4_endow_ok (l : Launch) (hD0 : zD (fun _ => True) Rs ad) (hI : zIn Rs np ng) (am : Int32) (h0 : fIn am (-1000000) 1000000 = 1) (sz : Nat) : zMW l yX4_endow cX4_endow 2 ((some .long)) 1 (22) 0 0 D ks sz [.ref (ad 0), .int am] (zP D Rs ad (gS ks ad np ng G MI MJ XI XJ)) (some (.long (MJ 0 0 + Int32.toInt64 am))) (zP D Rs ad (gS ks ad np ng G (u2 MI 0 7 0) (u2 (u2 MJ 0 0 (MJ 0 0 + Int32.toInt64 am)) 0 1 (MJ 0 1 + Int32.toInt64 am)) XI XJ)) (zA Rs ad sz) := by
  refine zMW.of (by decide +kernel) (Nat.le_of_ble_eq_true rfl) ?_
  intro p e s m below meth c ls hx hb hr hml hown hlk hT hsz hP hK hl hin
  have hl : lv_has ls 2 [(0, .ref (ad 0)), (1, .int am)] := hl
  subst hsz
  have hD := hD0.self (sz := s.heap.size)
  have hA : ∀ q : Nat, s.heap.size ≤ q → zA Rs ad s.heap.size q := fun q h => Or.inr h
  have hS : va_S (zA Rs ad s.heap.size) s.heap s.heap [] := va_S.rf
  refine lv_aload_n hx hb dX4_endow_0 rfl (lv_at hl 0 rfl) ?_
  refine lv_iload_n hx hb dX4_endow_1 rfl (lv_at hl 1 rfl) ?_
  refine lv_ldc (v := (-1000000)) hx hb hown (hT _ ki_X4_121) dX4_endow_2 ?_
  refine lv_ldc (v := 1000000) hx hb hown (hT _ ki_X4_122) dX4_endow_4 ?_
  refine z_backR1 (z_runS ⟨hx, hb, hml, hown, hT⟩ (rest := [.ref (ad 0)]) (As := [.int am, .int (-1000000), .int 1000000]) (c_X4_in l D ks am (-1000000) 1000000 ) k_X4_66 (z_preR hK trivial) rfl ⟨Nat.le_of_ble_eq_true rfl, Nat.le_of_ble_eq_true rfl⟩ hl.1 rfl (Nat.le_of_ble_eq_true rfl) dX4_endow_6 ⟨Nat.le_of_ble_eq_true rfl, Nat.le_of_ble_eq_true rfl⟩) ?_
  refine lv_if_eq (tgt := 16) hx hb dX4_endow_9 (by decide) (fun c_1 => ?_) (fun c_1 => ?_)
  · exact absurd ((h0).symm.trans c_1) (by decide)
  · refine lv_iconst (v := 0) hx hb dX4_endow_12 (by decide) ?_
    refine lv_goto (tgt := 17) hx hb dX4_endow_13 (by decide) ?_
    refine pf_X4_60 hx hb hT hown hK hP hD hS (hI.1 0 (by decide)) (v := 0) dX4_endow_17 (fun H locs hP hS => ?_)
    refine lv_aload_n hx hb dX4_endow_20 rfl (lv_at hl 0 rfl) ?_
    refine gf_X4_60 hx hb hT hown hK (v := .int 0) (hP.at (hI.1 0 (by decide)) rfl) rfl dX4_endow_21 ?_
    refine lv_if_le (tgt := 29) hx hb dX4_endow_24 (by decide) (fun c_2 => ?_) (fun c_2 => ?_)
    · refine lv_aload_n hx hb dX4_endow_29 rfl (lv_at hl 0 rfl) ?_
      refine lv_dup hx hb dX4_endow_30 rfl ?_
      refine gf_X4_84 hx hb hT hown hK (v := .long (MJ 0 0)) (hP.at (hI.1 0 (by decide)) rfl) rfl dX4_endow_31 ?_
      refine lv_iload_n hx hb dX4_endow_34 rfl (lv_at hl 1 rfl) ?_
      refine lv_i2l hx hb dX4_endow_35 rfl ?_
      refine lv_ladd hx hb dX4_endow_36 ?_
      refine pf_X4_84 hx hb hT hown hK hP hD hS (hI.1 0 (by decide)) (v := (MJ 0 0) + (Int32.toInt64 am)) dX4_endow_37 (fun H locs hP hS => ?_)
      refine lv_aload_n hx hb dX4_endow_40 rfl (lv_at hl 0 rfl) ?_
      refine lv_dup hx hb dX4_endow_41 rfl ?_
      refine gf_X4_88 hx hb hT hown hK (v := .long (MJ 0 1)) (hP.at (hI.1 0 (by decide)) rfl) rfl dX4_endow_42 ?_
      refine lv_iload_n hx hb dX4_endow_45 rfl (lv_at hl 1 rfl) ?_
      refine lv_i2l hx hb dX4_endow_46 rfl ?_
      refine lv_ladd hx hb dX4_endow_47 ?_
      refine pf_X4_88 hx hb hT hown hK hP hD hS (hI.1 0 (by decide)) (v := (MJ 0 1) + (Int32.toInt64 am)) dX4_endow_48 (fun H locs hP hS => ?_)
      refine lv_aload_n hx hb dX4_endow_51 rfl (lv_at hl 0 rfl) ?_
      refine gf_X4_84 hx hb hT hown hK (v := .long ((MJ 0 0) + (Int32.toInt64 am))) (hP.at (hI.1 0 (by decide)) rfl) rfl dX4_endow_52 ?_
      exact zW_l hx hb hr hlk hS (Nat.le_of_ble_eq_true rfl) (Nat.le_of_ble_eq_true rfl) dX4_endow_55 (rfl) (hP)
    · exact absurd c_2 (by decide)
set_option maxHeartbeats 4000000 in
set_option maxRecDepth 100000 in
theorem c_X4_endow_bad (l : Launch) (hD0 : zD (fun _ => True) Rs ad) (hI : zIn Rs np ng) (am : Int32) (h0 : fIn am (-1000000) 1000000 = 0) (sz : Nat) : zMW l yX4_endow cX4_endow 2 ((some .long)) 1 (22) 0 0 D ks sz [.ref (ad 0), .int am] (zP D Rs ad (gS ks ad np ng G MI MJ XI XJ)) (some (.long (0))) (zP D Rs ad (gS ks ad np ng G (u2 MI 0 7 1) MJ XI XJ)) (zA Rs ad sz) := by
  refine zMW.of (by decide +kernel) (Nat.le_of_ble_eq_true rfl) ?_
  intro p e s m below meth c ls hx hb hr hml hown hlk hT hsz hP hK hl hin
  have hl : lv_has ls 2 [(0, .ref (ad 0)), (1, .int am)] := hl
  subst hsz
  have hD := hD0.self (sz := s.heap.size)
  have hA : ∀ q : Nat, s.heap.size ≤ q → zA Rs ad s.heap.size q := fun q h => Or.inr h
  have hS : va_S (zA Rs ad s.heap.size) s.heap s.heap [] := va_S.rf
  refine lv_aload_n hx hb dX4_endow_0 rfl (lv_at hl 0 rfl) ?_
  refine lv_iload_n hx hb dX4_endow_1 rfl (lv_at hl 1 rfl) ?_
  refine lv_ldc (v := (-1000000)) hx hb hown (hT _ ki_X4_121) dX4_endow_2 ?_
  refine lv_ldc (v := 1000000) hx hb hown (hT _ ki_X4_122) dX4_endow_4 ?_
  refine z_backR1 (z_runS ⟨hx, hb, hml, hown, hT⟩ (rest := [.ref (ad 0)]) (As := [.int am, .int (-1000000), .int 1000000]) (c_X4_in l D ks am (-1000000) 1000000 ) k_X4_66 (z_preR hK trivial) rfl ⟨Nat.le_of_ble_eq_true rfl, Nat.le_of_ble_eq_true rfl⟩ hl.1 rfl (Nat.le_of_ble_eq_true rfl) dX4_endow_6 ⟨Nat.le_of_ble_eq_true rfl, Nat.le_of_ble_eq_true rfl⟩) ?_
  refine lv_if_eq (tgt := 16) hx hb dX4_endow_9 (by decide) (fun c_1 => ?_) (fun c_1 => ?_)
  · refine lv_iconst (v := 1) hx hb dX4_endow_16 (by decide) ?_
    refine pf_X4_60 hx hb hT hown hK hP hD hS (hI.1 0 (by decide)) (v := 1) dX4_endow_17 (fun H locs hP hS => ?_)
    refine lv_aload_n hx hb dX4_endow_20 rfl (lv_at hl 0 rfl) ?_
    refine gf_X4_60 hx hb hT hown hK (v := .int 1) (hP.at (hI.1 0 (by decide)) rfl) rfl dX4_endow_21 ?_
    refine lv_if_le (tgt := 29) hx hb dX4_endow_24 (by decide) (fun c_2 => ?_) (fun c_2 => ?_)
    · exact absurd c_2 (by decide)
    · refine lv_lconst (v := 0) hx hb dX4_endow_27 (by decide) ?_
      exact zW_l hx hb hr hlk hS (Nat.le_of_ble_eq_true rfl) (Nat.le_of_ble_eq_true rfl) dX4_endow_28 (rfl) (hP)
  · exact absurd (h0) c_1
set_option maxHeartbeats 4000000 in
set_option maxRecDepth 100000 in
theorem c_X4_begin_ok (l : Launch) (hD0 : zD (fun _ => True) Rs ad) (hI : zIn Rs np ng) (te : Int32) (pr : Int32) (su : Int32) (hnp : MI 0 6 = nI np) (hN : np < 30) (h0 : fIn te 2 20 = 1) (h1 : fIn pr 1 1000 = 1) (h2 : fIn su 0 100000 = 1) (sz : Nat) : zMW l yX4_begin cX4_begin 4 ((some .int)) 1 (22) 0 0 D ks sz [.ref (ad 0), .int te, .int pr, .int su] (zP D Rs ad (gS ks ad np ng G MI MJ XI XJ)) (some (.int (nI np))) (zP D Rs ad (gS ks ad np ng G (u2 (u2 (u2 (u2 (u2 (u2 MI 0 7 0) 1 np (MI 0 0)) 2 np te) 3 np pr) 4 np su) 0 6 (nI (np + 1))) MJ XI XJ)) (zA Rs ad sz) := by
  refine zMW.of (by decide +kernel) (Nat.le_of_ble_eq_true rfl) ?_
  intro p e s m below meth c ls hx hb hr hml hown hlk hT hsz hP hK hl hin
  have hl : lv_has ls 4 [(0, .ref (ad 0)), (1, .int te), (2, .int pr), (3, .int su)] := hl
  subst hsz
  have hD := hD0.self (sz := s.heap.size)
  have hA : ∀ q : Nat, s.heap.size ≤ q → zA Rs ad s.heap.size q := fun q h => Or.inr h
  have hS : va_S (zA Rs ad s.heap.size) s.heap s.heap [] := va_S.rf
  refine lv_aload_n hx hb dX4_begin_0 rfl (lv_at hl 0 rfl) ?_
  refine lv_iload_n hx hb dX4_begin_1 rfl (lv_at hl 1 rfl) ?_
  refine lv_iconst (v := 2) hx hb dX4_begin_2 (by decide) ?_
  refine lv_bipush (v := 20) hx hb dX4_begin_3 (by decide) ?_
  refine z_backR1 (z_runS ⟨hx, hb, hml, hown, hT⟩ (rest := [.ref (ad 0)]) (As := [.int te, .int 2, .int 20]) (c_X4_in l D ks te 2 20 ) k_X4_66 (z_preR hK trivial) rfl ⟨Nat.le_of_ble_eq_true rfl, Nat.le_of_ble_eq_true rfl⟩ hl.1 rfl (Nat.le_of_ble_eq_true rfl) dX4_begin_5 ⟨Nat.le_of_ble_eq_true rfl, Nat.le_of_ble_eq_true rfl⟩) ?_
  refine lv_if_eq (tgt := 32) hx hb dX4_begin_8 (by decide) (fun c_1 => ?_) (fun c_1 => ?_)
  · exact absurd ((h0).symm.trans c_1) (by decide)
  · refine lv_iload_n hx hb dX4_begin_11 rfl (lv_at hl 2 rfl) ?_
    refine lv_iconst (v := 1) hx hb dX4_begin_12 (by decide) ?_
    refine lv_sipush (v := 1000) hx hb dX4_begin_13 (by decide) ?_
    refine z_backR1 (z_runS ⟨hx, hb, hml, hown, hT⟩ (rest := [.ref (ad 0)]) (As := [.int pr, .int 1, .int 1000]) (c_X4_in l D ks pr 1 1000 ) k_X4_66 (z_preR hK trivial) rfl ⟨Nat.le_of_ble_eq_true rfl, Nat.le_of_ble_eq_true rfl⟩ hl.1 rfl (Nat.le_of_ble_eq_true rfl) dX4_begin_16 ⟨Nat.le_of_ble_eq_true rfl, Nat.le_of_ble_eq_true rfl⟩) ?_
    refine lv_if_eq (tgt := 32) hx hb dX4_begin_19 (by decide) (fun c_2 => ?_) (fun c_2 => ?_)
    · exact absurd ((h1).symm.trans c_2) (by decide)
    · refine lv_iload_n hx hb dX4_begin_22 rfl (lv_at hl 3 rfl) ?_
      refine lv_iconst (v := 0) hx hb dX4_begin_23 (by decide) ?_
      refine lv_ldc (v := 100000) hx hb hown (hT _ ki_X4_91) dX4_begin_24 ?_
      refine z_backR1 (z_runS ⟨hx, hb, hml, hown, hT⟩ (rest := [.ref (ad 0)]) (As := [.int su, .int 0, .int 100000]) (c_X4_in l D ks su 0 100000 ) k_X4_66 (z_preR hK trivial) rfl ⟨Nat.le_of_ble_eq_true rfl, Nat.le_of_ble_eq_true rfl⟩ hl.1 rfl (Nat.le_of_ble_eq_true rfl) dX4_begin_26 ⟨Nat.le_of_ble_eq_true rfl, Nat.le_of_ble_eq_true rfl⟩) ?_
      refine lv_if_ne (tgt := 36) hx hb dX4_begin_29 (by decide) (fun c_3 => ?_) (fun c_3 => ?_)
      · refine lv_aload_n hx hb dX4_begin_36 rfl (lv_at hl 0 rfl) ?_
        refine gf_X4_63 hx hb hT hown hK (hP.at (hI.1 0 (by decide)) rfl) rfl dX4_begin_37 ?_
        refine lv_bipush (v := 30) hx hb dX4_begin_40 (by decide) ?_
        refine lv_icmp_ne (tgt := 49) hx hb dX4_begin_42 (by decide) (fun c_4 => ?_) (fun c_4 => ?_)
        · refine lv_iconst (v := 0) hx hb dX4_begin_49 (by decide) ?_
          refine pf_X4_60 hx hb hT hown hK hP hD hS (hI.1 0 (by decide)) (v := 0) dX4_begin_50 (fun H locs hP hS => ?_)
          refine lv_aload_n hx hb dX4_begin_53 rfl (lv_at hl 0 rfl) ?_
          refine gf_X4_60 hx hb hT hown hK (v := .int 0) (hP.at (hI.1 0 (by decide)) rfl) rfl dX4_begin_54 ?_
          refine lv_if_le (tgt := 62) hx hb dX4_begin_57 (by decide) (fun c_5 => ?_) (fun c_5 => ?_)
          · refine lv_aload_n hx hb dX4_begin_62 rfl (lv_at hl 0 rfl) ?_
            refine gf_X4_25 hx hb hT hown hK (v := .ref (ad 1)) (hP.at (hI.1 0 (by decide)) rfl) rfl dX4_begin_63 ?_
            refine lv_aload_n hx hb dX4_begin_66 rfl (lv_at hl 0 rfl) ?_
            refine gf_X4_63 hx hb hT hown hK (v := .int (MI 0 6)) (hP.at (hI.1 0 (by decide)) rfl) rfl dX4_begin_67 ?_
            rw [hnp]
            refine lv_aload_n hx hb dX4_begin_70 rfl (lv_at hl 0 rfl) ?_
            refine gf_X4_92 hx hb hT hown hK (v := .int (MI 0 0)) (hP.at (hI.1 0 (by decide)) rfl) rfl dX4_begin_71 ?_
            refine as_1N hx hb hK hP hD hS (hI.1 1 (by decide)) (v := MI 0 0) (by omega) dX4_begin_74 (fun H locs hP hS => ?_)
            refine lv_aload_n hx hb dX4_begin_75 rfl (lv_at hl 0 rfl) ?_
            refine gf_X4_29 hx hb hT hown hK (v := .ref (ad 2)) (hP.at (hI.1 0 (by decide)) rfl) rfl dX4_begin_76 ?_
            refine lv_aload_n hx hb dX4_begin_79 rfl (lv_at hl 0 rfl) ?_
            refine gf_X4_63 hx hb hT hown hK (v := .int (MI 0 6)) (hP.at (hI.1 0 (by decide)) rfl) rfl dX4_begin_80 ?_
            rw [hnp]
            refine lv_iload_n hx hb dX4_begin_83 rfl (lv_at hl 1 rfl) ?_
            refine as_2N hx hb hK hP hD hS (hI.1 2 (by decide)) (v := te) (by omega) dX4_begin_84 (fun H locs hP hS => ?_)
            refine lv_aload_n hx hb dX4_begin_85 rfl (lv_at hl 0 rfl) ?_
            refine gf_X4_32 hx hb hT hown hK (v := .ref (ad 3)) (hP.at (hI.1 0 (by decide)) rfl) rfl dX4_begin_86 ?_
            refine lv_aload_n hx hb dX4_begin_89 rfl (lv_at hl 0 rfl) ?_
            refine gf_X4_63 hx hb hT hown hK (v := .int (MI 0 6)) (hP.at (hI.1 0 (by decide)) rfl) rfl dX4_begin_90 ?_
            rw [hnp]
            refine lv_iload_n hx hb dX4_begin_93 rfl (lv_at hl 2 rfl) ?_
            refine as_3N hx hb hK hP hD hS (hI.1 3 (by decide)) (v := pr) (by omega) dX4_begin_94 (fun H locs hP hS => ?_)
            refine lv_aload_n hx hb dX4_begin_95 rfl (lv_at hl 0 rfl) ?_
            refine gf_X4_35 hx hb hT hown hK (v := .ref (ad 4)) (hP.at (hI.1 0 (by decide)) rfl) rfl dX4_begin_96 ?_
            refine lv_aload_n hx hb dX4_begin_99 rfl (lv_at hl 0 rfl) ?_
            refine gf_X4_63 hx hb hT hown hK (v := .int (MI 0 6)) (hP.at (hI.1 0 (by decide)) rfl) rfl dX4_begin_100 ?_
            rw [hnp]
            refine lv_iload_n hx hb dX4_begin_103 rfl (lv_at hl 3 rfl) ?_
            refine as_4N hx hb hK hP hD hS (hI.1 4 (by decide)) (v := su) (by omega) dX4_begin_104 (fun H locs hP hS => ?_)
            refine lv_aload_n hx hb dX4_begin_105 rfl (lv_at hl 0 rfl) ?_
            refine lv_dup hx hb dX4_begin_106 rfl ?_
            refine gf_X4_63 hx hb hT hown hK (v := .int (MI 0 6)) (hP.at (hI.1 0 (by decide)) rfl) rfl dX4_begin_107 ?_
            rw [hnp]
            refine lv_iconst (v := 1) hx hb dX4_begin_110 (by decide) ?_
            refine lv_iadd hx hb dX4_begin_111 ?_
            rw [nI_1 np]
            refine pf_X4_63 hx hb hT hown hK hP hD hS (hI.1 0 (by decide)) (v := nI (np + 1)) dX4_begin_112 (fun H locs hP hS => ?_)
            refine lv_aload_n hx hb dX4_begin_115 rfl (lv_at hl 0 rfl) ?_
            refine gf_X4_63 hx hb hT hown hK (v := .int (nI (np + 1))) (hP.at (hI.1 0 (by decide)) rfl) rfl dX4_begin_116 ?_
            refine lv_iconst (v := 1) hx hb dX4_begin_119 (by decide) ?_
            refine lv_isub hx hb dX4_begin_120 ?_
            rw [nI_pred np]
            exact zW_i hx hb hr hlk hS (Nat.le_of_ble_eq_true rfl) (Nat.le_of_ble_eq_true rfl) dX4_begin_121 (rfl) (hP)
          · exact absurd c_5 (by decide)
        · exact absurd (show np = 30 from (nI_eq (a := np) (b := 30) (by omega) (by decide)).mp (hnp.symm.trans c_4)) (by omega)
      · exact absurd ((h2).symm.trans c_3) (by decide)
set_option maxHeartbeats 4000000 in
set_option maxRecDepth 100000 in
theorem c_X4_begin_full (l : Launch) (hD0 : zD (fun _ => True) Rs ad) (hI : zIn Rs np ng) (te : Int32) (pr : Int32) (su : Int32) (hf : MI 0 6 = 30) (h0 : fIn te 2 20 = 1) (h1 : fIn pr 1 1000 = 1) (h2 : fIn su 0 100000 = 1) (sz : Nat) : zMW l yX4_begin cX4_begin 4 ((some .int)) 1 (22) 0 0 D ks sz [.ref (ad 0), .int te, .int pr, .int su] (zP D Rs ad (gS ks ad np ng G MI MJ XI XJ)) (some (.int (0))) (zP D Rs ad (gS ks ad np ng G (u2 MI 0 7 2) MJ XI XJ)) (zA Rs ad sz) := by
  refine zMW.of (by decide +kernel) (Nat.le_of_ble_eq_true rfl) ?_
  intro p e s m below meth c ls hx hb hr hml hown hlk hT hsz hP hK hl hin
  have hl : lv_has ls 4 [(0, .ref (ad 0)), (1, .int te), (2, .int pr), (3, .int su)] := hl
  subst hsz
  have hD := hD0.self (sz := s.heap.size)
  have hA : ∀ q : Nat, s.heap.size ≤ q → zA Rs ad s.heap.size q := fun q h => Or.inr h
  have hS : va_S (zA Rs ad s.heap.size) s.heap s.heap [] := va_S.rf
  refine lv_aload_n hx hb dX4_begin_0 rfl (lv_at hl 0 rfl) ?_
  refine lv_iload_n hx hb dX4_begin_1 rfl (lv_at hl 1 rfl) ?_
  refine lv_iconst (v := 2) hx hb dX4_begin_2 (by decide) ?_
  refine lv_bipush (v := 20) hx hb dX4_begin_3 (by decide) ?_
  refine z_backR1 (z_runS ⟨hx, hb, hml, hown, hT⟩ (rest := [.ref (ad 0)]) (As := [.int te, .int 2, .int 20]) (c_X4_in l D ks te 2 20 ) k_X4_66 (z_preR hK trivial) rfl ⟨Nat.le_of_ble_eq_true rfl, Nat.le_of_ble_eq_true rfl⟩ hl.1 rfl (Nat.le_of_ble_eq_true rfl) dX4_begin_5 ⟨Nat.le_of_ble_eq_true rfl, Nat.le_of_ble_eq_true rfl⟩) ?_
  refine lv_if_eq (tgt := 32) hx hb dX4_begin_8 (by decide) (fun c_1 => ?_) (fun c_1 => ?_)
  · exact absurd ((h0).symm.trans c_1) (by decide)
  · refine lv_iload_n hx hb dX4_begin_11 rfl (lv_at hl 2 rfl) ?_
    refine lv_iconst (v := 1) hx hb dX4_begin_12 (by decide) ?_
    refine lv_sipush (v := 1000) hx hb dX4_begin_13 (by decide) ?_
    refine z_backR1 (z_runS ⟨hx, hb, hml, hown, hT⟩ (rest := [.ref (ad 0)]) (As := [.int pr, .int 1, .int 1000]) (c_X4_in l D ks pr 1 1000 ) k_X4_66 (z_preR hK trivial) rfl ⟨Nat.le_of_ble_eq_true rfl, Nat.le_of_ble_eq_true rfl⟩ hl.1 rfl (Nat.le_of_ble_eq_true rfl) dX4_begin_16 ⟨Nat.le_of_ble_eq_true rfl, Nat.le_of_ble_eq_true rfl⟩) ?_
    refine lv_if_eq (tgt := 32) hx hb dX4_begin_19 (by decide) (fun c_2 => ?_) (fun c_2 => ?_)
    · exact absurd ((h1).symm.trans c_2) (by decide)
    · refine lv_iload_n hx hb dX4_begin_22 rfl (lv_at hl 3 rfl) ?_
      refine lv_iconst (v := 0) hx hb dX4_begin_23 (by decide) ?_
      refine lv_ldc (v := 100000) hx hb hown (hT _ ki_X4_91) dX4_begin_24 ?_
      refine z_backR1 (z_runS ⟨hx, hb, hml, hown, hT⟩ (rest := [.ref (ad 0)]) (As := [.int su, .int 0, .int 100000]) (c_X4_in l D ks su 0 100000 ) k_X4_66 (z_preR hK trivial) rfl ⟨Nat.le_of_ble_eq_true rfl, Nat.le_of_ble_eq_true rfl⟩ hl.1 rfl (Nat.le_of_ble_eq_true rfl) dX4_begin_26 ⟨Nat.le_of_ble_eq_true rfl, Nat.le_of_ble_eq_true rfl⟩) ?_
      refine lv_if_ne (tgt := 36) hx hb dX4_begin_29 (by decide) (fun c_3 => ?_) (fun c_3 => ?_)
      · refine lv_aload_n hx hb dX4_begin_36 rfl (lv_at hl 0 rfl) ?_
        refine gf_X4_63 hx hb hT hown hK (hP.at (hI.1 0 (by decide)) rfl) rfl dX4_begin_37 ?_
        refine lv_bipush (v := 30) hx hb dX4_begin_40 (by decide) ?_
        refine lv_icmp_ne (tgt := 49) hx hb dX4_begin_42 (by decide) (fun c_4 => ?_) (fun c_4 => ?_)
        · exact absurd (hf) c_4
        · refine lv_iconst (v := 2) hx hb dX4_begin_45 (by decide) ?_
          refine lv_goto (tgt := 50) hx hb dX4_begin_46 (by decide) ?_
          refine pf_X4_60 hx hb hT hown hK hP hD hS (hI.1 0 (by decide)) (v := 2) dX4_begin_50 (fun H locs hP hS => ?_)
          refine lv_aload_n hx hb dX4_begin_53 rfl (lv_at hl 0 rfl) ?_
          refine gf_X4_60 hx hb hT hown hK (v := .int 2) (hP.at (hI.1 0 (by decide)) rfl) rfl dX4_begin_54 ?_
          refine lv_if_le (tgt := 62) hx hb dX4_begin_57 (by decide) (fun c_5 => ?_) (fun c_5 => ?_)
          · exact absurd c_5 (by decide)
          · refine lv_iconst (v := 0) hx hb dX4_begin_60 (by decide) ?_
            exact zW_i hx hb hr hlk hS (Nat.le_of_ble_eq_true rfl) (Nat.le_of_ble_eq_true rfl) dX4_begin_61 (rfl) (hP)
      · exact absurd ((h2).symm.trans c_3) (by decide)
set_option maxHeartbeats 4000000 in
set_option maxRecDepth 100000 in
theorem c_X4_begin_bad (l : Launch) (hD0 : zD (fun _ => True) Rs ad) (hI : zIn Rs np ng) (te : Int32) (pr : Int32) (su : Int32) (hq : fIn te 2 20 = 0 ∨ fIn pr 1 1000 = 0 ∨ fIn su 0 100000 = 0) (sz : Nat) : zMW l yX4_begin cX4_begin 4 ((some .int)) 1 (22) 0 0 D ks sz [.ref (ad 0), .int te, .int pr, .int su] (zP D Rs ad (gS ks ad np ng G MI MJ XI XJ)) (some (.int (0))) (zP D Rs ad (gS ks ad np ng G (u2 MI 0 7 1) MJ XI XJ)) (zA Rs ad sz) := by
  refine zMW.of (by decide +kernel) (Nat.le_of_ble_eq_true rfl) ?_
  intro p e s m below meth c ls hx hb hr hml hown hlk hT hsz hP hK hl hin
  have hl : lv_has ls 4 [(0, .ref (ad 0)), (1, .int te), (2, .int pr), (3, .int su)] := hl
  subst hsz
  have hD := hD0.self (sz := s.heap.size)
  have hA : ∀ q : Nat, s.heap.size ≤ q → zA Rs ad s.heap.size q := fun q h => Or.inr h
  have hS : va_S (zA Rs ad s.heap.size) s.heap s.heap [] := va_S.rf
  refine lv_aload_n hx hb dX4_begin_0 rfl (lv_at hl 0 rfl) ?_
  refine lv_iload_n hx hb dX4_begin_1 rfl (lv_at hl 1 rfl) ?_
  refine lv_iconst (v := 2) hx hb dX4_begin_2 (by decide) ?_
  refine lv_bipush (v := 20) hx hb dX4_begin_3 (by decide) ?_
  refine z_backR1 (z_runS ⟨hx, hb, hml, hown, hT⟩ (rest := [.ref (ad 0)]) (As := [.int te, .int 2, .int 20]) (c_X4_in l D ks te 2 20 ) k_X4_66 (z_preR hK trivial) rfl ⟨Nat.le_of_ble_eq_true rfl, Nat.le_of_ble_eq_true rfl⟩ hl.1 rfl (Nat.le_of_ble_eq_true rfl) dX4_begin_5 ⟨Nat.le_of_ble_eq_true rfl, Nat.le_of_ble_eq_true rfl⟩) ?_
  refine lv_if_eq (tgt := 32) hx hb dX4_begin_8 (by decide) (fun c_1 => ?_) (fun c_1 => ?_)
  · refine lv_iconst (v := 1) hx hb dX4_begin_32 (by decide) ?_
    refine lv_goto (tgt := 50) hx hb dX4_begin_33 (by decide) ?_
    refine pf_X4_60 hx hb hT hown hK hP hD hS (hI.1 0 (by decide)) (v := 1) dX4_begin_50 (fun H locs hP hS => ?_)
    refine lv_aload_n hx hb dX4_begin_53 rfl (lv_at hl 0 rfl) ?_
    refine gf_X4_60 hx hb hT hown hK (v := .int 1) (hP.at (hI.1 0 (by decide)) rfl) rfl dX4_begin_54 ?_
    refine lv_if_le (tgt := 62) hx hb dX4_begin_57 (by decide) (fun c_2 => ?_) (fun c_2 => ?_)
    · exact absurd c_2 (by decide)
    · refine lv_iconst (v := 0) hx hb dX4_begin_60 (by decide) ?_
      exact zW_i hx hb hr hlk hS (Nat.le_of_ble_eq_true rfl) (Nat.le_of_ble_eq_true rfl) dX4_begin_61 (rfl) (hP)
  · refine lv_iload_n hx hb dX4_begin_11 rfl (lv_at hl 2 rfl) ?_
    refine lv_iconst (v := 1) hx hb dX4_begin_12 (by decide) ?_
    refine lv_sipush (v := 1000) hx hb dX4_begin_13 (by decide) ?_
    refine z_backR1 (z_runS ⟨hx, hb, hml, hown, hT⟩ (rest := [.ref (ad 0)]) (As := [.int pr, .int 1, .int 1000]) (c_X4_in l D ks pr 1 1000 ) k_X4_66 (z_preR hK trivial) rfl ⟨Nat.le_of_ble_eq_true rfl, Nat.le_of_ble_eq_true rfl⟩ hl.1 rfl (Nat.le_of_ble_eq_true rfl) dX4_begin_16 ⟨Nat.le_of_ble_eq_true rfl, Nat.le_of_ble_eq_true rfl⟩) ?_
    refine lv_if_eq (tgt := 32) hx hb dX4_begin_19 (by decide) (fun c_3 => ?_) (fun c_3 => ?_)
    · refine lv_iconst (v := 1) hx hb dX4_begin_32 (by decide) ?_
      refine lv_goto (tgt := 50) hx hb dX4_begin_33 (by decide) ?_
      refine pf_X4_60 hx hb hT hown hK hP hD hS (hI.1 0 (by decide)) (v := 1) dX4_begin_50 (fun H locs hP hS => ?_)
      refine lv_aload_n hx hb dX4_begin_53 rfl (lv_at hl 0 rfl) ?_
      refine gf_X4_60 hx hb hT hown hK (v := .int 1) (hP.at (hI.1 0 (by decide)) rfl) rfl dX4_begin_54 ?_
      refine lv_if_le (tgt := 62) hx hb dX4_begin_57 (by decide) (fun c_4 => ?_) (fun c_4 => ?_)
      · exact absurd c_4 (by decide)
      · refine lv_iconst (v := 0) hx hb dX4_begin_60 (by decide) ?_
        exact zW_i hx hb hr hlk hS (Nat.le_of_ble_eq_true rfl) (Nat.le_of_ble_eq_true rfl) dX4_begin_61 (rfl) (hP)
    · refine lv_iload_n hx hb dX4_begin_22 rfl (lv_at hl 3 rfl) ?_
      refine lv_iconst (v := 0) hx hb dX4_begin_23 (by decide) ?_
      refine lv_ldc (v := 100000) hx hb hown (hT _ ki_X4_91) dX4_begin_24 ?_
      refine z_backR1 (z_runS ⟨hx, hb, hml, hown, hT⟩ (rest := [.ref (ad 0)]) (As := [.int su, .int 0, .int 100000]) (c_X4_in l D ks su 0 100000 ) k_X4_66 (z_preR hK trivial) rfl ⟨Nat.le_of_ble_eq_true rfl, Nat.le_of_ble_eq_true rfl⟩ hl.1 rfl (Nat.le_of_ble_eq_true rfl) dX4_begin_26 ⟨Nat.le_of_ble_eq_true rfl, Nat.le_of_ble_eq_true rfl⟩) ?_
      refine lv_if_ne (tgt := 36) hx hb dX4_begin_29 (by decide) (fun c_5 => ?_) (fun c_5 => ?_)
      · exact absurd hq (not_or.mpr ⟨c_1, not_or.mpr ⟨c_3, c_5⟩⟩)
      · refine lv_iconst (v := 1) hx hb dX4_begin_32 (by decide) ?_
        refine lv_goto (tgt := 50) hx hb dX4_begin_33 (by decide) ?_
        refine pf_X4_60 hx hb hT hown hK hP hD hS (hI.1 0 (by decide)) (v := 1) dX4_begin_50 (fun H locs hP hS => ?_)
        refine lv_aload_n hx hb dX4_begin_53 rfl (lv_at hl 0 rfl) ?_
        refine gf_X4_60 hx hb hT hown hK (v := .int 1) (hP.at (hI.1 0 (by decide)) rfl) rfl dX4_begin_54 ?_
        refine lv_if_le (tgt := 62) hx hb dX4_begin_57 (by decide) (fun c_6 => ?_) (fun c_6 => ?_)
        · exact absurd c_6 (by decide)
        · refine lv_iconst (v := 0) hx hb dX4_begin_60 (by decide) ?_
          exact zW_i hx hb hr hlk hS (Nat.le_of_ble_eq_true rfl) (Nat.le_of_ble_eq_true rfl) dX4_begin_61 (rfl) (hP)
set_option maxHeartbeats 4000000 in
set_option maxRecDepth 100000 in
theorem c_X4_generation_ok (l : Launch) (hD0 : zD (fun _ => True) Rs ad) (hI : zIn Rs np ng) (h : Nat) (y : Int32) (te : Int32) (hnp : MI 0 6 = nI np) (hN : np ≤ 30) (h0 : fIn y 0 40 = 1) (h1 : fIn te 2 20 = 1) (hf : mF (MI 1) (MI 2) y te np (-1) = nI h) (hh : h < 30) (sz : Nat) : zMW l yX4_generation cX4_generation 4 ((some .int)) 1 (24) 0 0 D ks sz [.ref (ad 0), .int y, .int te] (zP D Rs ad (gS ks ad np ng G MI MJ XI XJ)) (some (.int (Int64.toInt32 (MJ 2 h)))) (zP D Rs ad (gS ks ad np ng G (u2 MI 0 7 0) MJ XI XJ)) (zA Rs ad sz) := by
  refine zMW.of (by decide +kernel) (Nat.le_of_ble_eq_true rfl) ?_
  intro p e s m below meth c ls hx hb hr hml hown hlk hT hsz hP hK hl hin
  have hl : lv_has ls 4 [(0, .ref (ad 0)), (1, .int y), (2, .int te)] := hl
  subst hsz
  have hD := hD0.self (sz := s.heap.size)
  have hA : ∀ q : Nat, s.heap.size ≤ q → zA Rs ad s.heap.size q := fun q h => Or.inr h
  have hS : va_S (zA Rs ad s.heap.size) s.heap s.heap [] := va_S.rf
  refine lv_aload_n hx hb dX4_generation_0 rfl (lv_at hl 0 rfl) ?_
  refine lv_iload_n hx hb dX4_generation_1 rfl (lv_at hl 1 rfl) ?_
  refine lv_iconst (v := 0) hx hb dX4_generation_2 (by decide) ?_
  refine lv_bipush (v := 40) hx hb dX4_generation_3 (by decide) ?_
  refine z_backR1 (z_runS ⟨hx, hb, hml, hown, hT⟩ (rest := [.ref (ad 0)]) (As := [.int y, .int 0, .int 40]) (c_X4_in l D ks y 0 40 ) k_X4_66 (z_preR hK trivial) rfl ⟨Nat.le_of_ble_eq_true rfl, Nat.le_of_ble_eq_true rfl⟩ hl.1 rfl (Nat.le_of_ble_eq_true rfl) dX4_generation_5 ⟨Nat.le_of_ble_eq_true rfl, Nat.le_of_ble_eq_true rfl⟩) ?_
  refine lv_if_eq (tgt := 25) hx hb dX4_generation_8 (by decide) (fun c_1 => ?_) (fun c_1 => ?_)
  · exact absurd ((h0).symm.trans c_1) (by decide)
  · refine lv_iload_n hx hb dX4_generation_11 rfl (lv_at hl 2 rfl) ?_
    refine lv_iconst (v := 2) hx hb dX4_generation_12 (by decide) ?_
    refine lv_bipush (v := 20) hx hb dX4_generation_13 (by decide) ?_
    refine z_backR1 (z_runS ⟨hx, hb, hml, hown, hT⟩ (rest := [.ref (ad 0)]) (As := [.int te, .int 2, .int 20]) (c_X4_in l D ks te 2 20 ) k_X4_66 (z_preR hK trivial) rfl ⟨Nat.le_of_ble_eq_true rfl, Nat.le_of_ble_eq_true rfl⟩ hl.1 rfl (Nat.le_of_ble_eq_true rfl) dX4_generation_15 ⟨Nat.le_of_ble_eq_true rfl, Nat.le_of_ble_eq_true rfl⟩) ?_
    refine lv_if_eq (tgt := 25) hx hb dX4_generation_18 (by decide) (fun c_2 => ?_) (fun c_2 => ?_)
    · exact absurd ((h1).symm.trans c_2) (by decide)
    · refine lv_iconst (v := 0) hx hb dX4_generation_21 (by decide) ?_
      refine lv_goto (tgt := 26) hx hb dX4_generation_22 (by decide) ?_
      refine pf_X4_60 hx hb hT hown hK hP hD hS (hI.1 0 (by decide)) (v := 0) dX4_generation_26 (fun H locs hP hS => ?_)
      refine lv_aload_n hx hb dX4_generation_29 rfl (lv_at hl 0 rfl) ?_
      refine lv_iload_n hx hb dX4_generation_30 rfl (lv_at hl 1 rfl) ?_
      refine lv_iload_n hx hb dX4_generation_31 rfl (lv_at hl 2 rfl) ?_
      refine z_backR1 (z_runV ⟨hx, hb, hml, hown, hT⟩ (rest := []) (As := [.int y, .int te]) (c_X4_firstOf (MI := u2 MI 0 7 0) (MJ := MJ) (XI := XI) (XJ := XJ) l hI y te (hnp) (hN)) k_X4_72 (z_preRV hK hP (hP.at (hI.1 0 (by decide)) rfl) rfl) rfl ⟨Nat.le_of_ble_eq_true rfl, Nat.le_of_ble_eq_true rfl⟩ hl.1 rfl (Nat.le_of_ble_eq_true rfl) dX4_generation_32 ⟨Nat.le_of_ble_eq_true rfl, Nat.le_of_ble_eq_true rfl⟩) ?_
      rw [show mF ((u2 MI 0 7 0) 1) ((u2 MI 0 7 0) 2) y te np (-1) = nI h from hf]
      refine lv_istore_n (lv' := [(3, .int (nI h)), (0, .ref (ad 0)), (1, .int y), (2, .int te)]) hx hb dX4_generation_35 rfl hl (by decide) rfl (fun ls hl => ?_)
      refine lv_aload_n hx hb dX4_generation_36 rfl (lv_at hl 1 rfl) ?_
      refine gf_X4_60 hx hb hT hown hK (v := .int 0) (hP.at (hI.1 0 (by decide)) rfl) rfl dX4_generation_37 ?_
      refine lv_if_ne (tgt := 58) hx hb dX4_generation_40 (by decide) (fun c_3 => ?_) (fun c_3 => ?_)
      · exact absurd c_3 (by decide)
      · refine lv_iload_n hx hb dX4_generation_43 rfl (lv_at hl 0 rfl) ?_
        refine lv_iconst (v := (-1)) hx hb dX4_generation_44 (by decide) ?_
        refine lv_icmp_eq (tgt := 58) hx hb dX4_generation_45 (by decide) (fun c_4 => ?_) (fun c_4 => ?_)
        · exact absurd c_4 (fun e => absurd (show nI h < 0 by rw [e]; decide) (nI_pos (by omega)))
        · refine lv_aload_n hx hb dX4_generation_48 rfl (lv_at hl 1 rfl) ?_
          refine gf_X4_51 hx hb hT hown hK (v := .ref (ad 9)) (hP.at (hI.1 0 (by decide)) rfl) rfl dX4_generation_49 ?_
          refine lv_iload_n hx hb dX4_generation_52 rfl (lv_at hl 0 rfl) ?_
          refine z_laldN hx hb hK (hP.at (hI.1 9 (by decide)) rfl) (hh) (by decide) (v := MJ 2 h) (rfl) dX4_generation_53 ?_
          refine lv_l2i hx hb dX4_generation_54 rfl ?_
          refine lv_goto (tgt := 59) hx hb dX4_generation_55 (by decide) ?_
          exact zW_i hx hb hr hlk hS (Nat.le_of_ble_eq_true rfl) (Nat.le_of_ble_eq_true rfl) dX4_generation_59 (rfl) (hP)
set_option maxHeartbeats 4000000 in
set_option maxRecDepth 100000 in
theorem c_X4_generation_none (l : Launch) (hD0 : zD (fun _ => True) Rs ad) (hI : zIn Rs np ng) (y : Int32) (te : Int32) (hnp : MI 0 6 = nI np) (hN : np ≤ 30) (h0 : fIn y 0 40 = 1) (h1 : fIn te 2 20 = 1) (hf : mF (MI 1) (MI 2) y te np (-1) = -1) (sz : Nat) : zMW l yX4_generation cX4_generation 4 ((some .int)) 1 (24) 0 0 D ks sz [.ref (ad 0), .int y, .int te] (zP D Rs ad (gS ks ad np ng G MI MJ XI XJ)) (some (.int (0))) (zP D Rs ad (gS ks ad np ng G (u2 MI 0 7 0) MJ XI XJ)) (zA Rs ad sz) := by
  refine zMW.of (by decide +kernel) (Nat.le_of_ble_eq_true rfl) ?_
  intro p e s m below meth c ls hx hb hr hml hown hlk hT hsz hP hK hl hin
  have hl : lv_has ls 4 [(0, .ref (ad 0)), (1, .int y), (2, .int te)] := hl
  subst hsz
  have hD := hD0.self (sz := s.heap.size)
  have hA : ∀ q : Nat, s.heap.size ≤ q → zA Rs ad s.heap.size q := fun q h => Or.inr h
  have hS : va_S (zA Rs ad s.heap.size) s.heap s.heap [] := va_S.rf
  refine lv_aload_n hx hb dX4_generation_0 rfl (lv_at hl 0 rfl) ?_
  refine lv_iload_n hx hb dX4_generation_1 rfl (lv_at hl 1 rfl) ?_
  refine lv_iconst (v := 0) hx hb dX4_generation_2 (by decide) ?_
  refine lv_bipush (v := 40) hx hb dX4_generation_3 (by decide) ?_
  refine z_backR1 (z_runS ⟨hx, hb, hml, hown, hT⟩ (rest := [.ref (ad 0)]) (As := [.int y, .int 0, .int 40]) (c_X4_in l D ks y 0 40 ) k_X4_66 (z_preR hK trivial) rfl ⟨Nat.le_of_ble_eq_true rfl, Nat.le_of_ble_eq_true rfl⟩ hl.1 rfl (Nat.le_of_ble_eq_true rfl) dX4_generation_5 ⟨Nat.le_of_ble_eq_true rfl, Nat.le_of_ble_eq_true rfl⟩) ?_
  refine lv_if_eq (tgt := 25) hx hb dX4_generation_8 (by decide) (fun c_1 => ?_) (fun c_1 => ?_)
  · exact absurd ((h0).symm.trans c_1) (by decide)
  · refine lv_iload_n hx hb dX4_generation_11 rfl (lv_at hl 2 rfl) ?_
    refine lv_iconst (v := 2) hx hb dX4_generation_12 (by decide) ?_
    refine lv_bipush (v := 20) hx hb dX4_generation_13 (by decide) ?_
    refine z_backR1 (z_runS ⟨hx, hb, hml, hown, hT⟩ (rest := [.ref (ad 0)]) (As := [.int te, .int 2, .int 20]) (c_X4_in l D ks te 2 20 ) k_X4_66 (z_preR hK trivial) rfl ⟨Nat.le_of_ble_eq_true rfl, Nat.le_of_ble_eq_true rfl⟩ hl.1 rfl (Nat.le_of_ble_eq_true rfl) dX4_generation_15 ⟨Nat.le_of_ble_eq_true rfl, Nat.le_of_ble_eq_true rfl⟩) ?_
    refine lv_if_eq (tgt := 25) hx hb dX4_generation_18 (by decide) (fun c_2 => ?_) (fun c_2 => ?_)
    · exact absurd ((h1).symm.trans c_2) (by decide)
    · refine lv_iconst (v := 0) hx hb dX4_generation_21 (by decide) ?_
      refine lv_goto (tgt := 26) hx hb dX4_generation_22 (by decide) ?_
      refine pf_X4_60 hx hb hT hown hK hP hD hS (hI.1 0 (by decide)) (v := 0) dX4_generation_26 (fun H locs hP hS => ?_)
      refine lv_aload_n hx hb dX4_generation_29 rfl (lv_at hl 0 rfl) ?_
      refine lv_iload_n hx hb dX4_generation_30 rfl (lv_at hl 1 rfl) ?_
      refine lv_iload_n hx hb dX4_generation_31 rfl (lv_at hl 2 rfl) ?_
      refine z_backR1 (z_runV ⟨hx, hb, hml, hown, hT⟩ (rest := []) (As := [.int y, .int te]) (c_X4_firstOf (MI := u2 MI 0 7 0) (MJ := MJ) (XI := XI) (XJ := XJ) l hI y te (hnp) (hN)) k_X4_72 (z_preRV hK hP (hP.at (hI.1 0 (by decide)) rfl) rfl) rfl ⟨Nat.le_of_ble_eq_true rfl, Nat.le_of_ble_eq_true rfl⟩ hl.1 rfl (Nat.le_of_ble_eq_true rfl) dX4_generation_32 ⟨Nat.le_of_ble_eq_true rfl, Nat.le_of_ble_eq_true rfl⟩) ?_
      rw [show mF ((u2 MI 0 7 0) 1) ((u2 MI 0 7 0) 2) y te np (-1) = -1 from hf]
      refine lv_istore_n (lv' := [(3, .int (-1)), (0, .ref (ad 0)), (1, .int y), (2, .int te)]) hx hb dX4_generation_35 rfl hl (by decide) rfl (fun ls hl => ?_)
      refine lv_aload_n hx hb dX4_generation_36 rfl (lv_at hl 1 rfl) ?_
      refine gf_X4_60 hx hb hT hown hK (v := .int 0) (hP.at (hI.1 0 (by decide)) rfl) rfl dX4_generation_37 ?_
      refine lv_if_ne (tgt := 58) hx hb dX4_generation_40 (by decide) (fun c_3 => ?_) (fun c_3 => ?_)
      · exact absurd c_3 (by decide)
      · refine lv_iload_n hx hb dX4_generation_43 rfl (lv_at hl 0 rfl) ?_
        refine lv_iconst (v := (-1)) hx hb dX4_generation_44 (by decide) ?_
        refine lv_icmp_eq (tgt := 58) hx hb dX4_generation_45 (by decide) (fun c_4 => ?_) (fun c_4 => ?_)
        · refine lv_iconst (v := 0) hx hb dX4_generation_58 (by decide) ?_
          exact zW_i hx hb hr hlk hS (Nat.le_of_ble_eq_true rfl) (Nat.le_of_ble_eq_true rfl) dX4_generation_59 (rfl) (hP)
        · exact absurd c_4 (by decide)
set_option maxHeartbeats 4000000 in
set_option maxRecDepth 100000 in
theorem c_X4_generation_bad (l : Launch) (hD0 : zD (fun _ => True) Rs ad) (hI : zIn Rs np ng) (y : Int32) (te : Int32) (hnp : MI 0 6 = nI np) (hN : np ≤ 30) (hq : fIn y 0 40 = 0 ∨ fIn te 2 20 = 0) (sz : Nat) : zMW l yX4_generation cX4_generation 4 ((some .int)) 1 (24) 0 0 D ks sz [.ref (ad 0), .int y, .int te] (zP D Rs ad (gS ks ad np ng G MI MJ XI XJ)) (some (.int (0))) (zP D Rs ad (gS ks ad np ng G (u2 MI 0 7 1) MJ XI XJ)) (zA Rs ad sz) := by
  refine zMW.of (by decide +kernel) (Nat.le_of_ble_eq_true rfl) ?_
  intro p e s m below meth c ls hx hb hr hml hown hlk hT hsz hP hK hl hin
  have hl : lv_has ls 4 [(0, .ref (ad 0)), (1, .int y), (2, .int te)] := hl
  subst hsz
  have hD := hD0.self (sz := s.heap.size)
  have hA : ∀ q : Nat, s.heap.size ≤ q → zA Rs ad s.heap.size q := fun q h => Or.inr h
  have hS : va_S (zA Rs ad s.heap.size) s.heap s.heap [] := va_S.rf
  refine lv_aload_n hx hb dX4_generation_0 rfl (lv_at hl 0 rfl) ?_
  refine lv_iload_n hx hb dX4_generation_1 rfl (lv_at hl 1 rfl) ?_
  refine lv_iconst (v := 0) hx hb dX4_generation_2 (by decide) ?_
  refine lv_bipush (v := 40) hx hb dX4_generation_3 (by decide) ?_
  refine z_backR1 (z_runS ⟨hx, hb, hml, hown, hT⟩ (rest := [.ref (ad 0)]) (As := [.int y, .int 0, .int 40]) (c_X4_in l D ks y 0 40 ) k_X4_66 (z_preR hK trivial) rfl ⟨Nat.le_of_ble_eq_true rfl, Nat.le_of_ble_eq_true rfl⟩ hl.1 rfl (Nat.le_of_ble_eq_true rfl) dX4_generation_5 ⟨Nat.le_of_ble_eq_true rfl, Nat.le_of_ble_eq_true rfl⟩) ?_
  refine lv_if_eq (tgt := 25) hx hb dX4_generation_8 (by decide) (fun c_1 => ?_) (fun c_1 => ?_)
  · refine lv_iconst (v := 1) hx hb dX4_generation_25 (by decide) ?_
    refine pf_X4_60 hx hb hT hown hK hP hD hS (hI.1 0 (by decide)) (v := 1) dX4_generation_26 (fun H locs hP hS => ?_)
    refine lv_aload_n hx hb dX4_generation_29 rfl (lv_at hl 0 rfl) ?_
    refine lv_iload_n hx hb dX4_generation_30 rfl (lv_at hl 1 rfl) ?_
    refine lv_iload_n hx hb dX4_generation_31 rfl (lv_at hl 2 rfl) ?_
    refine z_backR1 (z_runV ⟨hx, hb, hml, hown, hT⟩ (rest := []) (As := [.int y, .int te]) (c_X4_firstOf (MI := u2 MI 0 7 1) (MJ := MJ) (XI := XI) (XJ := XJ) l hI y te (hnp) (hN)) k_X4_72 (z_preRV hK hP (hP.at (hI.1 0 (by decide)) rfl) rfl) rfl ⟨Nat.le_of_ble_eq_true rfl, Nat.le_of_ble_eq_true rfl⟩ hl.1 rfl (Nat.le_of_ble_eq_true rfl) dX4_generation_32 ⟨Nat.le_of_ble_eq_true rfl, Nat.le_of_ble_eq_true rfl⟩) ?_
    refine lv_istore_n (lv' := [(3, .int (mF ((u2 MI 0 7 1) 1) ((u2 MI 0 7 1) 2) y te np (-1))), (0, .ref (ad 0)), (1, .int y), (2, .int te)]) hx hb dX4_generation_35 rfl hl (by decide) rfl (fun ls hl => ?_)
    refine lv_aload_n hx hb dX4_generation_36 rfl (lv_at hl 1 rfl) ?_
    refine gf_X4_60 hx hb hT hown hK (v := .int 1) (hP.at (hI.1 0 (by decide)) rfl) rfl dX4_generation_37 ?_
    refine lv_if_ne (tgt := 58) hx hb dX4_generation_40 (by decide) (fun c_2 => ?_) (fun c_2 => ?_)
    · refine lv_iconst (v := 0) hx hb dX4_generation_58 (by decide) ?_
      exact zW_i hx hb hr hlk hS (Nat.le_of_ble_eq_true rfl) (Nat.le_of_ble_eq_true rfl) dX4_generation_59 (rfl) (hP)
    · exact absurd c_2 (by decide)
  · refine lv_iload_n hx hb dX4_generation_11 rfl (lv_at hl 2 rfl) ?_
    refine lv_iconst (v := 2) hx hb dX4_generation_12 (by decide) ?_
    refine lv_bipush (v := 20) hx hb dX4_generation_13 (by decide) ?_
    refine z_backR1 (z_runS ⟨hx, hb, hml, hown, hT⟩ (rest := [.ref (ad 0)]) (As := [.int te, .int 2, .int 20]) (c_X4_in l D ks te 2 20 ) k_X4_66 (z_preR hK trivial) rfl ⟨Nat.le_of_ble_eq_true rfl, Nat.le_of_ble_eq_true rfl⟩ hl.1 rfl (Nat.le_of_ble_eq_true rfl) dX4_generation_15 ⟨Nat.le_of_ble_eq_true rfl, Nat.le_of_ble_eq_true rfl⟩) ?_
    refine lv_if_eq (tgt := 25) hx hb dX4_generation_18 (by decide) (fun c_3 => ?_) (fun c_3 => ?_)
    · refine lv_iconst (v := 1) hx hb dX4_generation_25 (by decide) ?_
      refine pf_X4_60 hx hb hT hown hK hP hD hS (hI.1 0 (by decide)) (v := 1) dX4_generation_26 (fun H locs hP hS => ?_)
      refine lv_aload_n hx hb dX4_generation_29 rfl (lv_at hl 0 rfl) ?_
      refine lv_iload_n hx hb dX4_generation_30 rfl (lv_at hl 1 rfl) ?_
      refine lv_iload_n hx hb dX4_generation_31 rfl (lv_at hl 2 rfl) ?_
      refine z_backR1 (z_runV ⟨hx, hb, hml, hown, hT⟩ (rest := []) (As := [.int y, .int te]) (c_X4_firstOf (MI := u2 MI 0 7 1) (MJ := MJ) (XI := XI) (XJ := XJ) l hI y te (hnp) (hN)) k_X4_72 (z_preRV hK hP (hP.at (hI.1 0 (by decide)) rfl) rfl) rfl ⟨Nat.le_of_ble_eq_true rfl, Nat.le_of_ble_eq_true rfl⟩ hl.1 rfl (Nat.le_of_ble_eq_true rfl) dX4_generation_32 ⟨Nat.le_of_ble_eq_true rfl, Nat.le_of_ble_eq_true rfl⟩) ?_
      refine lv_istore_n (lv' := [(3, .int (mF ((u2 MI 0 7 1) 1) ((u2 MI 0 7 1) 2) y te np (-1))), (0, .ref (ad 0)), (1, .int y), (2, .int te)]) hx hb dX4_generation_35 rfl hl (by decide) rfl (fun ls hl => ?_)
      refine lv_aload_n hx hb dX4_generation_36 rfl (lv_at hl 1 rfl) ?_
      refine gf_X4_60 hx hb hT hown hK (v := .int 1) (hP.at (hI.1 0 (by decide)) rfl) rfl dX4_generation_37 ?_
      refine lv_if_ne (tgt := 58) hx hb dX4_generation_40 (by decide) (fun c_4 => ?_) (fun c_4 => ?_)
      · refine lv_iconst (v := 0) hx hb dX4_generation_58 (by decide) ?_
        exact zW_i hx hb hr hlk hS (Nat.le_of_ble_eq_true rfl) (Nat.le_of_ble_eq_true rfl) dX4_generation_59 (rfl) (hP)
      · exact absurd c_4 (by decide)
    · exact absurd hq (not_or.mpr ⟨c_1, c_3⟩)
set_option maxHeartbeats 4000000 in
set_option maxRecDepth 100000 in
theorem c_X4_lastRatio_ok (l : Launch) (hD0 : zD (fun _ => True) Rs ad) (hI : zIn Rs np ng) (t : Nat) (h0 : fIn (nI t) 2 20 = 1) (ht : t < 21) (sz : Nat) : zMW l yX4_lastRatio cX4_lastRatio 2 ((some .int)) 1 (22) 0 0 D ks sz [.ref (ad 0), .int (nI t)] (zP D Rs ad (gS ks ad np ng G MI MJ XI XJ)) (some (.int (MI 8 t - 1))) (zP D Rs ad (gS ks ad np ng G (u2 MI 0 7 0) MJ XI XJ)) (zA Rs ad sz) := by
  refine zMW.of (by decide +kernel) (Nat.le_of_ble_eq_true rfl) ?_
  intro p e s m below meth c ls hx hb hr hml hown hlk hT hsz hP hK hl hin
  have hl : lv_has ls 2 [(0, .ref (ad 0)), (1, .int (nI t))] := hl
  subst hsz
  have hD := hD0.self (sz := s.heap.size)
  have hA : ∀ q : Nat, s.heap.size ≤ q → zA Rs ad s.heap.size q := fun q h => Or.inr h
  have hS : va_S (zA Rs ad s.heap.size) s.heap s.heap [] := va_S.rf
  refine lv_aload_n hx hb dX4_lastRatio_0 rfl (lv_at hl 0 rfl) ?_
  refine lv_iload_n hx hb dX4_lastRatio_1 rfl (lv_at hl 1 rfl) ?_
  refine lv_iconst (v := 2) hx hb dX4_lastRatio_2 (by decide) ?_
  refine lv_bipush (v := 20) hx hb dX4_lastRatio_3 (by decide) ?_
  refine z_backR1 (z_runS ⟨hx, hb, hml, hown, hT⟩ (rest := [.ref (ad 0)]) (As := [.int (nI t), .int 2, .int 20]) (c_X4_in l D ks (nI t) 2 20 ) k_X4_66 (z_preR hK trivial) rfl ⟨Nat.le_of_ble_eq_true rfl, Nat.le_of_ble_eq_true rfl⟩ hl.1 rfl (Nat.le_of_ble_eq_true rfl) dX4_lastRatio_5 ⟨Nat.le_of_ble_eq_true rfl, Nat.le_of_ble_eq_true rfl⟩) ?_
  refine lv_if_eq (tgt := 15) hx hb dX4_lastRatio_8 (by decide) (fun c_1 => ?_) (fun c_1 => ?_)
  · exact absurd ((h0).symm.trans c_1) (by decide)
  · refine lv_iconst (v := 0) hx hb dX4_lastRatio_11 (by decide) ?_
    refine lv_goto (tgt := 16) hx hb dX4_lastRatio_12 (by decide) ?_
    refine pf_X4_60 hx hb hT hown hK hP hD hS (hI.1 0 (by decide)) (v := 0) dX4_lastRatio_16 (fun H locs hP hS => ?_)
    refine lv_aload_n hx hb dX4_lastRatio_19 rfl (lv_at hl 0 rfl) ?_
    refine gf_X4_60 hx hb hT hown hK (v := .int 0) (hP.at (hI.1 0 (by decide)) rfl) rfl dX4_lastRatio_20 ?_
    refine lv_if_ne (tgt := 37) hx hb dX4_lastRatio_23 (by decide) (fun c_2 => ?_) (fun c_2 => ?_)
    · exact absurd c_2 (by decide)
    · refine lv_aload_n hx hb dX4_lastRatio_26 rfl (lv_at hl 0 rfl) ?_
      refine gf_X4_54 hx hb hT hown hK (v := .ref (ad 10)) (hP.at (hI.1 0 (by decide)) rfl) rfl dX4_lastRatio_27 ?_
      refine lv_iload_n hx hb dX4_lastRatio_30 rfl (lv_at hl 1 rfl) ?_
      refine z_ialdN hx hb hK (hP.at (hI.1 10 (by decide)) rfl) (ht) (by decide) (v := MI 8 t) (rfl) dX4_lastRatio_31 ?_
      refine lv_iconst (v := 1) hx hb dX4_lastRatio_32 (by decide) ?_
      refine lv_isub hx hb dX4_lastRatio_33 ?_
      refine lv_goto (tgt := 38) hx hb dX4_lastRatio_34 (by decide) ?_
      exact zW_i hx hb hr hlk hS (Nat.le_of_ble_eq_true rfl) (Nat.le_of_ble_eq_true rfl) dX4_lastRatio_38 (rfl) (hP)
set_option maxHeartbeats 4000000 in
set_option maxRecDepth 100000 in
theorem c_X4_lastRatio_bad (l : Launch) (hD0 : zD (fun _ => True) Rs ad) (hI : zIn Rs np ng) (te : Int32) (h0 : fIn te 2 20 = 0) (sz : Nat) : zMW l yX4_lastRatio cX4_lastRatio 2 ((some .int)) 1 (22) 0 0 D ks sz [.ref (ad 0), .int te] (zP D Rs ad (gS ks ad np ng G MI MJ XI XJ)) (some (.int (0))) (zP D Rs ad (gS ks ad np ng G (u2 MI 0 7 1) MJ XI XJ)) (zA Rs ad sz) := by
  refine zMW.of (by decide +kernel) (Nat.le_of_ble_eq_true rfl) ?_
  intro p e s m below meth c ls hx hb hr hml hown hlk hT hsz hP hK hl hin
  have hl : lv_has ls 2 [(0, .ref (ad 0)), (1, .int te)] := hl
  subst hsz
  have hD := hD0.self (sz := s.heap.size)
  have hA : ∀ q : Nat, s.heap.size ≤ q → zA Rs ad s.heap.size q := fun q h => Or.inr h
  have hS : va_S (zA Rs ad s.heap.size) s.heap s.heap [] := va_S.rf
  refine lv_aload_n hx hb dX4_lastRatio_0 rfl (lv_at hl 0 rfl) ?_
  refine lv_iload_n hx hb dX4_lastRatio_1 rfl (lv_at hl 1 rfl) ?_
  refine lv_iconst (v := 2) hx hb dX4_lastRatio_2 (by decide) ?_
  refine lv_bipush (v := 20) hx hb dX4_lastRatio_3 (by decide) ?_
  refine z_backR1 (z_runS ⟨hx, hb, hml, hown, hT⟩ (rest := [.ref (ad 0)]) (As := [.int te, .int 2, .int 20]) (c_X4_in l D ks te 2 20 ) k_X4_66 (z_preR hK trivial) rfl ⟨Nat.le_of_ble_eq_true rfl, Nat.le_of_ble_eq_true rfl⟩ hl.1 rfl (Nat.le_of_ble_eq_true rfl) dX4_lastRatio_5 ⟨Nat.le_of_ble_eq_true rfl, Nat.le_of_ble_eq_true rfl⟩) ?_
  refine lv_if_eq (tgt := 15) hx hb dX4_lastRatio_8 (by decide) (fun c_1 => ?_) (fun c_1 => ?_)
  · refine lv_iconst (v := 1) hx hb dX4_lastRatio_15 (by decide) ?_
    refine pf_X4_60 hx hb hT hown hK hP hD hS (hI.1 0 (by decide)) (v := 1) dX4_lastRatio_16 (fun H locs hP hS => ?_)
    refine lv_aload_n hx hb dX4_lastRatio_19 rfl (lv_at hl 0 rfl) ?_
    refine gf_X4_60 hx hb hT hown hK (v := .int 1) (hP.at (hI.1 0 (by decide)) rfl) rfl dX4_lastRatio_20 ?_
    refine lv_if_ne (tgt := 37) hx hb dX4_lastRatio_23 (by decide) (fun c_2 => ?_) (fun c_2 => ?_)
    · refine lv_iconst (v := 0) hx hb dX4_lastRatio_37 (by decide) ?_
      exact zW_i hx hb hr hlk hS (Nat.le_of_ble_eq_true rfl) (Nat.le_of_ble_eq_true rfl) dX4_lastRatio_38 (rfl) (hP)
    · exact absurd c_2 (by decide)
  · exact absurd (h0) c_1
set_option maxHeartbeats 4000000 in
set_option maxRecDepth 100000 in
theorem c_X4_year (l : Launch) (hD0 : zD (fun _ => True) Rs ad) (hI : zIn Rs np ng)  (sz : Nat) : zMW l yX4_year cX4_year 1 ((some .int)) 0 (0) 0 0 D ks sz [.ref (ad 0)] (zP D Rs ad (gS ks ad np ng G MI MJ XI XJ)) (some (.int (MI 0 0))) (zP D Rs ad (gS ks ad np ng G (u2 MI 0 7 0) MJ XI XJ)) (zA Rs ad sz) := by
  refine zMW.of (by decide +kernel) (Nat.le_of_ble_eq_true rfl) ?_
  intro p e s m below meth c ls hx hb hr hml hown hlk hT hsz hP hK hl hin
  have hl : lv_has ls 1 [(0, .ref (ad 0))] := hl
  subst hsz
  have hD := hD0.self (sz := s.heap.size)
  have hA : ∀ q : Nat, s.heap.size ≤ q → zA Rs ad s.heap.size q := fun q h => Or.inr h
  have hS : va_S (zA Rs ad s.heap.size) s.heap s.heap [] := va_S.rf
  refine lv_aload_n hx hb dX4_year_0 rfl (lv_at hl 0 rfl) ?_
  refine lv_iconst (v := 0) hx hb dX4_year_1 (by decide) ?_
  refine pf_X4_60 hx hb hT hown hK hP hD hS (hI.1 0 (by decide)) (v := 0) dX4_year_2 (fun H locs hP hS => ?_)
  refine lv_aload_n hx hb dX4_year_5 rfl (lv_at hl 0 rfl) ?_
  refine gf_X4_92 hx hb hT hown hK (v := .int (MI 0 0)) (hP.at (hI.1 0 (by decide)) rfl) rfl dX4_year_6 ?_
  exact zW_i hx hb hr hlk hS (Nat.le_of_ble_eq_true rfl) (Nat.le_of_ble_eq_true rfl) dX4_year_9 (rfl) (hP)
set_option maxHeartbeats 4000000 in
set_option maxRecDepth 100000 in
theorem c_X4_policies (l : Launch) (hD0 : zD (fun _ => True) Rs ad) (hI : zIn Rs np ng)  (sz : Nat) : zMW l yX4_policies cX4_policies 1 ((some .int)) 0 (0) 0 0 D ks sz [.ref (ad 0)] (zP D Rs ad (gS ks ad np ng G MI MJ XI XJ)) (some (.int (MI 0 6))) (zP D Rs ad (gS ks ad np ng G (u2 MI 0 7 0) MJ XI XJ)) (zA Rs ad sz) := by
  refine zMW.of (by decide +kernel) (Nat.le_of_ble_eq_true rfl) ?_
  intro p e s m below meth c ls hx hb hr hml hown hlk hT hsz hP hK hl hin
  have hl : lv_has ls 1 [(0, .ref (ad 0))] := hl
  subst hsz
  have hD := hD0.self (sz := s.heap.size)
  have hA : ∀ q : Nat, s.heap.size ≤ q → zA Rs ad s.heap.size q := fun q h => Or.inr h
  have hS : va_S (zA Rs ad s.heap.size) s.heap s.heap [] := va_S.rf
  refine lv_aload_n hx hb dX4_policies_0 rfl (lv_at hl 0 rfl) ?_
  refine lv_iconst (v := 0) hx hb dX4_policies_1 (by decide) ?_
  refine pf_X4_60 hx hb hT hown hK hP hD hS (hI.1 0 (by decide)) (v := 0) dX4_policies_2 (fun H locs hP hS => ?_)
  refine lv_aload_n hx hb dX4_policies_5 rfl (lv_at hl 0 rfl) ?_
  refine gf_X4_63 hx hb hT hown hK (v := .int (MI 0 6)) (hP.at (hI.1 0 (by decide)) rfl) rfl dX4_policies_6 ?_
  exact zW_i hx hb hr hlk hS (Nat.le_of_ble_eq_true rfl) (Nat.le_of_ble_eq_true rfl) dX4_policies_9 (rfl) (hP)
set_option maxHeartbeats 4000000 in
set_option maxRecDepth 100000 in
theorem c_X4_estate (l : Launch) (hD0 : zD (fun _ => True) Rs ad) (hI : zIn Rs np ng)  (sz : Nat) : zMW l yX4_estate cX4_estate 1 ((some .long)) 0 (0) 0 0 D ks sz [.ref (ad 0)] (zP D Rs ad (gS ks ad np ng G MI MJ XI XJ)) (some (.long (MJ 0 0))) (zP D Rs ad (gS ks ad np ng G (u2 MI 0 7 0) MJ XI XJ)) (zA Rs ad sz) := by
  refine zMW.of (by decide +kernel) (Nat.le_of_ble_eq_true rfl) ?_
  intro p e s m below meth c ls hx hb hr hml hown hlk hT hsz hP hK hl hin
  have hl : lv_has ls 1 [(0, .ref (ad 0))] := hl
  subst hsz
  have hD := hD0.self (sz := s.heap.size)
  have hA : ∀ q : Nat, s.heap.size ≤ q → zA Rs ad s.heap.size q := fun q h => Or.inr h
  have hS : va_S (zA Rs ad s.heap.size) s.heap s.heap [] := va_S.rf
  refine lv_aload_n hx hb dX4_estate_0 rfl (lv_at hl 0 rfl) ?_
  refine lv_iconst (v := 0) hx hb dX4_estate_1 (by decide) ?_
  refine pf_X4_60 hx hb hT hown hK hP hD hS (hI.1 0 (by decide)) (v := 0) dX4_estate_2 (fun H locs hP hS => ?_)
  refine lv_aload_n hx hb dX4_estate_5 rfl (lv_at hl 0 rfl) ?_
  refine gf_X4_84 hx hb hT hown hK (v := .long (MJ 0 0)) (hP.at (hI.1 0 (by decide)) rfl) rfl dX4_estate_6 ?_
  exact zW_l hx hb hr hlk hS (Nat.le_of_ble_eq_true rfl) (Nat.le_of_ble_eq_true rfl) dX4_estate_9 (rfl) (hP)
set_option maxHeartbeats 4000000 in
set_option maxRecDepth 100000 in
theorem c_X4_assets (l : Launch) (hD0 : zD (fun _ => True) Rs ad) (hI : zIn Rs np ng)  (sz : Nat) : zMW l yX4_assets cX4_assets 1 ((some .long)) 0 (0) 0 0 D ks sz [.ref (ad 0)] (zP D Rs ad (gS ks ad np ng G MI MJ XI XJ)) (some (.long (MJ 0 1))) (zP D Rs ad (gS ks ad np ng G (u2 MI 0 7 0) MJ XI XJ)) (zA Rs ad sz) := by
  refine zMW.of (by decide +kernel) (Nat.le_of_ble_eq_true rfl) ?_
  intro p e s m below meth c ls hx hb hr hml hown hlk hT hsz hP hK hl hin
  have hl : lv_has ls 1 [(0, .ref (ad 0))] := hl
  subst hsz
  have hD := hD0.self (sz := s.heap.size)
  have hA : ∀ q : Nat, s.heap.size ≤ q → zA Rs ad s.heap.size q := fun q h => Or.inr h
  have hS : va_S (zA Rs ad s.heap.size) s.heap s.heap [] := va_S.rf
  refine lv_aload_n hx hb dX4_assets_0 rfl (lv_at hl 0 rfl) ?_
  refine lv_iconst (v := 0) hx hb dX4_assets_1 (by decide) ?_
  refine pf_X4_60 hx hb hT hown hK hP hD hS (hI.1 0 (by decide)) (v := 0) dX4_assets_2 (fun H locs hP hS => ?_)
  refine lv_aload_n hx hb dX4_assets_5 rfl (lv_at hl 0 rfl) ?_
  refine gf_X4_88 hx hb hT hown hK (v := .long (MJ 0 1)) (hP.at (hI.1 0 (by decide)) rfl) rfl dX4_assets_6 ?_
  exact zW_l hx hb hr hlk hS (Nat.le_of_ble_eq_true rfl) (Nat.le_of_ble_eq_true rfl) dX4_assets_9 (rfl) (hP)
set_option maxHeartbeats 4000000 in
set_option maxRecDepth 100000 in
theorem c_X4_thrown (l : Launch) (hI : zIn Rs np ng)  : zMR l yX4_thrown cX4_thrown 1 ((some .int)) 0 (0) D ks [.ref (ad 0)] (zP D Rs ad (gS ks ad np ng G MI MJ XI XJ)) (some (.int (MI 0 7))) := by
  refine zMR.of (by decide +kernel) (Nat.le_of_ble_eq_true rfl) ?_
  intro p e s m below meth c ls hx hb hr hml hown hlk hT hP hK hl
  have hl : lv_has ls 1 [(0, .ref (ad 0))] := hl
  refine lv_aload_n hx hb dX4_thrown_0 rfl (lv_at hl 0 rfl) ?_
  refine gf_X4_60 hx hb hT hown hK (hP.at (hI.1 0 (by decide)) rfl) rfl dX4_thrown_1 ?_
  exact zR_i hx hb hr hlk dX4_thrown_4 (rfl)
end ZM2
