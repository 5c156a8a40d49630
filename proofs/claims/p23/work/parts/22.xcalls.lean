/-! the office: its calls, where they do not throw -/
section ZX3
variable {D : va_G} {ks : Nat → ClassId} {ad : Nat → Nat} {np ng : Nat} {G : Nat → Nat} {MI : Nat → Nat → Int32} {MJ : Nat → Nat → Int64} {XI : Nat → Nat → Int32} {XJ : Nat → Nat → Int64} {Rs : List Nat}
set_option maxHeartbeats 4000000 in
set_option maxRecDepth 100000 in
theorem c_X3_knownPolicy_ok (l : Launch) (hI : zIn Rs np ng) (j : Nat) (hj : j < np) (hN : np ≤ 30) : zMR l yX3_knownPolicy cX3_knownPolicy 3 ((some (.object "ProfitsOffice$Policy"))) 0 (0) D ks [.ref (ad 13), .int (nI j)] (zP D Rs ad (gS ks ad np ng G MI MJ XI XJ)) (some (.ref (ad (22 + 4 * j)))) := by
  refine zMR.of (by decide +kernel) (Nat.le_of_ble_eq_true rfl) ?_
  intro p e s m below meth c ls hx hb hr hml hown hlk hT hP hK hl
  have hl : lv_has ls 3 [(0, .ref (ad 13)), (1, .int (nI j))] := hl
  refine lv_iload_n hx hb dX3_knownPolicy_0 rfl (lv_at hl 1 rfl) ?_
  refine lv_if_lt (tgt := 13) hx hb dX3_knownPolicy_1 (by decide) (fun c_1 => ?_) (fun c_1 => ?_)
  · exact absurd c_1 (nI_pos (by omega))
  · refine lv_iload_n hx hb dX3_knownPolicy_4 rfl (lv_at hl 1 rfl) ?_
    refine lv_aload_n hx hb dX3_knownPolicy_5 rfl (lv_at hl 0 rfl) ?_
    refine gf_X3_11 hx hb hT hown hK (hP.at (hI.1 13 (by decide)) rfl) rfl dX3_knownPolicy_6 ?_
    refine z_plen hx hb hK (hP.at (hI.1 14 (by decide)) rfl) (v := 30) rfl dX3_knownPolicy_9 ?_
    refine lv_icmp_lt (tgt := 23) hx hb dX3_knownPolicy_10 (by decide) (fun c_2 => ?_) (fun c_2 => ?_)
    · refine lv_aload_n hx hb dX3_knownPolicy_23 rfl (lv_at hl 0 rfl) ?_
      refine gf_X3_11 hx hb hT hown hK (hP.at (hI.1 13 (by decide)) rfl) rfl dX3_knownPolicy_24 ?_
      refine lv_iload_n hx hb dX3_knownPolicy_27 rfl (lv_at hl 1 rfl) ?_
      refine z_paldN hx hb hK (hP.at (hI.1 14 (by decide)) rfl) (Nat.lt_of_lt_of_le hj hN) (by decide) rfl dX3_knownPolicy_28 ?_
      rw [show rPol ad np j = some (ad (22 + 4 * j)) from if_pos hj]
      show W _ _ _ _ _ _ _ _ _ _ _ _ _ _ _ (F0 m 29 ls [.ref (ad (22 + 4 * j))])
      refine lv_astore_n (lv' := [(2, .ref (ad (22 + 4 * j))), (0, .ref (ad 13)), (1, .int (nI j))]) hx hb dX3_knownPolicy_29 rfl hl (by decide) rfl (fun ls hl => ?_)
      refine lv_aload_n hx hb dX3_knownPolicy_30 rfl (lv_at hl 0 rfl) ?_
      refine lv_ifnonnull (tgt := 44) hx hb dX3_knownPolicy_31 (by decide) ?_
      refine lv_aload_n hx hb dX3_knownPolicy_44 rfl (lv_at hl 0 rfl) ?_
      exact zR_a hx hb hr hlk dX3_knownPolicy_45 (Or.inr ⟨_, rfl⟩) (rfl)
    · exact absurd (nI_lt (a := j) (b := 30) (by omega) (by decide)) c_2
set_option maxHeartbeats 4000000 in
set_option maxRecDepth 100000 in
theorem c_X3_checkSurrenderable_ok (l : Launch) (hI : zIn Rs np ng) (j : Nat) (hj : j < np) (hN : np ≤ 30) (hG : G j < ng) (hst : XI 15 j = 0) (hyr : 1 ≤ XI 10 2 - XI 11 (G j)) : zMR l yX3_checkSurrenderable cX3_checkSurrenderable 2 ((none : Option FieldType)) 1 (21) D ks [.ref (ad 13), .ref (ad (22 + 4 * j))] (zP D Rs ad (gS ks ad np ng G MI MJ XI XJ)) none := by
  refine zMR.of (by decide +kernel) (Nat.le_of_ble_eq_true rfl) ?_
  intro p e s m below meth c ls hx hb hr hml hown hlk hT hP hK hl
  have hl : lv_has ls 2 [(0, .ref (ad 13)), (1, .ref (ad (22 + 4 * j)))] := hl
  refine lv_aload_n hx hb dX3_checkSurrenderable_0 rfl (lv_at hl 1 rfl) ?_
  refine z_backR1 (z_runVN ⟨hx, hb, hml, hown, hT⟩ hK (rest := []) (As := []) (c_X2_isInForce (MI := MI) (MJ := MJ) (XI := XI) (XJ := XJ) l hI j (hj)) k_X3_143 (z_preRV hK hP (hP.at (hI.2.2 j hj).1 gS_2) rfl) rfl ⟨Nat.le_of_ble_eq_true rfl, Nat.le_of_ble_eq_true rfl⟩ hl.1 rfl (Nat.le_of_ble_eq_true rfl) dX3_checkSurrenderable_1 ⟨Nat.le_of_ble_eq_true rfl, Nat.le_of_ble_eq_true rfl⟩) ?_
  refine lv_if_eq (tgt := 16) hx hb dX3_checkSurrenderable_4 (by decide) (fun c_1 => ?_) (fun c_1 => ?_)
  · exact absurd ((if_pos hst).symm.trans c_1) (by decide)
  · refine lv_aload_n hx hb dX3_checkSurrenderable_7 rfl (lv_at hl 0 rfl) ?_
    refine lv_aload_n hx hb dX3_checkSurrenderable_8 rfl (lv_at hl 1 rfl) ?_
    refine z_backR1 (z_runV ⟨hx, hb, hml, hown, hT⟩ (rest := []) (As := [.ref (ad (22 + 4 * j))]) (c_X3_yearsRun (MI := MI) (MJ := MJ) (XI := XI) (XJ := XJ) l hI j (hj) (hG)) k_X3_186 (z_preRV hK hP (hP.at (hI.1 13 (by decide)) rfl) rfl) rfl ⟨Nat.le_of_ble_eq_true rfl, Nat.le_of_ble_eq_true rfl⟩ hl.1 rfl (Nat.le_of_ble_eq_true rfl) dX3_checkSurrenderable_9 ⟨Nat.le_of_ble_eq_true rfl, Nat.le_of_ble_eq_true rfl⟩) ?_
    refine lv_iconst (v := 1) hx hb dX3_checkSurrenderable_12 (by decide) ?_
    refine lv_icmp_ge (tgt := 26) hx hb dX3_checkSurrenderable_13 (by decide) (fun c_2 => ?_) (fun c_2 => ?_)
    · exact zR_v hx hb hr hlk dX3_checkSurrenderable_26
    · exact absurd hyr c_2
set_option maxHeartbeats 4000000 in
set_option maxRecDepth 100000 in
theorem c_X3_stateOf_ok (l : Launch) (hI : zIn Rs np ng) (j : Nat) (hj : j < np) (hN : np ≤ 30) : zMR l yX3_stateOf cX3_stateOf 2 ((some .int)) 1 (22) D ks [.ref (ad 13), .int (nI j)] (zP D Rs ad (gS ks ad np ng G MI MJ XI XJ)) (some (.int (XI 15 j))) := by
  refine zMR.of (by decide +kernel) (Nat.le_of_ble_eq_true rfl) ?_
  intro p e s m below meth c ls hx hb hr hml hown hlk hT hP hK hl
  have hl : lv_has ls 2 [(0, .ref (ad 13)), (1, .int (nI j))] := hl
  refine lv_aload_n hx hb dX3_stateOf_0 rfl (lv_at hl 0 rfl) ?_
  refine lv_iload_n hx hb dX3_stateOf_1 rfl (lv_at hl 1 rfl) ?_
  refine z_backR1 (z_runV ⟨hx, hb, hml, hown, hT⟩ (rest := []) (As := [.int (nI j)]) (c_X3_knownPolicy_ok (MI := MI) (MJ := MJ) (XI := XI) (XJ := XJ) l hI j (hj) (hN)) k_X3_77 (z_preRV hK hP (hP.at (hI.1 13 (by decide)) rfl) rfl) rfl ⟨Nat.le_of_ble_eq_true rfl, Nat.le_of_ble_eq_true rfl⟩ hl.1 rfl (Nat.le_of_ble_eq_true rfl) dX3_stateOf_2 ⟨Nat.le_of_ble_eq_true rfl, Nat.le_of_ble_eq_true rfl⟩) ?_
  refine gf_X3_133 hx hb hT hown hK (hP.at (hI.2.2 j hj).1 gS_2) rfl dX3_stateOf_5 ?_
  exact zR_i hx hb hr hlk dX3_stateOf_8 (rfl)
set_option maxHeartbeats 4000000 in
set_option maxRecDepth 100000 in
theorem c_X3_bonuses_ok (l : Launch) (hI : zIn Rs np ng) (j : Nat) (hj : j < np) (hN : np ≤ 30) : zMR l yX3_bonuses cX3_bonuses 2 ((some .int)) 1 (22) D ks [.ref (ad 13), .int (nI j)] (zP D Rs ad (gS ks ad np ng G MI MJ XI XJ)) (some (.int (Int64.toInt32 (XJ 10 j)))) := by
  refine zMR.of (by decide +kernel) (Nat.le_of_ble_eq_true rfl) ?_
  intro p e s m below meth c ls hx hb hr hml hown hlk hT hP hK hl
  have hl : lv_has ls 2 [(0, .ref (ad 13)), (1, .int (nI j))] := hl
  refine lv_aload_n hx hb dX3_bonuses_0 rfl (lv_at hl 0 rfl) ?_
  refine lv_iload_n hx hb dX3_bonuses_1 rfl (lv_at hl 1 rfl) ?_
  refine z_backR1 (z_runV ⟨hx, hb, hml, hown, hT⟩ (rest := []) (As := [.int (nI j)]) (c_X3_knownPolicy_ok (MI := MI) (MJ := MJ) (XI := XI) (XJ := XJ) l hI j (hj) (hN)) k_X3_77 (z_preRV hK hP (hP.at (hI.1 13 (by decide)) rfl) rfl) rfl ⟨Nat.le_of_ble_eq_true rfl, Nat.le_of_ble_eq_true rfl⟩ hl.1 rfl (Nat.le_of_ble_eq_true rfl) dX3_bonuses_2 ⟨Nat.le_of_ble_eq_true rfl, Nat.le_of_ble_eq_true rfl⟩) ?_
  refine gf_X3_136 hx hb hT hown hK (hP.at (hI.2.2 j hj).1 gS_2) rfl dX3_bonuses_5 ?_
  refine lv_l2i hx hb dX3_bonuses_8 rfl ?_
  exact zR_i hx hb hr hlk dX3_bonuses_9 (rfl)
set_option maxHeartbeats 4000000 in
set_option maxRecDepth 100000 in
theorem c_X3_paid_ok (l : Launch) (hI : zIn Rs np ng) (j : Nat) (hj : j < np) (hN : np ≤ 30) : zMR l yX3_paid cX3_paid 2 ((some .int)) 1 (22) D ks [.ref (ad 13), .int (nI j)] (zP D Rs ad (gS ks ad np ng G MI MJ XI XJ)) (some (.int (Int64.toInt32 (XJ 11 j)))) := by
  refine zMR.of (by decide +kernel) (Nat.le_of_ble_eq_true rfl) ?_
  intro p e s m below meth c ls hx hb hr hml hown hlk hT hP hK hl
  have hl : lv_has ls 2 [(0, .ref (ad 13)), (1, .int (nI j))] := hl
  refine lv_aload_n hx hb dX3_paid_0 rfl (lv_at hl 0 rfl) ?_
  refine lv_iload_n hx hb dX3_paid_1 rfl (lv_at hl 1 rfl) ?_
  refine z_backR1 (z_runV ⟨hx, hb, hml, hown, hT⟩ (rest := []) (As := [.int (nI j)]) (c_X3_knownPolicy_ok (MI := MI) (MJ := MJ) (XI := XI) (XJ := XJ) l hI j (hj) (hN)) k_X3_77 (z_preRV hK hP (hP.at (hI.1 13 (by decide)) rfl) rfl) rfl ⟨Nat.le_of_ble_eq_true rfl, Nat.le_of_ble_eq_true rfl⟩ hl.1 rfl (Nat.le_of_ble_eq_true rfl) dX3_paid_2 ⟨Nat.le_of_ble_eq_true rfl, Nat.le_of_ble_eq_true rfl⟩) ?_
  refine gf_X3_164 hx hb hT hown hK (hP.at (hI.2.2 j hj).1 gS_2) rfl dX3_paid_5 ?_
  refine lv_l2i hx hb dX3_paid_8 rfl ?_
  exact zR_i hx hb hr hlk dX3_paid_9 (rfl)
set_option maxHeartbeats 4000000 in
set_option maxRecDepth 100000 in
theorem c_X3_shareOf_ok (l : Launch) (hI : zIn Rs np ng) (j : Nat) (hj : j < np) (hN : np ≤ 30) (hG : G j < ng) : zMR l yX3_shareOf cX3_shareOf 2 ((some .int)) 3 (64) D ks [.ref (ad 13), .int (nI j)] (zP D Rs ad (gS ks ad np ng G MI MJ XI XJ)) (some (.int (Int64.toInt32 (fAsset (XI 15 j) (XJ 8 (G j)) (XI 13 j) (XJ 7 (G j)))))) := by
  refine zMR.of (by decide +kernel) (Nat.le_of_ble_eq_true rfl) ?_
  intro p e s m below meth c ls hx hb hr hml hown hlk hT hP hK hl
  have hl : lv_has ls 2 [(0, .ref (ad 13)), (1, .int (nI j))] := hl
  refine lv_aload_n hx hb dX3_shareOf_0 rfl (lv_at hl 0 rfl) ?_
  refine lv_iload_n hx hb dX3_shareOf_1 rfl (lv_at hl 1 rfl) ?_
  refine z_backR1 (z_runV ⟨hx, hb, hml, hown, hT⟩ (rest := []) (As := [.int (nI j)]) (c_X3_knownPolicy_ok (MI := MI) (MJ := MJ) (XI := XI) (XJ := XJ) l hI j (hj) (hN)) k_X3_77 (z_preRV hK hP (hP.at (hI.1 13 (by decide)) rfl) rfl) rfl ⟨Nat.le_of_ble_eq_true rfl, Nat.le_of_ble_eq_true rfl⟩ hl.1 rfl (Nat.le_of_ble_eq_true rfl) dX3_shareOf_2 ⟨Nat.le_of_ble_eq_true rfl, Nat.le_of_ble_eq_true rfl⟩) ?_
  refine z_backR1 (z_runVN ⟨hx, hb, hml, hown, hT⟩ hK (rest := []) (As := []) (c_X2_assetShare (MI := MI) (MJ := MJ) (XI := XI) (XJ := XJ) l hI j (hj) (hG)) k_X3_139 (z_preRV hK hP (hP.at (hI.2.2 j hj).1 gS_2) rfl) rfl ⟨Nat.le_of_ble_eq_true rfl, Nat.le_of_ble_eq_true rfl⟩ hl.1 rfl (Nat.le_of_ble_eq_true rfl) dX3_shareOf_5 ⟨Nat.le_of_ble_eq_true rfl, Nat.le_of_ble_eq_true rfl⟩) ?_
  refine lv_l2i hx hb dX3_shareOf_8 rfl ?_
  exact zR_i hx hb hr hlk dX3_shareOf_9 (rfl)
set_option maxHeartbeats 4000000 in
set_option maxRecDepth 100000 in
theorem c_X3_shareAlone_ok (l : Launch) (hI : zIn Rs np ng) (j : Nat) (hj : j < np) (hN : np ≤ 30) : zMR l yX3_shareAlone cX3_shareAlone 3 ((some .int)) 1 (22) D ks [.ref (ad 13), .int (nI j)] (zP D Rs ad (gS ks ad np ng G MI MJ XI XJ)) (some (.int (if XI 15 j = 0 then Int64.toInt32 (XJ 9 j) else 0))) := by
  refine zMR.of (by decide +kernel) (Nat.le_of_ble_eq_true rfl) ?_
  intro p e s m below meth c ls hx hb hr hml hown hlk hT hP hK hl
  have hl : lv_has ls 3 [(0, .ref (ad 13)), (1, .int (nI j))] := hl
  refine lv_aload_n hx hb dX3_shareAlone_0 rfl (lv_at hl 0 rfl) ?_
  refine lv_iload_n hx hb dX3_shareAlone_1 rfl (lv_at hl 1 rfl) ?_
  refine z_backR1 (z_runV ⟨hx, hb, hml, hown, hT⟩ (rest := []) (As := [.int (nI j)]) (c_X3_knownPolicy_ok (MI := MI) (MJ := MJ) (XI := XI) (XJ := XJ) l hI j (hj) (hN)) k_X3_77 (z_preRV hK hP (hP.at (hI.1 13 (by decide)) rfl) rfl) rfl ⟨Nat.le_of_ble_eq_true rfl, Nat.le_of_ble_eq_true rfl⟩ hl.1 rfl (Nat.le_of_ble_eq_true rfl) dX3_shareAlone_2 ⟨Nat.le_of_ble_eq_true rfl, Nat.le_of_ble_eq_true rfl⟩) ?_
  refine lv_astore_n (lv' := [(2, .ref (ad (22 + 4 * j))), (0, .ref (ad 13)), (1, .int (nI j))]) hx hb dX3_shareAlone_5 rfl hl (by decide) rfl (fun ls hl => ?_)
  refine lv_aload_n hx hb dX3_shareAlone_6 rfl (lv_at hl 0 rfl) ?_
  refine z_backR1 (z_runVN ⟨hx, hb, hml, hown, hT⟩ hK (rest := []) (As := []) (c_X2_isInForce (MI := MI) (MJ := MJ) (XI := XI) (XJ := XJ) l hI j (hj)) k_X3_143 (z_preRV hK hP (hP.at (hI.2.2 j hj).1 gS_2) rfl) rfl ⟨Nat.le_of_ble_eq_true rfl, Nat.le_of_ble_eq_true rfl⟩ hl.1 rfl (Nat.le_of_ble_eq_true rfl) dX3_shareAlone_7 ⟨Nat.le_of_ble_eq_true rfl, Nat.le_of_ble_eq_true rfl⟩) ?_
  refine lv_if_eq (tgt := 24) hx hb dX3_shareAlone_10 (by decide) (fun c_1 => ?_) (fun c_1 => ?_)
  · refine lv_iconst (v := 0) hx hb dX3_shareAlone_24 (by decide) ?_
    exact zR_i hx hb hr hlk dX3_shareAlone_25 ((if_neg (fun h => absurd ((if_pos h).symm.trans c_1 : (1 : Int32) = 0) (by decide))).symm)
  · refine lv_aload_n hx hb dX3_shareAlone_13 rfl (lv_at hl 0 rfl) ?_
    refine gf_X3_147 hx hb hT hown hK (hP.at (hI.2.2 j hj).1 gS_2) rfl dX3_shareAlone_14 ?_
    refine gf_X3_151 hx hb hT hown hK (hP.at (hI.2.2 j hj).2 gS_3) rfl dX3_shareAlone_17 ?_
    refine lv_l2i hx hb dX3_shareAlone_20 rfl ?_
    refine lv_goto (tgt := 25) hx hb dX3_shareAlone_21 (by decide) ?_
    exact zR_i hx hb hr hlk dX3_shareAlone_25 ((if_pos (Decidable.byContradiction fun h => c_1 (if_neg h))).symm)
set_option maxHeartbeats 4000000 in
set_option maxRecDepth 100000 in
theorem c_X3_worth_ok (l : Launch) (hI : zIn Rs np ng) (j : Nat) (hj : j < np) (hN : np ≤ 30) (hG : G j < ng) (hst : XI 15 j = 0) (hyr : 1 ≤ XI 10 2 - XI 11 (G j)) : zMR l yX3_worth cX3_worth 3 ((some .int)) 4 (92) D ks [.ref (ad 13), .int (nI j)] (zP D Rs ad (gS ks ad np ng G MI MJ XI XJ)) (some (.int (Int64.toInt32 (fWorth (XI 10 2 - XI 11 (G j)) (XI 12 (G j)) (fAsset (XI 15 j) (XJ 8 (G j)) (XI 13 j) (XJ 7 (G j))) (XI 13 j) (XI 10 7))))) := by
  refine zMR.of (by decide +kernel) (Nat.le_of_ble_eq_true rfl) ?_
  intro p e s m below meth c ls hx hb hr hml hown hlk hT hP hK hl
  have hl : lv_has ls 3 [(0, .ref (ad 13)), (1, .int (nI j))] := hl
  refine lv_aload_n hx hb dX3_worth_0 rfl (lv_at hl 0 rfl) ?_
  refine lv_iload_n hx hb dX3_worth_1 rfl (lv_at hl 1 rfl) ?_
  refine z_backR1 (z_runV ⟨hx, hb, hml, hown, hT⟩ (rest := []) (As := [.int (nI j)]) (c_X3_knownPolicy_ok (MI := MI) (MJ := MJ) (XI := XI) (XJ := XJ) l hI j (hj) (hN)) k_X3_77 (z_preRV hK hP (hP.at (hI.1 13 (by decide)) rfl) rfl) rfl ⟨Nat.le_of_ble_eq_true rfl, Nat.le_of_ble_eq_true rfl⟩ hl.1 rfl (Nat.le_of_ble_eq_true rfl) dX3_worth_2 ⟨Nat.le_of_ble_eq_true rfl, Nat.le_of_ble_eq_true rfl⟩) ?_
  refine lv_astore_n (lv' := [(2, .ref (ad (22 + 4 * j))), (0, .ref (ad 13)), (1, .int (nI j))]) hx hb dX3_worth_5 rfl hl (by decide) rfl (fun ls hl => ?_)
  refine lv_aload_n hx hb dX3_worth_6 rfl (lv_at hl 1 rfl) ?_
  refine lv_aload_n hx hb dX3_worth_7 rfl (lv_at hl 0 rfl) ?_
  refine z_backR0 (z_runV ⟨hx, hb, hml, hown, hT⟩ (rest := []) (As := [.ref (ad (22 + 4 * j))]) (c_X3_checkSurrenderable_ok (MI := MI) (MJ := MJ) (XI := XI) (XJ := XJ) l hI j (hj) (hN) (hG) (hst) (hyr)) k_X3_81 (z_preRV hK hP (hP.at (hI.1 13 (by decide)) rfl) rfl) rfl ⟨Nat.le_of_ble_eq_true rfl, Nat.le_of_ble_eq_true rfl⟩ hl.1 rfl (Nat.le_of_ble_eq_true rfl) dX3_worth_8 ⟨Nat.le_of_ble_eq_true rfl, Nat.le_of_ble_eq_true rfl⟩) ?_
  refine lv_aload_n hx hb dX3_worth_11 rfl (lv_at hl 1 rfl) ?_
  refine lv_aload_n hx hb dX3_worth_12 rfl (lv_at hl 0 rfl) ?_
  refine z_backR1 (z_runV ⟨hx, hb, hml, hown, hT⟩ (rest := []) (As := [.ref (ad (22 + 4 * j))]) (c_X3_surrenderWorth (MI := MI) (MJ := MJ) (XI := XI) (XJ := XJ) l hI j (hj) (hG)) k_X3_85 (z_preRV hK hP (hP.at (hI.1 13 (by decide)) rfl) rfl) rfl ⟨Nat.le_of_ble_eq_true rfl, Nat.le_of_ble_eq_true rfl⟩ hl.1 rfl (Nat.le_of_ble_eq_true rfl) dX3_worth_13 ⟨Nat.le_of_ble_eq_true rfl, Nat.le_of_ble_eq_true rfl⟩) ?_
  refine lv_l2i hx hb dX3_worth_16 rfl ?_
  exact zR_i hx hb hr hlk dX3_worth_17 (rfl)
set_option maxHeartbeats 4000000 in
set_option maxRecDepth 100000 in
theorem c_X3_surrender_ok (l : Launch) (hD0 : zD (fun _ => True) Rs ad) (hI : zIn Rs np ng) (j : Nat) (hj : j < np) (hN : np ≤ 30) (hG : G j < ng) (hst : XI 15 j = 0) (hyr : 1 ≤ XI 10 2 - XI 11 (G j)) (sz : Nat) : zMW l yX3_surrender cX3_surrender 5 ((some .int)) 4 (92) 0 0 D ks sz [.ref (ad 13), .int (nI j)] (zP D Rs ad (gS ks ad np ng G MI MJ XI XJ)) (some (.int (Int64.toInt32 (fWorth (XI 10 2 - XI 11 (G j)) (XI 12 (G j)) (fAsset (XI 15 j) (XJ 8 (G j)) (XI 13 j) (XJ 7 (G j))) (XI 13 j) (XI 10 7))))) (zP D Rs ad (gS ks ad np ng G MI MJ (u2 XI 15 j 2) (u2 (u2 (u2 (u2 (u2 XJ 7 (G j) ((XJ 7 (G j)) - Int32.toInt64 (XI 13 j))) 8 (G j) ((XJ 8 (G j)) - fRel (XJ 8 (G j)) (XI 13 j) (XJ 7 (G j)))) 4 0 ((XJ 4 0) + (fRel (XJ 8 (G j)) (XI 13 j) (XJ 7 (G j)) - (fWorth (XI 10 2 - XI 11 (G j)) (XI 12 (G j)) (fAsset (XI 15 j) (XJ 8 (G j)) (XI 13 j) (XJ 7 (G j))) (XI 13 j) (XI 10 7))))) 4 1 ((XJ 4 1) - (fWorth (XI 10 2 - XI 11 (G j)) (XI 12 (G j)) (fAsset (XI 15 j) (XJ 8 (G j)) (XI 13 j) (XJ 7 (G j))) (XI 13 j) (XI 10 7)))) 11 j (fWorth (XI 10 2 - XI 11 (G j)) (XI 12 (G j)) (fAsset (XI 15 j) (XJ 8 (G j)) (XI 13 j) (XJ 7 (G j))) (XI 13 j) (XI 10 7))))) (zA Rs ad sz) := by
  refine zMW.of (by decide +kernel) (Nat.le_of_ble_eq_true rfl) ?_
  intro p e s m below meth c ls hx hb hr hml hown hlk hT hsz hP hK hl hin
  have hl : lv_has ls 5 [(0, .ref (ad 13)), (1, .int (nI j))] := hl
  subst hsz
  have hD := hD0.self (sz := s.heap.size)
  have hA : ∀ q : Nat, s.heap.size ≤ q → zA Rs ad s.heap.size q := fun q h => Or.inr h
  have hS : va_S (zA Rs ad s.heap.size) s.heap s.heap [] := va_S.rf
  refine lv_aload_n hx hb dX3_surrender_0 rfl (lv_at hl 0 rfl) ?_
  refine lv_iload_n hx hb dX3_surrender_1 rfl (lv_at hl 1 rfl) ?_
  refine z_backR1 (z_runV ⟨hx, hb, hml, hown, hT⟩ (rest := []) (As := [.int (nI j)]) (c_X3_knownPolicy_ok (MI := MI) (MJ := MJ) (XI := XI) (XJ := XJ) l hI j (hj) (hN)) k_X3_77 (z_preRV hK hP (hP.at (hI.1 13 (by decide)) rfl) rfl) rfl ⟨Nat.le_of_ble_eq_true rfl, Nat.le_of_ble_eq_true rfl⟩ hl.1 rfl (Nat.le_of_ble_eq_true rfl) dX3_surrender_2 ⟨Nat.le_of_ble_eq_true rfl, Nat.le_of_ble_eq_true rfl⟩) ?_
  refine lv_astore_n (lv' := [(2, .ref (ad (22 + 4 * j))), (0, .ref (ad 13)), (1, .int (nI j))]) hx hb dX3_surrender_5 rfl hl (by decide) rfl (fun ls hl => ?_)
  refine lv_aload_n hx hb dX3_surrender_6 rfl (lv_at hl 1 rfl) ?_
  refine lv_aload_n hx hb dX3_surrender_7 rfl (lv_at hl 0 rfl) ?_
  refine z_backR0 (z_runV ⟨hx, hb, hml, hown, hT⟩ (rest := []) (As := [.ref (ad (22 + 4 * j))]) (c_X3_checkSurrenderable_ok (MI := MI) (MJ := MJ) (XI := XI) (XJ := XJ) l hI j (hj) (hN) (hG) (hst) (hyr)) k_X3_81 (z_preRV hK hP (hP.at (hI.1 13 (by decide)) rfl) rfl) rfl ⟨Nat.le_of_ble_eq_true rfl, Nat.le_of_ble_eq_true rfl⟩ hl.1 rfl (Nat.le_of_ble_eq_true rfl) dX3_surrender_8 ⟨Nat.le_of_ble_eq_true rfl, Nat.le_of_ble_eq_true rfl⟩) ?_
  refine lv_aload_n hx hb dX3_surrender_11 rfl (lv_at hl 1 rfl) ?_
  refine lv_aload_n hx hb dX3_surrender_12 rfl (lv_at hl 0 rfl) ?_
  refine z_backR1 (z_runV ⟨hx, hb, hml, hown, hT⟩ (rest := []) (As := [.ref (ad (22 + 4 * j))]) (c_X3_surrenderWorth (MI := MI) (MJ := MJ) (XI := XI) (XJ := XJ) l hI j (hj) (hG)) k_X3_85 (z_preRV hK hP (hP.at (hI.1 13 (by decide)) rfl) rfl) rfl ⟨Nat.le_of_ble_eq_true rfl, Nat.le_of_ble_eq_true rfl⟩ hl.1 rfl (Nat.le_of_ble_eq_true rfl) dX3_surrender_13 ⟨Nat.le_of_ble_eq_true rfl, Nat.le_of_ble_eq_true rfl⟩) ?_
  refine lv_topl (fun v1 ev1 => ?_)
  refine lv_lstore_n (lv' := [(3, .long v1), (2, .ref (ad (22 + 4 * j))), (0, .ref (ad 13)), (1, .int (nI j))]) hx hb dX3_surrender_16 rfl hl (by decide) rfl (fun ls hl => ?_)
  refine lv_aload_n hx hb dX3_surrender_17 rfl (lv_at hl 2 rfl) ?_
  refine lv_aload_n hx hb dX3_surrender_18 rfl (lv_at hl 1 rfl) ?_
  refine lv_iconst (v := 2) hx hb dX3_surrender_19 (by decide) ?_
  refine lv_lload_n hx hb dX3_surrender_20 rfl (lv_at hl 0 rfl) ?_
  refine z_backW0 (z_runV ⟨hx, hb, hml, hown, hT⟩ (rest := []) (As := [.ref (ad (22 + 4 * j)), .int 2, .long v1]) (c_X3_close (MI := MI) (MJ := MJ) (XI := XI) (XJ := XJ) l hD0 hI j 2 v1 (hj) (hG) _) k_X3_89 (z_preWV hK hP (hP.at (hI.1 13 (by decide)) rfl) rfl) rfl ⟨Nat.le_of_ble_eq_true rfl, Nat.le_of_ble_eq_true rfl⟩ hl.1 rfl (Nat.le_of_ble_eq_true rfl) dX3_surrender_21 ⟨Nat.le_of_ble_eq_true rfl, Nat.le_of_ble_eq_true rfl⟩) hS (hD.free (fun q hq => hA q (Nat.le_trans hS.1 hq))) (fun H locs hP hz1 hk1 hS => ?_)
  have hP : zP D Rs ad (gS ks ad np ng G MI MJ (u2 XI 15 j 2) (u2 (u2 (u2 (u2 (u2 XJ 7 (G j) ((XJ 7 (G j)) - Int32.toInt64 (XI 13 j))) 8 (G j) ((XJ 8 (G j)) - fRel (XJ 8 (G j)) (XI 13 j) (XJ 7 (G j)))) 4 0 ((XJ 4 0) + (fRel (XJ 8 (G j)) (XI 13 j) (XJ 7 (G j)) - v1))) 4 1 ((XJ 4 1) - v1)) 11 j v1)) H := hP
  refine lv_lload_n hx hb dX3_surrender_24 rfl (lv_at hl 0 rfl) ?_
  refine lv_l2i hx hb dX3_surrender_25 rfl ?_
  exact zW_i hx hb hr hlk hS (Nat.le_of_ble_eq_true rfl) (Nat.le_of_ble_eq_true rfl) dX3_surrender_26 (by subst ev1; rfl) (by subst ev1; exact hP)
set_option maxHeartbeats 4000000 in
set_option maxRecDepth 100000 in
theorem c_X3_setRates_ok (l : Launch) (hD0 : zD (fun _ => True) Rs ad) (hI : zIn Rs np ng) (bo : Int32) (ch : Int32) (h0 : fIn bo 0 200 = 1) (h1 : fIn ch 0 100 = 1) (sz : Nat) : zMW l yX3_setRates cX3_setRates 4 ((some .int)) 1 (22) 0 0 D ks sz [.ref (ad 13), .int bo, .int ch] (zP D Rs ad (gS ks ad np ng G MI MJ XI XJ)) (some (.int (XI 10 3))) (zP D Rs ad (gS ks ad np ng G MI MJ (u2 (u2 XI 10 3 bo) 10 4 ch) XJ)) (zA Rs ad sz) := by
  refine zMW.of (by decide +kernel) (Nat.le_of_ble_eq_true rfl) ?_
  intro p e s m below meth c ls hx hb hr hml hown hlk hT hsz hP hK hl hin
  have hl : lv_has ls 4 [(0, .ref (ad 13)), (1, .int bo), (2, .int ch)] := hl
  subst hsz
  have hD := hD0.self (sz := s.heap.size)
  have hA : ∀ q : Nat, s.heap.size ≤ q → zA Rs ad s.heap.size q := fun q h => Or.inr h
  have hS : va_S (zA Rs ad s.heap.size) s.heap s.heap [] := va_S.rf
  refine lv_iload_n hx hb dX3_setRates_0 rfl (lv_at hl 1 rfl) ?_
  refine lv_iconst (v := 0) hx hb dX3_setRates_1 (by decide) ?_
  refine lv_sipush (v := 200) hx hb dX3_setRates_2 (by decide) ?_
  refine z_backR1 (z_runS ⟨hx, hb, hml, hown, hT⟩ (rest := []) (As := [.int bo, .int 0, .int 200]) (c_X3_isWithin l D ks bo 0 200 ) k_X3_50 (z_preR hK trivial) rfl ⟨Nat.le_of_ble_eq_true rfl, Nat.le_of_ble_eq_true rfl⟩ hl.1 rfl (Nat.le_of_ble_eq_true rfl) dX3_setRates_5 ⟨Nat.le_of_ble_eq_true rfl, Nat.le_of_ble_eq_true rfl⟩) ?_
  refine lv_if_eq (tgt := 21) hx hb dX3_setRates_8 (by decide) (fun c_1 => ?_) (fun c_1 => ?_)
  · exact absurd ((h0).symm.trans c_1) (by decide)
  · refine lv_iload_n hx hb dX3_setRates_11 rfl (lv_at hl 2 rfl) ?_
    refine lv_iconst (v := 0) hx hb dX3_setRates_12 (by decide) ?_
    refine lv_bipush (v := 100) hx hb dX3_setRates_13 (by decide) ?_
    refine z_backR1 (z_runS ⟨hx, hb, hml, hown, hT⟩ (rest := []) (As := [.int ch, .int 0, .int 100]) (c_X3_isWithin l D ks ch 0 100 ) k_X3_50 (z_preR hK trivial) rfl ⟨Nat.le_of_ble_eq_true rfl, Nat.le_of_ble_eq_true rfl⟩ hl.1 rfl (Nat.le_of_ble_eq_true rfl) dX3_setRates_15 ⟨Nat.le_of_ble_eq_true rfl, Nat.le_of_ble_eq_true rfl⟩) ?_
    refine lv_if_ne (tgt := 31) hx hb dX3_setRates_18 (by decide) (fun c_2 => ?_) (fun c_2 => ?_)
    · refine lv_aload_n hx hb dX3_setRates_31 rfl (lv_at hl 0 rfl) ?_
      refine gf_X3_30 hx hb hT hown hK (hP.at (hI.1 13 (by decide)) rfl) rfl dX3_setRates_32 ?_
      refine lv_istore_n (lv' := [(3, .int (XI 10 3)), (0, .ref (ad 13)), (1, .int bo), (2, .int ch)]) hx hb dX3_setRates_35 rfl hl (by decide) rfl (fun ls hl => ?_)
      refine lv_aload_n hx hb dX3_setRates_36 rfl (lv_at hl 1 rfl) ?_
      refine lv_iload_n hx hb dX3_setRates_37 rfl (lv_at hl 2 rfl) ?_
      refine pf_X3_30 hx hb hT hown hK hP hD hS (hI.1 13 (by decide)) (v := bo) dX3_setRates_38 (fun H locs hP hS => ?_)
      refine lv_aload_n hx hb dX3_setRates_41 rfl (lv_at hl 1 rfl) ?_
      refine lv_iload_n hx hb dX3_setRates_42 rfl (lv_at hl 3 rfl) ?_
      refine pf_X3_34 hx hb hT hown hK hP hD hS (hI.1 13 (by decide)) (v := ch) dX3_setRates_43 (fun H locs hP hS => ?_)
      refine lv_iload_n hx hb dX3_setRates_46 rfl (lv_at hl 0 rfl) ?_
      exact zW_i hx hb hr hlk hS (Nat.le_of_ble_eq_true rfl) (Nat.le_of_ble_eq_true rfl) dX3_setRates_47 (rfl) (hP)
    · exact absurd ((h1).symm.trans c_2) (by decide)
set_option maxHeartbeats 4000000 in
set_option maxRecDepth 100000 in
theorem c_X3_setScale_ok (l : Launch) (hD0 : zD (fun _ => True) Rs ad) (hI : zIn Rs np ng) (sc : Int32) (sp : Int32) (fl : Int32) (h0 : fIn sc 500 1500 = 1) (h1 : fIn sp 0 1000 = 1) (h2 : fIn fl 0 1000 = 1) (sz : Nat) : zMW l yX3_setScale cX3_setScale 5 ((some .int)) 1 (22) 0 0 D ks sz [.ref (ad 13), .int sc, .int sp, .int fl] (zP D Rs ad (gS ks ad np ng G MI MJ XI XJ)) (some (.int (XI 10 5))) (zP D Rs ad (gS ks ad np ng G MI MJ (u2 (u2 (u2 XI 10 5 sc) 10 6 sp) 10 7 fl) XJ)) (zA Rs ad sz) := by
  refine zMW.of (by decide +kernel) (Nat.le_of_ble_eq_true rfl) ?_
  intro p e s m below meth c ls hx hb hr hml hown hlk hT hsz hP hK hl hin
  have hl : lv_has ls 5 [(0, .ref (ad 13)), (1, .int sc), (2, .int sp), (3, .int fl)] := hl
  subst hsz
  have hD := hD0.self (sz := s.heap.size)
  have hA : ∀ q : Nat, s.heap.size ≤ q → zA Rs ad s.heap.size q := fun q h => Or.inr h
  have hS : va_S (zA Rs ad s.heap.size) s.heap s.heap [] := va_S.rf
  refine lv_iload_n hx hb dX3_setScale_0 rfl (lv_at hl 1 rfl) ?_
  refine lv_sipush (v := 500) hx hb dX3_setScale_1 (by decide) ?_
  refine lv_sipush (v := 1500) hx hb dX3_setScale_4 (by decide) ?_
  refine z_backR1 (z_runS ⟨hx, hb, hml, hown, hT⟩ (rest := []) (As := [.int sc, .int 500, .int 1500]) (c_X3_isWithin l D ks sc 500 1500 ) k_X3_50 (z_preR hK trivial) rfl ⟨Nat.le_of_ble_eq_true rfl, Nat.le_of_ble_eq_true rfl⟩ hl.1 rfl (Nat.le_of_ble_eq_true rfl) dX3_setScale_7 ⟨Nat.le_of_ble_eq_true rfl, Nat.le_of_ble_eq_true rfl⟩) ?_
  refine lv_if_eq (tgt := 35) hx hb dX3_setScale_10 (by decide) (fun c_1 => ?_) (fun c_1 => ?_)
  · exact absurd ((h0).symm.trans c_1) (by decide)
  · refine lv_iload_n hx hb dX3_setScale_13 rfl (lv_at hl 2 rfl) ?_
    refine lv_iconst (v := 0) hx hb dX3_setScale_14 (by decide) ?_
    refine lv_sipush (v := 1000) hx hb dX3_setScale_15 (by decide) ?_
    refine z_backR1 (z_runS ⟨hx, hb, hml, hown, hT⟩ (rest := []) (As := [.int sp, .int 0, .int 1000]) (c_X3_isWithin l D ks sp 0 1000 ) k_X3_50 (z_preR hK trivial) rfl ⟨Nat.le_of_ble_eq_true rfl, Nat.le_of_ble_eq_true rfl⟩ hl.1 rfl (Nat.le_of_ble_eq_true rfl) dX3_setScale_18 ⟨Nat.le_of_ble_eq_true rfl, Nat.le_of_ble_eq_true rfl⟩) ?_
    refine lv_if_eq (tgt := 35) hx hb dX3_setScale_21 (by decide) (fun c_2 => ?_) (fun c_2 => ?_)
    · exact absurd ((h1).symm.trans c_2) (by decide)
    · refine lv_iload_n hx hb dX3_setScale_24 rfl (lv_at hl 3 rfl) ?_
      refine lv_iconst (v := 0) hx hb dX3_setScale_25 (by decide) ?_
      refine lv_sipush (v := 1000) hx hb dX3_setScale_26 (by decide) ?_
      refine z_backR1 (z_runS ⟨hx, hb, hml, hown, hT⟩ (rest := []) (As := [.int fl, .int 0, .int 1000]) (c_X3_isWithin l D ks fl 0 1000 ) k_X3_50 (z_preR hK trivial) rfl ⟨Nat.le_of_ble_eq_true rfl, Nat.le_of_ble_eq_true rfl⟩ hl.1 rfl (Nat.le_of_ble_eq_true rfl) dX3_setScale_29 ⟨Nat.le_of_ble_eq_true rfl, Nat.le_of_ble_eq_true rfl⟩) ?_
      refine lv_if_ne (tgt := 45) hx hb dX3_setScale_32 (by decide) (fun c_3 => ?_) (fun c_3 => ?_)
      · refine lv_aload_n hx hb dX3_setScale_45 rfl (lv_at hl 0 rfl) ?_
        refine gf_X3_37 hx hb hT hown hK (hP.at (hI.1 13 (by decide)) rfl) rfl dX3_setScale_46 ?_
        refine lv_istore (lv' := [(4, .int (XI 10 5)), (0, .ref (ad 13)), (1, .int sc), (2, .int sp), (3, .int fl)]) hx hb dX3_setScale_49 hl (by decide) rfl (fun ls hl => ?_)
        refine lv_aload_n hx hb dX3_setScale_51 rfl (lv_at hl 1 rfl) ?_
        refine lv_iload_n hx hb dX3_setScale_52 rfl (lv_at hl 2 rfl) ?_
        refine pf_X3_37 hx hb hT hown hK hP hD hS (hI.1 13 (by decide)) (v := sc) dX3_setScale_53 (fun H locs hP hS => ?_)
        refine lv_aload_n hx hb dX3_setScale_56 rfl (lv_at hl 1 rfl) ?_
        refine lv_iload_n hx hb dX3_setScale_57 rfl (lv_at hl 3 rfl) ?_
        refine pf_X3_40 hx hb hT hown hK hP hD hS (hI.1 13 (by decide)) (v := sp) dX3_setScale_58 (fun H locs hP hS => ?_)
        refine lv_aload_n hx hb dX3_setScale_61 rfl (lv_at hl 1 rfl) ?_
        refine lv_iload_n hx hb dX3_setScale_62 rfl (lv_at hl 4 rfl) ?_
        refine pf_X3_43 hx hb hT hown hK hP hD hS (hI.1 13 (by decide)) (v := fl) dX3_setScale_63 (fun H locs hP hS => ?_)
        refine lv_iload hx hb dX3_setScale_66 (lv_at hl 0 rfl) ?_
        exact zW_i hx hb hr hlk hS (Nat.le_of_ble_eq_true rfl) (Nat.le_of_ble_eq_true rfl) dX3_setScale_68 (rfl) (hP)
      · exact absurd ((h2).symm.trans c_3) (by decide)
set_option maxHeartbeats 4000000 in
set_option maxRecDepth 100000 in
theorem c_X3_endow_ok (l : Launch) (hD0 : zD (fun _ => True) Rs ad) (hI : zIn Rs np ng) (am : Int32) (h0 : fIn am (-1000000) 1000000 = 1) (sz : Nat) : zMW l yX3_endow cX3_endow 2 ((some .long)) 1 (22) 0 0 D ks sz [.ref (ad 13), .int am] (zP D Rs ad (gS ks ad np ng G MI MJ XI XJ)) (some (.long (XJ 4 0 + Int32.toInt64 am))) (zP D Rs ad (gS ks ad np ng G MI MJ XI (u2 (u2 XJ 4 0 (XJ 4 0 + Int32.toInt64 am)) 4 1 (XJ 4 1 + Int32.toInt64 am)))) (zA Rs ad sz) := by
  refine zMW.of (by decide +kernel) (Nat.le_of_ble_eq_true rfl) ?_
  intro p e s m below meth c ls hx hb hr hml hown hlk hT hsz hP hK hl hin
  have hl : lv_has ls 2 [(0, .ref (ad 13)), (1, .int am)] := hl
  subst hsz
  have hD := hD0.self (sz := s.heap.size)
  have hA : ∀ q : Nat, s.heap.size ≤ q → zA Rs ad s.heap.size q := fun q h => Or.inr h
  have hS : va_S (zA Rs ad s.heap.size) s.heap s.heap [] := va_S.rf
  refine lv_iload_n hx hb dX3_endow_0 rfl (lv_at hl 1 rfl) ?_
  refine lv_ldc (v := (-1000000)) hx hb hown (hT _ ki_X3_97) dX3_endow_1 ?_
  refine lv_ldc (v := 1000000) hx hb hown (hT _ ki_X3_98) dX3_endow_3 ?_
  refine z_backR1 (z_runS ⟨hx, hb, hml, hown, hT⟩ (rest := []) (As := [.int am, .int (-1000000), .int 1000000]) (c_X3_isWithin l D ks am (-1000000) 1000000 ) k_X3_50 (z_preR hK trivial) rfl ⟨Nat.le_of_ble_eq_true rfl, Nat.le_of_ble_eq_true rfl⟩ hl.1 rfl (Nat.le_of_ble_eq_true rfl) dX3_endow_5 ⟨Nat.le_of_ble_eq_true rfl, Nat.le_of_ble_eq_true rfl⟩) ?_
  refine lv_if_ne (tgt := 21) hx hb dX3_endow_8 (by decide) (fun c_1 => ?_) (fun c_1 => ?_)
  · refine lv_aload_n hx hb dX3_endow_21 rfl (lv_at hl 0 rfl) ?_
    refine lv_dup hx hb dX3_endow_22 rfl ?_
    refine gf_X3_101 hx hb hT hown hK (hP.at (hI.1 13 (by decide)) rfl) rfl dX3_endow_23 ?_
    refine lv_iload_n hx hb dX3_endow_26 rfl (lv_at hl 1 rfl) ?_
    refine lv_i2l hx hb dX3_endow_27 rfl ?_
    refine lv_ladd hx hb dX3_endow_28 ?_
    refine pf_X3_101 hx hb hT hown hK hP hD hS (hI.1 13 (by decide)) (v := (XJ 4 0) + (Int32.toInt64 am)) dX3_endow_29 (fun H locs hP hS => ?_)
    refine lv_aload_n hx hb dX3_endow_32 rfl (lv_at hl 0 rfl) ?_
    refine lv_dup hx hb dX3_endow_33 rfl ?_
    refine gf_X3_105 hx hb hT hown hK (v := .long (XJ 4 1)) (hP.at (hI.1 13 (by decide)) rfl) rfl dX3_endow_34 ?_
    refine lv_iload_n hx hb dX3_endow_37 rfl (lv_at hl 1 rfl) ?_
    refine lv_i2l hx hb dX3_endow_38 rfl ?_
    refine lv_ladd hx hb dX3_endow_39 ?_
    refine pf_X3_105 hx hb hT hown hK hP hD hS (hI.1 13 (by decide)) (v := (XJ 4 1) + (Int32.toInt64 am)) dX3_endow_40 (fun H locs hP hS => ?_)
    refine lv_aload_n hx hb dX3_endow_43 rfl (lv_at hl 0 rfl) ?_
    refine gf_X3_101 hx hb hT hown hK (v := .long ((XJ 4 0) + (Int32.toInt64 am))) (hP.at (hI.1 13 (by decide)) rfl) rfl dX3_endow_44 ?_
    exact zW_l hx hb hr hlk hS (Nat.le_of_ble_eq_true rfl) (Nat.le_of_ble_eq_true rfl) dX3_endow_47 (rfl) (hP)
  · exact absurd ((h0).symm.trans c_1) (by decide)
set_option maxHeartbeats 4000000 in
set_option maxRecDepth 100000 in
theorem c_X3_generation_ok (l : Launch) (hI : zIn Rs np ng) (i : Nat) (y : Int32) (te : Int32) (hG30 : ng ≤ 30) (h0 : fIn y 0 40 = 1) (h1 : fIn te 2 20 = 1) (hf : xF (XI 11) (XI 12) y te ng 0 = some i) (hi : i < ng) : zMR l yX3_generation cX3_generation 4 ((some .int)) 2 (42) D ks [.ref (ad 13), .int y, .int te] (zP D Rs ad (gS ks ad np ng G MI MJ XI XJ)) (some (.int (Int64.toInt32 (XJ 8 i)))) := by
  refine zMR.of (by decide +kernel) (Nat.le_of_ble_eq_true rfl) ?_
  intro p e s m below meth c ls hx hb hr hml hown hlk hT hP hK hl
  have hl : lv_has ls 4 [(0, .ref (ad 13)), (1, .int y), (2, .int te)] := hl
  refine lv_iload_n hx hb dX3_generation_0 rfl (lv_at hl 1 rfl) ?_
  refine lv_iconst (v := 0) hx hb dX3_generation_1 (by decide) ?_
  refine lv_bipush (v := 40) hx hb dX3_generation_2 (by decide) ?_
  refine z_backR1 (z_runS ⟨hx, hb, hml, hown, hT⟩ (rest := []) (As := [.int y, .int 0, .int 40]) (c_X3_isWithin l D ks y 0 40 ) k_X3_50 (z_preR hK trivial) rfl ⟨Nat.le_of_ble_eq_true rfl, Nat.le_of_ble_eq_true rfl⟩ hl.1 rfl (Nat.le_of_ble_eq_true rfl) dX3_generation_4 ⟨Nat.le_of_ble_eq_true rfl, Nat.le_of_ble_eq_true rfl⟩) ?_
  refine lv_if_eq (tgt := 17) hx hb dX3_generation_7 (by decide) (fun c_1 => ?_) (fun c_1 => ?_)
  · exact absurd ((h0).symm.trans c_1) (by decide)
  · refine lv_iload_n hx hb dX3_generation_10 rfl (lv_at hl 2 rfl) ?_
    refine z_backR1 (z_runS ⟨hx, hb, hml, hown, hT⟩ (rest := []) (As := [.int te]) (c_X3_isTerm l D ks te ) k_X3_46 (z_preR hK trivial) rfl ⟨Nat.le_of_ble_eq_true rfl, Nat.le_of_ble_eq_true rfl⟩ hl.1 rfl (Nat.le_of_ble_eq_true rfl) dX3_generation_11 ⟨Nat.le_of_ble_eq_true rfl, Nat.le_of_ble_eq_true rfl⟩) ?_
    refine lv_if_ne (tgt := 27) hx hb dX3_generation_14 (by decide) (fun c_2 => ?_) (fun c_2 => ?_)
    · refine lv_aload_n hx hb dX3_generation_27 rfl (lv_at hl 0 rfl) ?_
      refine lv_iload_n hx hb dX3_generation_28 rfl (lv_at hl 1 rfl) ?_
      refine lv_iload_n hx hb dX3_generation_29 rfl (lv_at hl 2 rfl) ?_
      refine z_backR1 (z_runV ⟨hx, hb, hml, hown, hT⟩ (rest := []) (As := [.int y, .int te]) (c_X3_findGeneration (MI := MI) (MJ := MJ) (XI := XI) (XJ := XJ) l hI y te (hG30)) k_X3_158 (z_preRV hK hP (hP.at (hI.1 13 (by decide)) rfl) rfl) rfl ⟨Nat.le_of_ble_eq_true rfl, Nat.le_of_ble_eq_true rfl⟩ hl.1 rfl (Nat.le_of_ble_eq_true rfl) dX3_generation_30 ⟨Nat.le_of_ble_eq_true rfl, Nat.le_of_ble_eq_true rfl⟩) ?_
      rw [show xF (XI 11) (XI 12) y te ng 0 = some i from hf]
      show W _ _ _ _ _ _ _ _ _ _ _ _ _ _ _ (F0 m 33 ls [.ref (ad (20 + 4 * i))])
      refine lv_astore_n (lv' := [(3, .ref (ad (20 + 4 * i))), (0, .ref (ad 13)), (1, .int y), (2, .int te)]) hx hb dX3_generation_33 rfl hl (by decide) rfl (fun ls hl => ?_)
      refine lv_aload_n hx hb dX3_generation_34 rfl (lv_at hl 0 rfl) ?_
      refine lv_ifnonnull (tgt := 42) hx hb dX3_generation_35 (by decide) ?_
      refine lv_aload_n hx hb dX3_generation_42 rfl (lv_at hl 0 rfl) ?_
      refine gf_X3_161 hx hb hT hown hK (hP.at (hI.2.1 i hi).1 gS_0) rfl dX3_generation_43 ?_
      refine gf_X3_151 hx hb hT hown hK (hP.at (hI.2.1 i hi).2 gS_1) rfl dX3_generation_46 ?_
      refine lv_l2i hx hb dX3_generation_49 rfl ?_
      exact zR_i hx hb hr hlk dX3_generation_50 (rfl)
    · exact absurd ((h1).symm.trans c_2) (by decide)
set_option maxHeartbeats 4000000 in
set_option maxRecDepth 100000 in
theorem c_X3_generation_none (l : Launch) (hI : zIn Rs np ng) (y : Int32) (te : Int32) (hG30 : ng ≤ 30) (h0 : fIn y 0 40 = 1) (h1 : fIn te 2 20 = 1) (hf : xF (XI 11) (XI 12) y te ng 0 = none) : zMR l yX3_generation cX3_generation 4 ((some .int)) 2 (42) D ks [.ref (ad 13), .int y, .int te] (zP D Rs ad (gS ks ad np ng G MI MJ XI XJ)) (some (.int (0))) := by
  refine zMR.of (by decide +kernel) (Nat.le_of_ble_eq_true rfl) ?_
  intro p e s m below meth c ls hx hb hr hml hown hlk hT hP hK hl
  have hl : lv_has ls 4 [(0, .ref (ad 13)), (1, .int y), (2, .int te)] := hl
  refine lv_iload_n hx hb dX3_generation_0 rfl (lv_at hl 1 rfl) ?_
  refine lv_iconst (v := 0) hx hb dX3_generation_1 (by decide) ?_
  refine lv_bipush (v := 40) hx hb dX3_generation_2 (by decide) ?_
  refine z_backR1 (z_runS ⟨hx, hb, hml, hown, hT⟩ (rest := []) (As := [.int y, .int 0, .int 40]) (c_X3_isWithin l D ks y 0 40 ) k_X3_50 (z_preR hK trivial) rfl ⟨Nat.le_of_ble_eq_true rfl, Nat.le_of_ble_eq_true rfl⟩ hl.1 rfl (Nat.le_of_ble_eq_true rfl) dX3_generation_4 ⟨Nat.le_of_ble_eq_true rfl, Nat.le_of_ble_eq_true rfl⟩) ?_
  refine lv_if_eq (tgt := 17) hx hb dX3_generation_7 (by decide) (fun c_1 => ?_) (fun c_1 => ?_)
  · exact absurd ((h0).symm.trans c_1) (by decide)
  · refine lv_iload_n hx hb dX3_generation_10 rfl (lv_at hl 2 rfl) ?_
    refine z_backR1 (z_runS ⟨hx, hb, hml, hown, hT⟩ (rest := []) (As := [.int te]) (c_X3_isTerm l D ks te ) k_X3_46 (z_preR hK trivial) rfl ⟨Nat.le_of_ble_eq_true rfl, Nat.le_of_ble_eq_true rfl⟩ hl.1 rfl (Nat.le_of_ble_eq_true rfl) dX3_generation_11 ⟨Nat.le_of_ble_eq_true rfl, Nat.le_of_ble_eq_true rfl⟩) ?_
    refine lv_if_ne (tgt := 27) hx hb dX3_generation_14 (by decide) (fun c_2 => ?_) (fun c_2 => ?_)
    · refine lv_aload_n hx hb dX3_generation_27 rfl (lv_at hl 0 rfl) ?_
      refine lv_iload_n hx hb dX3_generation_28 rfl (lv_at hl 1 rfl) ?_
      refine lv_iload_n hx hb dX3_generation_29 rfl (lv_at hl 2 rfl) ?_
      refine z_backR1 (z_runV ⟨hx, hb, hml, hown, hT⟩ (rest := []) (As := [.int y, .int te]) (c_X3_findGeneration (MI := MI) (MJ := MJ) (XI := XI) (XJ := XJ) l hI y te (hG30)) k_X3_158 (z_preRV hK hP (hP.at (hI.1 13 (by decide)) rfl) rfl) rfl ⟨Nat.le_of_ble_eq_true rfl, Nat.le_of_ble_eq_true rfl⟩ hl.1 rfl (Nat.le_of_ble_eq_true rfl) dX3_generation_30 ⟨Nat.le_of_ble_eq_true rfl, Nat.le_of_ble_eq_true rfl⟩) ?_
      rw [show xF (XI 11) (XI 12) y te ng 0 = none from hf]
      show W _ _ _ _ _ _ _ _ _ _ _ _ _ _ _ (F0 m 33 ls [.null])
      refine lv_astore_nN (lv' := [(3, .null), (0, .ref (ad 13)), (1, .int y), (2, .int te)]) hx hb dX3_generation_33 rfl hl (by decide) rfl (fun ls hl => ?_)
      refine lv_aload_nN hx hb dX3_generation_34 rfl (lv_at hl 0 rfl) ?_
      refine lv_ifnonnullN hx hb dX3_generation_35 ?_
      refine lv_iconst (v := 0) hx hb dX3_generation_38 (by decide) ?_
      refine lv_goto (tgt := 50) hx hb dX3_generation_39 (by decide) ?_
      exact zR_i hx hb hr hlk dX3_generation_50 (rfl)
    · exact absurd ((h1).symm.trans c_2) (by decide)
set_option maxHeartbeats 4000000 in
set_option maxRecDepth 100000 in
theorem c_X3_lastRatio_ok (l : Launch) (hI : zIn Rs np ng) (te : Int32) (h0 : fIn te 2 20 = 1) : zMR l yX3_lastRatio cX3_lastRatio 2 ((some .int)) 2 (42) D ks [.ref (ad 13), .int te] (zP D Rs ad (gS ks ad np ng G MI MJ XI XJ)) (some (.int (Int64.toInt32 (fRat (XJ 5) te)))) := by
  refine zMR.of (by decide +kernel) (Nat.le_of_ble_eq_true rfl) ?_
  intro p e s m below meth c ls hx hb hr hml hown hlk hT hP hK hl
  have hl : lv_has ls 2 [(0, .ref (ad 13)), (1, .int te)] := hl
  refine lv_iload_n hx hb dX3_lastRatio_0 rfl (lv_at hl 1 rfl) ?_
  refine z_backR1 (z_runS ⟨hx, hb, hml, hown, hT⟩ (rest := []) (As := [.int te]) (c_X3_isTerm l D ks te ) k_X3_46 (z_preR hK trivial) rfl ⟨Nat.le_of_ble_eq_true rfl, Nat.le_of_ble_eq_true rfl⟩ hl.1 rfl (Nat.le_of_ble_eq_true rfl) dX3_lastRatio_1 ⟨Nat.le_of_ble_eq_true rfl, Nat.le_of_ble_eq_true rfl⟩) ?_
  refine lv_if_ne (tgt := 17) hx hb dX3_lastRatio_4 (by decide) (fun c_1 => ?_) (fun c_1 => ?_)
  · refine lv_aload_n hx hb dX3_lastRatio_17 rfl (lv_at hl 0 rfl) ?_
    refine gf_X3_21 hx hb hT hown hK (hP.at (hI.1 13 (by decide)) rfl) rfl dX3_lastRatio_18 ?_
    refine lv_iload_n hx hb dX3_lastRatio_21 rfl (lv_at hl 1 rfl) ?_
    refine z_backR1 (z_runS ⟨hx, hb, hml, hown, hT⟩ (rest := []) (As := [.ref (ad 16), .int te]) (c_X3_ratioIn l 16 (hI.1 16 (by decide)) (XJ 5) rfl te) k_X3_169 (z_preR hK hP) rfl ⟨Nat.le_of_ble_eq_true rfl, Nat.le_of_ble_eq_true rfl⟩ hl.1 rfl (Nat.le_of_ble_eq_true rfl) dX3_lastRatio_22 ⟨Nat.le_of_ble_eq_true rfl, Nat.le_of_ble_eq_true rfl⟩) ?_
    refine lv_l2i hx hb dX3_lastRatio_25 rfl ?_
    exact zR_i hx hb hr hlk dX3_lastRatio_26 (rfl)
  · exact absurd ((h0).symm.trans c_1) (by decide)
set_option maxHeartbeats 4000000 in
set_option maxRecDepth 100000 in
theorem c_X3_year (l : Launch) (hI : zIn Rs np ng)  : zMR l yX3_year cX3_year 1 ((some .int)) 0 (0) D ks [.ref (ad 13)] (zP D Rs ad (gS ks ad np ng G MI MJ XI XJ)) (some (.int (XI 10 2))) := by
  refine zMR.of (by decide +kernel) (Nat.le_of_ble_eq_true rfl) ?_
  intro p e s m below meth c ls hx hb hr hml hown hlk hT hP hK hl
  have hl : lv_has ls 1 [(0, .ref (ad 13))] := hl
  refine lv_aload_n hx hb dX3_year_0 rfl (lv_at hl 0 rfl) ?_
  refine gf_X3_110 hx hb hT hown hK (hP.at (hI.1 13 (by decide)) rfl) rfl dX3_year_1 ?_
  exact zR_i hx hb hr hlk dX3_year_4 (rfl)
set_option maxHeartbeats 4000000 in
set_option maxRecDepth 100000 in
theorem c_X3_policies (l : Launch) (hI : zIn Rs np ng)  : zMR l yX3_policies cX3_policies 1 ((some .int)) 0 (0) D ks [.ref (ad 13)] (zP D Rs ad (gS ks ad np ng G MI MJ XI XJ)) (some (.int (XI 10 0))) := by
  refine zMR.of (by decide +kernel) (Nat.le_of_ble_eq_true rfl) ?_
  intro p e s m below meth c ls hx hb hr hml hown hlk hT hP hK hl
  have hl : lv_has ls 1 [(0, .ref (ad 13))] := hl
  refine lv_aload_n hx hb dX3_policies_0 rfl (lv_at hl 0 rfl) ?_
  refine gf_X3_62 hx hb hT hown hK (hP.at (hI.1 13 (by decide)) rfl) rfl dX3_policies_1 ?_
  exact zR_i hx hb hr hlk dX3_policies_4 (rfl)
set_option maxHeartbeats 4000000 in
set_option maxRecDepth 100000 in
theorem c_X3_estate (l : Launch) (hI : zIn Rs np ng)  : zMR l yX3_estate cX3_estate 1 ((some .long)) 0 (0) D ks [.ref (ad 13)] (zP D Rs ad (gS ks ad np ng G MI MJ XI XJ)) (some (.long (XJ 4 0))) := by
  refine zMR.of (by decide +kernel) (Nat.le_of_ble_eq_true rfl) ?_
  intro p e s m below meth c ls hx hb hr hml hown hlk hT hP hK hl
  have hl : lv_has ls 1 [(0, .ref (ad 13))] := hl
  refine lv_aload_n hx hb dX3_estate_0 rfl (lv_at hl 0 rfl) ?_
  refine gf_X3_101 hx hb hT hown hK (hP.at (hI.1 13 (by decide)) rfl) rfl dX3_estate_1 ?_
  exact zR_l hx hb hr hlk dX3_estate_4 (rfl)
set_option maxHeartbeats 4000000 in
set_option maxRecDepth 100000 in
theorem c_X3_assets (l : Launch) (hI : zIn Rs np ng)  : zMR l yX3_assets cX3_assets 1 ((some .long)) 0 (0) D ks [.ref (ad 13)] (zP D Rs ad (gS ks ad np ng G MI MJ XI XJ)) (some (.long (XJ 4 1))) := by
  refine zMR.of (by decide +kernel) (Nat.le_of_ble_eq_true rfl) ?_
  intro p e s m below meth c ls hx hb hr hml hown hlk hT hP hK hl
  have hl : lv_has ls 1 [(0, .ref (ad 13))] := hl
  refine lv_aload_n hx hb dX3_assets_0 rfl (lv_at hl 0 rfl) ?_
  refine gf_X3_105 hx hb hT hown hK (hP.at (hI.1 13 (by decide)) rfl) rfl dX3_assets_1 ?_
  exact zR_l hx hb hr hlk dX3_assets_4 (rfl)
def xSh (XJ : Nat → Nat → Int64) (ng : Nat) : Nat → Int64
  | 0 => XJ 4 0
  | k + 1 => if k < ng then xSh XJ ng k + XJ 8 k else xSh XJ ng k
def xSf1 (XI : Nat → Nat → Int32) (XJ : Nat → Nat → Int64) (G : Nat → Nat) (k : Nat) : Int64 := fMax 0 (Int32.toInt64 (XI 14 k) + XJ 10 k - fAsset (XI 15 k) (XJ 8 (G k)) (XI 13 k) (XJ 7 (G k)))
def xSf (XI : Nat → Nat → Int32) (XJ : Nat → Nat → Int64) (G : Nat → Nat) (np : Nat) : Nat → Int64
  | 0 => 0
  | k + 1 => if k < np ∧ XI 15 k = 0 then xSf XI XJ G np k + xSf1 XI XJ G k else xSf XI XJ G np k
set_option maxHeartbeats 4000000 in
set_option maxRecDepth 100000 in
theorem c_X3_sharesAndEstate (l : Launch) (hI : zIn Rs np ng) (hok : xOK XI G np ng) : zMR l yX3_sharesAndEstate cX3_sharesAndEstate 5 ((some .long)) 0 (0) D ks [.ref (ad 13)] (zP D Rs ad (gS ks ad np ng G MI MJ XI XJ)) (some (.long (xSh XJ ng 30))) := by
  refine zMR.of (by decide +kernel) (Nat.le_of_ble_eq_true rfl) ?_
  intro p e s m below meth c ls hx hb hr hml hown hlk hT hP hK hl
  have hl : lv_has ls 5 [(0, .ref (ad 13))] := hl
  have L : ∀ (n k : Nat) (f : Int64) (ls : Array Slot), k + n = 30 → f = xSh XJ ng k → lv_has ls 5 [(3, .int (nI k)), (1, .long f), (0, .ref (ad 13))] → W p l e (zRm 0 (0) 0 0) s m ([.ref (ad 13)] : List Value).toArray below meth c s.heap [] 0 0 (MQ below (zQR (some (.long (xSh XJ ng 30)))) ([.ref (ad 13)] : List Value).toArray s 0 0 (fun _ => False)) (F0 m 7 ls []) := by
    intro n
    induction n with
    | zero =>
      intro k f ls hkn hf hl
      have hk0 : k = 30 := by omega
      refine lv_iload_n hx hb dX3_sharesAndEstate_7 rfl (lv_at hl 0 rfl) ?_
      refine lv_aload_n hx hb dX3_sharesAndEstate_8 rfl (lv_at hl 2 rfl) ?_
      refine gf_X3_17 hx hb hT hown hK (hP.at (hI.1 13 (by decide)) rfl) rfl dX3_sharesAndEstate_9 ?_
      refine z_glen hx hb hK (hP.at (hI.1 15 (by decide)) rfl) (v := 30) rfl dX3_sharesAndEstate_12 ?_
      refine lv_icmp_ge (tgt := 46) hx hb dX3_sharesAndEstate_13 (by decide) (fun c_1 => ?_) (fun c_1 => ?_)
      · refine lv_lload_n hx hb dX3_sharesAndEstate_46 rfl (lv_at hl 1 rfl) ?_
        exact zR_l hx hb hr hlk dX3_sharesAndEstate_47 (by rw [hf, hk0])
      · exact absurd (nI_le (a := 30) (b := k) (by omega) (by omega)) c_1
    | succ n ih =>
      intro k f ls hkn hf hl
      have hk : k < 30 := by omega
      refine lv_iload_n hx hb dX3_sharesAndEstate_7 rfl (lv_at hl 0 rfl) ?_
      refine lv_aload_n hx hb dX3_sharesAndEstate_8 rfl (lv_at hl 2 rfl) ?_
      refine gf_X3_17 hx hb hT hown hK (hP.at (hI.1 13 (by decide)) rfl) rfl dX3_sharesAndEstate_9 ?_
      refine z_glen hx hb hK (hP.at (hI.1 15 (by decide)) rfl) (v := 30) rfl dX3_sharesAndEstate_12 ?_
      refine lv_icmp_ge (tgt := 46) hx hb dX3_sharesAndEstate_13 (by decide) (fun c_2 => ?_) (fun c_2 => ?_)
      · exact absurd c_2 (nI_ge (a := k) (b := 30) hk (by decide))
      · refine lv_aload_n hx hb dX3_sharesAndEstate_16 rfl (lv_at hl 2 rfl) ?_
        refine gf_X3_17 hx hb hT hown hK (hP.at (hI.1 13 (by decide)) rfl) rfl dX3_sharesAndEstate_17 ?_
        refine lv_iload_n hx hb dX3_sharesAndEstate_20 rfl (lv_at hl 0 rfl) ?_
        refine z_galdN hx hb hK (hP.at (hI.1 15 (by decide)) rfl) (hk) (by decide) rfl dX3_sharesAndEstate_21 ?_
        rcases Nat.lt_or_ge k ng with hg | hg
        · rw [show rGen ad ng k = some (ad (20 + 4 * k)) from if_pos hg]
          show W _ _ _ _ _ _ _ _ _ _ _ _ _ _ _ (F0 m 22 ls (.ref (ad (20 + 4 * k)) :: []))
          refine lv_astore (lv' := [(4, .ref (ad (20 + 4 * k))), (3, .int (nI k)), (1, .long f), (0, .ref (ad 13))]) hx hb dX3_sharesAndEstate_22 hl (by decide) rfl (fun ls hl => ?_)
          refine lv_aload hx hb dX3_sharesAndEstate_24 (lv_at hl 0 rfl) ?_
          refine lv_ifnull hx hb dX3_sharesAndEstate_26 ?_
          refine lv_lload_n hx hb dX3_sharesAndEstate_29 rfl (lv_at hl 2 rfl) ?_
          refine lv_aload hx hb dX3_sharesAndEstate_30 (lv_at hl 0 rfl) ?_
          refine gf_X3_161 hx hb hT hown hK (hP.at (hI.2.1 k hg).1 gS_0) rfl dX3_sharesAndEstate_32 ?_
          refine gf_X3_151 hx hb hT hown hK (hP.at (hI.2.1 k hg).2 gS_1) rfl dX3_sharesAndEstate_35 ?_
          refine lv_ladd hx hb dX3_sharesAndEstate_38 ?_
          refine lv_lstore_n (lv' := [(1, .long (f + (XJ 8 k))), (4, .ref (ad (20 + 4 * k))), (3, .int (nI k)), (0, .ref (ad 13))]) hx hb dX3_sharesAndEstate_39 rfl hl (by decide) rfl (fun ls hl => ?_)
          refine lv_iinc (v := nI (k + 1)) (lv' := [(3, .int (nI (k + 1))), (1, .long (f + (XJ 8 k))), (4, .ref (ad (20 + 4 * k))), (0, .ref (ad 13))]) hx hb dX3_sharesAndEstate_40 hl (k := 2) rfl (nI_1 k) (by decide) rfl (fun ls hl => ?_)
          refine lv_goto (tgt := 7) hx hb dX3_sharesAndEstate_43 (by decide) ?_
          exact ih (k + 1) (f + (XJ 8 k)) _ (by omega) (by simp only [xSh]; rw [hf]; exact (if_pos hg).symm) (lv_sub hl [0, 1, 3] rfl)
        · have hg : ¬ k < ng := Nat.not_lt.mpr hg
          rw [show rGen ad ng k = none from if_neg hg]
          show W _ _ _ _ _ _ _ _ _ _ _ _ _ _ _ (F0 m 22 ls (.null :: []))
          refine lv_astoreN (lv' := [(4, .null), (3, .int (nI k)), (1, .long f), (0, .ref (ad 13))]) hx hb dX3_sharesAndEstate_22 hl (by decide) rfl (fun ls hl => ?_)
          refine lv_aloadN hx hb dX3_sharesAndEstate_24 (lv_at hl 0 rfl) ?_
          refine lv_ifnullN (tgt := 40) hx hb dX3_sharesAndEstate_26 (by decide) ?_
          refine lv_iinc (v := nI (k + 1)) (lv' := [(3, .int (nI (k + 1))), (4, .null), (1, .long f), (0, .ref (ad 13))]) hx hb dX3_sharesAndEstate_40 hl (k := 1) rfl (nI_1 k) (by decide) rfl (fun ls hl => ?_)
          refine lv_goto (tgt := 7) hx hb dX3_sharesAndEstate_43 (by decide) ?_
          exact ih (k + 1) (f) _ (by omega) (by simp only [xSh]; rw [hf]; exact (if_neg hg).symm) (lv_sub hl [0, 2, 3] rfl)
  refine lv_aload_n hx hb dX3_sharesAndEstate_0 rfl (lv_at hl 0 rfl) ?_
  refine gf_X3_101 hx hb hT hown hK (hP.at (hI.1 13 (by decide)) rfl) rfl dX3_sharesAndEstate_1 ?_
  refine lv_lstore_n (lv' := [(1, .long (XJ 4 0)), (0, .ref (ad 13))]) hx hb dX3_sharesAndEstate_4 rfl hl (by decide) rfl (fun ls hl => ?_)
  refine lv_iconst (v := 0) hx hb dX3_sharesAndEstate_5 (by decide) ?_
  refine lv_istore_n (lv' := [(3, .int 0), (1, .long (XJ 4 0)), (0, .ref (ad 13))]) hx hb dX3_sharesAndEstate_6 rfl hl (by decide) rfl (fun ls hl => ?_)
  have hl := (show lv_has ls 5 [(3, .int (nI 0)), (1, .long (XJ 4 0)), (0, .ref (ad 13))] from (lv_sub hl [0, 1, 2] rfl))
  exact L 30 0 _ _ (by omega) rfl hl
set_option maxHeartbeats 4000000 in
set_option maxRecDepth 100000 in
theorem c_X3_shortfall (l : Launch) (hI : zIn Rs np ng) (hok : xOK XI G np ng) : zMR l yX3_shortfall cX3_shortfall 5 ((some .int)) 3 (64) D ks [.ref (ad 13)] (zP D Rs ad (gS ks ad np ng G MI MJ XI XJ)) (some (.int (Int64.toInt32 (xSf XI XJ G np 30)))) := by
  refine zMR.of (by decide +kernel) (Nat.le_of_ble_eq_true rfl) ?_
  intro p e s m below meth c ls hx hb hr hml hown hlk hT hP hK hl
  have hl : lv_has ls 5 [(0, .ref (ad 13))] := hl
  have L : ∀ (n k : Nat) (f : Int64) (ls : Array Slot), k + n = 30 → f = xSf XI XJ G np k → lv_has ls 5 [(3, .int (nI k)), (1, .long f), (0, .ref (ad 13))] → W p l e (zRm 3 (64) 0 0) s m ([.ref (ad 13)] : List Value).toArray below meth c s.heap [] 0 0 (MQ below (zQR (some (.int (Int64.toInt32 (xSf XI XJ G np 30))))) ([.ref (ad 13)] : List Value).toArray s 0 0 (fun _ => False)) (F0 m 4 ls []) := by
    intro n
    induction n with
    | zero =>
      intro k f ls hkn hf hl
      have hk0 : k = 30 := by omega
      refine lv_iload_n hx hb dX3_shortfall_4 rfl (lv_at hl 0 rfl) ?_
      refine lv_aload_n hx hb dX3_shortfall_5 rfl (lv_at hl 2 rfl) ?_
      refine gf_X3_11 hx hb hT hown hK (hP.at (hI.1 13 (by decide)) rfl) rfl dX3_shortfall_6 ?_
      refine z_plen hx hb hK (hP.at (hI.1 14 (by decide)) rfl) (v := 30) rfl dX3_shortfall_9 ?_
      refine lv_icmp_ge (tgt := 58) hx hb dX3_shortfall_10 (by decide) (fun c_1 => ?_) (fun c_1 => ?_)
      · refine lv_lload_n hx hb dX3_shortfall_58 rfl (lv_at hl 1 rfl) ?_
        refine lv_l2i hx hb dX3_shortfall_59 rfl ?_
        exact zR_i hx hb hr hlk dX3_shortfall_60 (by rw [hf, hk0])
      · exact absurd (nI_le (a := 30) (b := k) (by omega) (by omega)) c_1
    | succ n ih =>
      intro k f ls hkn hf hl
      have hk : k < 30 := by omega
      refine lv_iload_n hx hb dX3_shortfall_4 rfl (lv_at hl 0 rfl) ?_
      refine lv_aload_n hx hb dX3_shortfall_5 rfl (lv_at hl 2 rfl) ?_
      refine gf_X3_11 hx hb hT hown hK (hP.at (hI.1 13 (by decide)) rfl) rfl dX3_shortfall_6 ?_
      refine z_plen hx hb hK (hP.at (hI.1 14 (by decide)) rfl) (v := 30) rfl dX3_shortfall_9 ?_
      refine lv_icmp_ge (tgt := 58) hx hb dX3_shortfall_10 (by decide) (fun c_2 => ?_) (fun c_2 => ?_)
      · exact absurd c_2 (nI_ge (a := k) (b := 30) hk (by decide))
      · refine lv_aload_n hx hb dX3_shortfall_13 rfl (lv_at hl 2 rfl) ?_
        refine gf_X3_11 hx hb hT hown hK (hP.at (hI.1 13 (by decide)) rfl) rfl dX3_shortfall_14 ?_
        refine lv_iload_n hx hb dX3_shortfall_17 rfl (lv_at hl 0 rfl) ?_
        refine z_paldN hx hb hK (hP.at (hI.1 14 (by decide)) rfl) (hk) (by decide) rfl dX3_shortfall_18 ?_
        rcases Nat.lt_or_ge k np with hg | hg
        · rw [show rPol ad np k = some (ad (22 + 4 * k)) from if_pos hg]
          show W _ _ _ _ _ _ _ _ _ _ _ _ _ _ _ (F0 m 19 ls (.ref (ad (22 + 4 * k)) :: []))
          refine lv_astore (lv' := [(4, .ref (ad (22 + 4 * k))), (3, .int (nI k)), (1, .long f), (0, .ref (ad 13))]) hx hb dX3_shortfall_19 hl (by decide) rfl (fun ls hl => ?_)
          refine lv_aload hx hb dX3_shortfall_21 (lv_at hl 0 rfl) ?_
          refine lv_ifnull hx hb dX3_shortfall_23 ?_
          refine lv_aload hx hb dX3_shortfall_26 (lv_at hl 0 rfl) ?_
          refine z_backR1 (z_runVN ⟨hx, hb, hml, hown, hT⟩ hK (rest := []) (As := []) (c_X2_isInForce (MI := MI) (MJ := MJ) (XI := XI) (XJ := XJ) l hI k (hg)) k_X3_143 (z_preRV hK hP (hP.at (hI.2.2 k hg).1 gS_2) rfl) rfl ⟨Nat.le_of_ble_eq_true rfl, Nat.le_of_ble_eq_true rfl⟩ hl.1 rfl (Nat.le_of_ble_eq_true rfl) dX3_shortfall_28 ⟨Nat.le_of_ble_eq_true rfl, Nat.le_of_ble_eq_true rfl⟩) ?_
          refine lv_if_eq (tgt := 52) hx hb dX3_shortfall_31 (by decide) (fun c_3 => ?_) (fun c_3 => ?_)
          · refine lv_iinc (v := nI (k + 1)) (lv' := [(3, .int (nI (k + 1))), (4, .ref (ad (22 + 4 * k))), (1, .long f), (0, .ref (ad 13))]) hx hb dX3_shortfall_52 hl (k := 1) rfl (nI_1 k) (by decide) rfl (fun ls hl => ?_)
            refine lv_goto (tgt := 4) hx hb dX3_shortfall_55 (by decide) ?_
            exact ih (k + 1) (f) _ (by omega) (by simp only [xSf]; rw [hf]; exact (if_neg (fun h => absurd ((if_pos h.2).symm.trans c_3 : (1 : Int32) = 0) (by decide))).symm) (lv_sub hl [0, 2, 3] rfl)
          · refine lv_lload_n hx hb dX3_shortfall_34 rfl (lv_at hl 2 rfl) ?_
            refine lv_lconst (v := 0) hx hb dX3_shortfall_35 (by decide) ?_
            refine lv_aload hx hb dX3_shortfall_36 (lv_at hl 0 rfl) ?_
            refine z_backR1 (z_runVN ⟨hx, hb, hml, hown, hT⟩ hK (rest := [.long 0, .long f]) (As := []) (c_X2_guaranteed (MI := MI) (MJ := MJ) (XI := XI) (XJ := XJ) l hI k (hg)) k_X3_173 (z_preRV hK hP (hP.at (hI.2.2 k hg).1 gS_2) rfl) rfl ⟨Nat.le_of_ble_eq_true rfl, Nat.le_of_ble_eq_true rfl⟩ hl.1 rfl (Nat.le_of_ble_eq_true rfl) dX3_shortfall_38 ⟨Nat.le_of_ble_eq_true rfl, Nat.le_of_ble_eq_true rfl⟩) ?_
            refine lv_aload hx hb dX3_shortfall_41 (lv_at hl 0 rfl) ?_
            refine z_backR1 (z_runVN ⟨hx, hb, hml, hown, hT⟩ hK (rest := [.long (Int32.toInt64 (XI 14 k) + XJ 10 k), .long 0, .long f]) (As := []) (c_X2_assetShare (MI := MI) (MJ := MJ) (XI := XI) (XJ := XJ) l hI k (hg) (hok.2.2.1 k hg)) k_X3_139 (z_preRV hK hP (hP.at (hI.2.2 k hg).1 gS_2) rfl) rfl ⟨Nat.le_of_ble_eq_true rfl, Nat.le_of_ble_eq_true rfl⟩ hl.1 rfl (Nat.le_of_ble_eq_true rfl) dX3_shortfall_43 ⟨Nat.le_of_ble_eq_true rfl, Nat.le_of_ble_eq_true rfl⟩) ?_
            refine lv_lsub hx hb dX3_shortfall_46 ?_
            refine va_mmax_long hx hb (hml.trans hl.1.symm) hown (hT _ ml_X3_176) (hT _ sm_yJ9_max_f86c9) (hT _ in_J9) (hT _ co_yJ9_max_f86c9) (Nat.le_of_ble_eq_true rfl) (Nat.le_of_ble_eq_true rfl) (Nat.le_of_ble_eq_true rfl) (Nat.le_of_ble_eq_true rfl) dX3_shortfall_47 ?_
            refine lv_ladd hx hb dX3_shortfall_50 ?_
            refine lv_topl (fun v4 ev4 => ?_)
            refine lv_lstore_n (lv' := [(1, .long v4), (4, .ref (ad (22 + 4 * k))), (3, .int (nI k)), (0, .ref (ad 13))]) hx hb dX3_shortfall_51 rfl hl (by decide) rfl (fun ls hl => ?_)
            refine lv_iinc (v := nI (k + 1)) (lv' := [(3, .int (nI (k + 1))), (1, .long v4), (4, .ref (ad (22 + 4 * k))), (0, .ref (ad 13))]) hx hb dX3_shortfall_52 hl (k := 2) rfl (nI_1 k) (by decide) rfl (fun ls hl => ?_)
            refine lv_goto (tgt := 4) hx hb dX3_shortfall_55 (by decide) ?_
            exact ih (k + 1) (v4) _ (by omega) (by subst ev4; simp only [xSf]; rw [hf]; exact (if_pos ⟨hg, Decidable.byContradiction fun h9 => c_3 (if_neg h9)⟩).symm) (lv_sub hl [0, 1, 3] rfl)
        · have hg : ¬ k < np := Nat.not_lt.mpr hg
          rw [show rPol ad np k = none from if_neg hg]
          show W _ _ _ _ _ _ _ _ _ _ _ _ _ _ _ (F0 m 19 ls (.null :: []))
          refine lv_astoreN (lv' := [(4, .null), (3, .int (nI k)), (1, .long f), (0, .ref (ad 13))]) hx hb dX3_shortfall_19 hl (by decide) rfl (fun ls hl => ?_)
          refine lv_aloadN hx hb dX3_shortfall_21 (lv_at hl 0 rfl) ?_
          refine lv_ifnullN (tgt := 52) hx hb dX3_shortfall_23 (by decide) ?_
          refine lv_iinc (v := nI (k + 1)) (lv' := [(3, .int (nI (k + 1))), (4, .null), (1, .long f), (0, .ref (ad 13))]) hx hb dX3_shortfall_52 hl (k := 1) rfl (nI_1 k) (by decide) rfl (fun ls hl => ?_)
          refine lv_goto (tgt := 4) hx hb dX3_shortfall_55 (by decide) ?_
          exact ih (k + 1) (f) _ (by omega) (by simp only [xSf]; rw [hf]; exact (if_neg (fun h => hg h.1)).symm) (lv_sub hl [0, 2, 3] rfl)
  refine lv_lconst (v := 0) hx hb dX3_shortfall_0 (by decide) ?_
  refine lv_lstore_n (lv' := [(1, .long 0), (0, .ref (ad 13))]) hx hb dX3_shortfall_1 rfl hl (by decide) rfl (fun ls hl => ?_)
  refine lv_iconst (v := 0) hx hb dX3_shortfall_2 (by decide) ?_
  refine lv_istore_n (lv' := [(3, .int 0), (1, .long 0), (0, .ref (ad 13))]) hx hb dX3_shortfall_3 rfl hl (by decide) rfl (fun ls hl => ?_)
  have hl := (show lv_has ls 5 [(3, .int (nI 0)), (1, .long (0)), (0, .ref (ad 13))] from (lv_sub hl [0, 1, 2] rfl))
  exact L 30 0 _ _ (by omega) rfl hl
def xJ3 (XI : Nat → Nat → Int32) (XJ : Nat → Nat → Int64) (rt : Int32) (np ng : Nat) : Nat → Nat → Int64 :=
  xGB XI np 30 (xPA XI np rt 30 (u2 (u2 (xGG XI ng rt 30 XJ) 4 0 (xGG XI ng rt 30 XJ 4 0 + fThou (XJ 4 0) (Int32.toInt64 rt))) 4 1 (xGG XI ng rt 30 XJ 4 1 + fThou (XJ 4 0) (Int32.toInt64 rt))))
def xS0 (XI : Nat → Nat → Int32) (XJ : Nat → Nat → Int64) (rt : Int32) (np ng : Nat) : xST := (XI, xCpy 21 (xJ3 XI XJ rt np ng))
def xRunI (XI : Nat → Nat → Int32) (XJ : Nat → Nat → Int64) (G : Nat → Nat) (rt : Int32) (np ng : Nat) : Nat → Nat → Int32 := u2 (xMtS np G 30 (xS0 XI XJ rt np ng)).1 10 2 ((xMtS np G 30 (xS0 XI XJ rt np ng)).1 10 2 + 1)
def xRunJ (XI : Nat → Nat → Int32) (XJ : Nat → Nat → Int64) (G : Nat → Nat) (rt : Int32) (np ng : Nat) : Nat → Nat → Int64 := (xMtS np G 30 (xS0 XI XJ rt np ng)).2
set_option maxHeartbeats 4000000 in
set_option maxRecDepth 100000 in
theorem c_X3_run_ok (l : Launch) (hD0 : zD (fun _ => True) Rs ad) (hI : zIn Rs np ng) (rt : Int32) (hok : xOK XI G np ng) (h0 : fIn rt (-200) 200 = 1) (hy : XI 10 2 < 40) (sz : Nat) : zMW l yX3_run cX3_run 5 ((some .int)) 6 (144) 0 0 D ks sz [.ref (ad 13), .int rt] (zP D Rs ad (gS ks ad np ng G MI MJ XI XJ)) (some (.int (nI (xMtN np G 30 (xS0 XI XJ rt np ng))))) (zP D Rs ad (gS ks ad np ng G MI MJ (xRunI XI XJ G rt np ng) (xRunJ XI XJ G rt np ng))) (zA Rs ad sz) := by
  refine zMW.of (by decide +kernel) (Nat.le_of_ble_eq_true rfl) ?_
  intro p e s m below meth c ls hx hb hr hml hown hlk hT hsz hP hK hl hin
  have hl : lv_has ls 5 [(0, .ref (ad 13)), (1, .int rt)] := hl
  subst hsz
  have hD := hD0.self (sz := s.heap.size)
  have hA : ∀ q : Nat, s.heap.size ≤ q → zA Rs ad s.heap.size q := fun q h => Or.inr h
  have hS : va_S (zA Rs ad s.heap.size) s.heap s.heap [] := va_S.rf
  refine lv_iload_n hx hb dX3_run_0 rfl (lv_at hl 1 rfl) ?_
  refine lv_sipush (v := (-200)) hx hb dX3_run_1 (by decide) ?_
  refine lv_sipush (v := 200) hx hb dX3_run_4 (by decide) ?_
  refine z_backR1 (z_runS ⟨hx, hb, hml, hown, hT⟩ (rest := []) (As := [.int rt, .int (-200), .int 200]) (c_X3_isWithin l D ks rt (-200) 200 ) k_X3_50 (z_preR hK trivial) rfl ⟨Nat.le_of_ble_eq_true rfl, Nat.le_of_ble_eq_true rfl⟩ hl.1 rfl (Nat.le_of_ble_eq_true rfl) dX3_run_7 ⟨Nat.le_of_ble_eq_true rfl, Nat.le_of_ble_eq_true rfl⟩) ?_
  refine lv_if_ne (tgt := 23) hx hb dX3_run_10 (by decide) (fun c_1 => ?_) (fun c_1 => ?_)
  · refine lv_aload_n hx hb dX3_run_23 rfl (lv_at hl 0 rfl) ?_
    refine gf_X3_110 hx hb hT hown hK (hP.at (hI.1 13 (by decide)) rfl) rfl dX3_run_24 ?_
    refine lv_bipush (v := 40) hx hb dX3_run_27 (by decide) ?_
    refine lv_icmp_lt (tgt := 42) hx hb dX3_run_29 (by decide) (fun c_2 => ?_) (fun c_2 => ?_)
    · refine lv_aload_n hx hb dX3_run_42 rfl (lv_at hl 0 rfl) ?_
      refine gf_X3_101 hx hb hT hown hK (hP.at (hI.1 13 (by decide)) rfl) rfl dX3_run_43 ?_
      refine lv_iload_n hx hb dX3_run_46 rfl (lv_at hl 1 rfl) ?_
      refine lv_i2l hx hb dX3_run_47 rfl ?_
      refine z_backR1 (z_runS ⟨hx, hb, hml, hown, hT⟩ (rest := []) (As := [.long (XJ 4 0), .long (Int32.toInt64 rt)]) (c_X3_thousandths l D ks (XJ 4 0) (Int32.toInt64 rt) ) k_X3_115 (z_preR hK trivial) rfl ⟨Nat.le_of_ble_eq_true rfl, Nat.le_of_ble_eq_true rfl⟩ hl.1 rfl (Nat.le_of_ble_eq_true rfl) dX3_run_48 ⟨Nat.le_of_ble_eq_true rfl, Nat.le_of_ble_eq_true rfl⟩) ?_
      refine lv_lstore_n (lv' := [(2, .long (fThou (XJ 4 0) (Int32.toInt64 rt))), (0, .ref (ad 13)), (1, .int rt)]) hx hb dX3_run_51 rfl hl (by decide) rfl (fun ls hl => ?_)
      refine lv_aload_n hx hb dX3_run_52 rfl (lv_at hl 1 rfl) ?_
      refine lv_iload_n hx hb dX3_run_53 rfl (lv_at hl 2 rfl) ?_
      refine z_backW0 (z_runV ⟨hx, hb, hml, hown, hT⟩ (rest := []) (As := [.int rt]) (c_X3_growGenerations (MI := MI) (MJ := MJ) (XI := XI) (XJ := XJ) l hD0 hI rt (hok) _) k_X3_119 (z_preWV hK hP (hP.at (hI.1 13 (by decide)) rfl) rfl) rfl ⟨Nat.le_of_ble_eq_true rfl, Nat.le_of_ble_eq_true rfl⟩ hl.1 rfl (Nat.le_of_ble_eq_true rfl) dX3_run_54 ⟨Nat.le_of_ble_eq_true rfl, Nat.le_of_ble_eq_true rfl⟩) hS (hD.free (fun q hq => hA q (Nat.le_trans hS.1 hq))) (fun H locs hP hz1 hk1 hS => ?_)
      have hP : zP D Rs ad (gS ks ad np ng G MI MJ XI (xGG XI ng rt 30 XJ)) H := hP
      refine lv_aload_n hx hb dX3_run_57 rfl (lv_at hl 1 rfl) ?_
      refine lv_dup hx hb dX3_run_58 rfl ?_
      refine gf_X3_101 hx hb hT hown hK (hP.at (hI.1 13 (by decide)) rfl) rfl dX3_run_59 ?_
      refine lv_lload_n hx hb dX3_run_62 rfl (lv_at hl 0 rfl) ?_
      refine lv_ladd hx hb dX3_run_63 ?_
      refine lv_topl (fun v3 ev3 => ?_)
      refine pf_X3_101 hx hb hT hown hK hP hD hS (hI.1 13 (by decide)) (v := v3) dX3_run_64 (fun H locs hP hS => ?_)
      refine lv_aload_n hx hb dX3_run_67 rfl (lv_at hl 1 rfl) ?_
      refine lv_dup hx hb dX3_run_68 rfl ?_
      refine gf_X3_105 hx hb hT hown hK (v := .long ((xGG XI ng rt 30 XJ) 4 1)) (hP.at (hI.1 13 (by decide)) rfl) rfl dX3_run_69 ?_
      refine lv_lload_n hx hb dX3_run_72 rfl (lv_at hl 0 rfl) ?_
      refine lv_ladd hx hb dX3_run_73 ?_
      refine lv_topl (fun v4 ev4 => ?_)
      refine pf_X3_105 hx hb hT hown hK hP hD hS (hI.1 13 (by decide)) (v := v4) dX3_run_74 (fun H locs hP hS => ?_)
      refine lv_aload_n hx hb dX3_run_77 rfl (lv_at hl 1 rfl) ?_
      refine lv_iload_n hx hb dX3_run_78 rfl (lv_at hl 2 rfl) ?_
      refine z_backW0 (z_runV ⟨hx, hb, hml, hown, hT⟩ (rest := []) (As := [.int rt]) (c_X3_growPoliciesAlone (MI := MI) (MJ := MJ) (XI := XI) (XJ := u2 (u2 (xGG XI ng rt 30 XJ) 4 0 v3) 4 1 v4) l hD0 hI rt (hok) _) k_X3_123 (z_preWV hK hP (hP.at (hI.1 13 (by decide)) rfl) rfl) rfl ⟨Nat.le_of_ble_eq_true rfl, Nat.le_of_ble_eq_true rfl⟩ hl.1 rfl (Nat.le_of_ble_eq_true rfl) dX3_run_79 ⟨Nat.le_of_ble_eq_true rfl, Nat.le_of_ble_eq_true rfl⟩) hS (hD.free (fun q hq => hA q (Nat.le_trans hS.1 hq))) (fun H locs hP hz1 hk1 hS => ?_)
      have hP : zP D Rs ad (gS ks ad np ng G MI MJ XI (xPA XI np rt 30 (u2 (u2 (xGG XI ng rt 30 XJ) 4 0 v3) 4 1 v4))) H := hP
      refine lv_aload_n hx hb dX3_run_82 rfl (lv_at hl 1 rfl) ?_
      refine z_backW0 (z_runV ⟨hx, hb, hml, hown, hT⟩ (rest := []) (As := []) (c_X3_giveBonuses (MI := MI) (MJ := MJ) (XI := XI) (XJ := (xPA XI np rt 30 (u2 (u2 (xGG XI ng rt 30 XJ) 4 0 v3) 4 1 v4))) l hD0 hI (hok) _) k_X3_126 (z_preWV hK hP (hP.at (hI.1 13 (by decide)) rfl) rfl) rfl ⟨Nat.le_of_ble_eq_true rfl, Nat.le_of_ble_eq_true rfl⟩ hl.1 rfl (Nat.le_of_ble_eq_true rfl) dX3_run_83 ⟨Nat.le_of_ble_eq_true rfl, Nat.le_of_ble_eq_true rfl⟩) hS (hD.free (fun q hq => hA q (Nat.le_trans hS.1 hq))) (fun H locs hP hz1 hk1 hS => ?_)
      have hP : zP D Rs ad (gS ks ad np ng G MI MJ XI (xGB XI np 30 (xPA XI np rt 30 (u2 (u2 (xGG XI ng rt 30 XJ) 4 0 v3) 4 1 v4)))) H := hP
      refine lv_aload_n hx hb dX3_run_86 rfl (lv_at hl 1 rfl) ?_
      refine z_backW1 (z_runV ⟨hx, hb, hml, hown, hT⟩ (rest := []) (As := []) (c_X3_maturePolicies (MI := MI) (MJ := MJ) (XI := XI) (XJ := (xGB XI np 30 (xPA XI np rt 30 (u2 (u2 (xGG XI ng rt 30 XJ) 4 0 v3) 4 1 v4)))) l hD0 hI (hok) _) k_X3_129 (z_preWV hK hP (hP.at (hI.1 13 (by decide)) rfl) rfl) rfl ⟨Nat.le_of_ble_eq_true rfl, Nat.le_of_ble_eq_true rfl⟩ hl.1 rfl (Nat.le_of_ble_eq_true rfl) dX3_run_87 ⟨Nat.le_of_ble_eq_true rfl, Nat.le_of_ble_eq_true rfl⟩) hS (hD.free (fun q hq => hA q (Nat.le_trans hS.1 hq))) (fun H locs hP hz1 hk1 hS => ?_)
      have hP : zP D Rs ad (gS ks ad np ng G MI MJ ((xMtS np G 30 (XI, xCpy 21 (xGB XI np 30 (xPA XI np rt 30 (u2 (u2 (xGG XI ng rt 30 XJ) 4 0 v3) 4 1 v4))))).1) ((xMtS np G 30 (XI, xCpy 21 (xGB XI np 30 (xPA XI np rt 30 (u2 (u2 (xGG XI ng rt 30 XJ) 4 0 v3) 4 1 v4))))).2)) H := hP
      refine lv_topi (fun v5 ev5 => ?_)
      refine lv_istore (lv' := [(4, .int v5), (2, .long (fThou (XJ 4 0) (Int32.toInt64 rt))), (0, .ref (ad 13)), (1, .int rt)]) hx hb dX3_run_90 hl (by decide) rfl (fun ls hl => ?_)
      refine lv_aload_n hx hb dX3_run_92 rfl (lv_at hl 2 rfl) ?_
      refine lv_dup hx hb dX3_run_93 rfl ?_
      refine gf_X3_110 hx hb hT hown hK (hP.at (hI.1 13 (by decide)) rfl) rfl dX3_run_94 ?_
      refine lv_iconst (v := 1) hx hb dX3_run_97 (by decide) ?_
      refine lv_iadd hx hb dX3_run_98 ?_
      refine lv_topi (fun v6 ev6 => ?_)
      refine pf_X3_110 hx hb hT hown hK hP hD hS (hI.1 13 (by decide)) (v := v6) dX3_run_99 (fun H locs hP hS => ?_)
      refine lv_iload hx hb dX3_run_102 (lv_at hl 0 rfl) ?_
      exact zW_i hx hb hr hlk hS (Nat.le_of_ble_eq_true rfl) (Nat.le_of_ble_eq_true rfl) dX3_run_104 (by subst ev6 ev5 ev4 ev3; rfl) (by subst ev6 ev5 ev4 ev3; exact hP)
    · exact absurd hy c_2
  · exact absurd ((h0).symm.trans c_1) (by decide)
end ZX3
