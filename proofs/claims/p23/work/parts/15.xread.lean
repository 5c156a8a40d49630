/-! the office: what is read -/
section ZX1
variable {D : va_G} {ks : Nat → ClassId} {ad : Nat → Nat} {np ng : Nat} {G : Nat → Nat} {MI : Nat → Nat → Int32} {MJ : Nat → Nat → Int64} {XI : Nat → Nat → Int32} {XJ : Nat → Nat → Int64} {Rs : List Nat}
def fShare (a : Int64) (p : Int32) (P : Int64) : Int64 := fParted (a * Int32.toInt64 p) P
def fAsset (st : Int32) (a : Int64) (p : Int32) (P : Int64) : Int64 := if st = 0 then fShare a p P else 0
def fForce (st : Int32) : Int32 := if st = 0 then 1 else 0
theorem fForce_nar {st : Int32} : narrow .boolean (.int (fForce st)) = .int (fForce st) := by unfold fForce; split <;> rfl
def fSmooth (r la : Int64) (st : Int32) : Int64 := if la = -1 then r else fMin (fMax r (la - fThou la (Int32.toInt64 st))) (la + fThou la (Int32.toInt64 st))
def fWorth (years term : Int32) (sh : Int64) (pr fl : Int32) : Int64 := fMax 0 (fMax (fThou sh (600 + fParted (400 * Int32.toInt64 years) (Int32.toInt64 term))) (fThou (Int32.toInt64 years * Int32.toInt64 pr) (Int32.toInt64 fl)))
def fRat (f : Nat → Int64) (t : Int32) : Int64 := if 0 ≤ t ∧ t < 21 then f t.toNatClampNeg else -1
set_option maxHeartbeats 4000000 in
set_option maxRecDepth 100000 in
theorem c_X1_shareFor (l : Launch) (hI : zIn Rs np ng) (i : Nat) (p0 : Int32) (hi : i < ng) : zMR l yX1_shareFor cX1_shareFor 2 ((some .long)) 1 (23) D ks [.ref (ad (20 + 4 * i)), .int p0] (zP D Rs ad (gS ks ad np ng G MI MJ XI XJ)) (some (.long (fShare (XJ 8 i) p0 (XJ 7 i)))) := by
  refine zMR.of (by decide +kernel) (Nat.le_of_ble_eq_true rfl) ?_
  intro p e s m below meth c ls hx hb hr hml hown hlk hT hP hK hl
  have hl : lv_has ls 2 [(0, .ref (ad (20 + 4 * i))), (1, .int p0)] := hl
  refine lv_aload_n hx hb dX1_shareFor_0 rfl (lv_at hl 0 rfl) ?_
  refine gf_X1_19 hx hb hT hown hK (hP.at (hI.2.1 i hi).1 gS_0) rfl dX1_shareFor_1 ?_
  refine gf_X1_23 hx hb hT hown hK (hP.at (hI.2.1 i hi).2 gS_1) rfl dX1_shareFor_4 ?_
  refine lv_iload_n hx hb dX1_shareFor_7 rfl (lv_at hl 1 rfl) ?_
  refine lv_i2l hx hb dX1_shareFor_8 rfl ?_
  refine lv_lmul hx hb dX1_shareFor_9 ?_
  refine lv_aload_n hx hb dX1_shareFor_10 rfl (lv_at hl 0 rfl) ?_
  refine gf_X1_27 hx hb hT hown hK (hP.at (hI.2.1 i hi).1 gS_0) rfl dX1_shareFor_11 ?_
  refine z_backR1 (z_runSN ⟨hx, hb, hml, hown, hT⟩ hK (rest := []) (As := [.long ((XJ 8 i) * (Int32.toInt64 p0)), .long (XJ 7 i)]) (c_X3_parted l D ks ((XJ 8 i) * (Int32.toInt64 p0)) (XJ 7 i) ) k_X1_30 (z_preR hK trivial) rfl ⟨Nat.le_of_ble_eq_true rfl, Nat.le_of_ble_eq_true rfl⟩ hl.1 rfl (Nat.le_of_ble_eq_true rfl) dX1_shareFor_14 ⟨Nat.le_of_ble_eq_true rfl, Nat.le_of_ble_eq_true rfl⟩) ?_
  exact zR_l hx hb hr hlk dX1_shareFor_17 (rfl)
set_option maxHeartbeats 4000000 in
set_option maxRecDepth 100000 in
theorem c_X2_isInForce (l : Launch) (hI : zIn Rs np ng) (j : Nat) (hj : j < np) : zMR l yX2_isInForce cX2_isInForce 1 ((some .boolean)) 0 (0) D ks [.ref (ad (22 + 4 * j))] (zP D Rs ad (gS ks ad np ng G MI MJ XI XJ)) (some (.int (fForce (XI 15 j)))) := by
  refine zMR.of (by decide +kernel) (Nat.le_of_ble_eq_true rfl) ?_
  intro p e s m below meth c ls hx hb hr hml hown hlk hT hP hK hl
  have hl : lv_has ls 1 [(0, .ref (ad (22 + 4 * j)))] := hl
  refine lv_aload_n hx hb dX2_isInForce_0 rfl (lv_at hl 0 rfl) ?_
  refine gf_X2_29 hx hb hT hown hK (hP.at (hI.2.2 j hj).1 gS_2) rfl dX2_isInForce_1 ?_
  refine lv_if_ne (tgt := 11) hx hb dX2_isInForce_4 (by decide) (fun c_1 => ?_) (fun c_1 => ?_)
  · refine lv_iconst (v := 0) hx hb dX2_isInForce_11 (by decide) ?_
    exact zR_z hx hb hr hlk dX2_isInForce_12 (rfl) ((if_neg c_1).symm)
  · refine lv_iconst (v := 1) hx hb dX2_isInForce_7 (by decide) ?_
    refine lv_goto (tgt := 12) hx hb dX2_isInForce_8 (by decide) ?_
    exact zR_z hx hb hr hlk dX2_isInForce_12 (rfl) ((if_pos c_1).symm)
set_option maxHeartbeats 4000000 in
set_option maxRecDepth 100000 in
theorem c_X2_guaranteed (l : Launch) (hI : zIn Rs np ng) (j : Nat) (hj : j < np) : zMR l yX2_guaranteed cX2_guaranteed 1 ((some .long)) 0 (0) D ks [.ref (ad (22 + 4 * j))] (zP D Rs ad (gS ks ad np ng G MI MJ XI XJ)) (some (.long (Int32.toInt64 (XI 14 j) + XJ 10 j))) := by
  refine zMR.of (by decide +kernel) (Nat.le_of_ble_eq_true rfl) ?_
  intro p e s m below meth c ls hx hb hr hml hown hlk hT hP hK hl
  have hl : lv_has ls 1 [(0, .ref (ad (22 + 4 * j)))] := hl
  refine lv_aload_n hx hb dX2_guaranteed_0 rfl (lv_at hl 0 rfl) ?_
  refine gf_X2_19 hx hb hT hown hK (hP.at (hI.2.2 j hj).1 gS_2) rfl dX2_guaranteed_1 ?_
  refine lv_i2l hx hb dX2_guaranteed_4 rfl ?_
  refine lv_aload_n hx hb dX2_guaranteed_5 rfl (lv_at hl 0 rfl) ?_
  refine gf_X2_38 hx hb hT hown hK (hP.at (hI.2.2 j hj).1 gS_2) rfl dX2_guaranteed_6 ?_
  refine lv_ladd hx hb dX2_guaranteed_9 ?_
  exact zR_l hx hb hr hlk dX2_guaranteed_10 (rfl)
set_option maxHeartbeats 4000000 in
set_option maxRecDepth 100000 in
theorem c_X2_assetShare (l : Launch) (hI : zIn Rs np ng) (j : Nat) (hj : j < np) (hG : G j < ng) : zMR l yX2_assetShare cX2_assetShare 1 ((some .long)) 2 (44) D ks [.ref (ad (22 + 4 * j))] (zP D Rs ad (gS ks ad np ng G MI MJ XI XJ)) (some (.long (fAsset (XI 15 j) (XJ 8 (G j)) (XI 13 j) (XJ 7 (G j))))) := by
  refine zMR.of (by decide +kernel) (Nat.le_of_ble_eq_true rfl) ?_
  intro p e s m below meth c ls hx hb hr hml hown hlk hT hP hK hl
  have hl : lv_has ls 1 [(0, .ref (ad (22 + 4 * j)))] := hl
  refine lv_aload_n hx hb dX2_assetShare_0 rfl (lv_at hl 0 rfl) ?_
  refine z_backR1 (z_runV ⟨hx, hb, hml, hown, hT⟩ (rest := []) (As := []) (c_X2_isInForce (MI := MI) (MJ := MJ) (XI := XI) (XJ := XJ) l hI j (hj)) k_X2_41 (z_preRV hK hP (hP.at (hI.2.2 j hj).1 gS_2) rfl) rfl ⟨Nat.le_of_ble_eq_true rfl, Nat.le_of_ble_eq_true rfl⟩ hl.1 rfl (Nat.le_of_ble_eq_true rfl) dX2_assetShare_1 ⟨Nat.le_of_ble_eq_true rfl, Nat.le_of_ble_eq_true rfl⟩) ?_
  refine lv_if_eq (tgt := 21) hx hb dX2_assetShare_4 (by decide) (fun c_1 => ?_) (fun c_1 => ?_)
  · refine lv_lconst (v := 0) hx hb dX2_assetShare_21 (by decide) ?_
    exact zR_l hx hb hr hlk dX2_assetShare_22 ((if_neg (fun h => absurd ((if_pos h).symm.trans c_1 : (1 : Int32) = 0) (by decide))).symm)
  · refine lv_aload_n hx hb dX2_assetShare_7 rfl (lv_at hl 0 rfl) ?_
    refine gf_X2_9 hx hb hT hown hK (hP.at (hI.2.2 j hj).1 gS_2) rfl dX2_assetShare_8 ?_
    refine lv_aload_n hx hb dX2_assetShare_11 rfl (lv_at hl 0 rfl) ?_
    refine gf_X2_15 hx hb hT hown hK (hP.at (hI.2.2 j hj).1 gS_2) rfl dX2_assetShare_12 ?_
    refine z_backR1 (z_runVN ⟨hx, hb, hml, hown, hT⟩ hK (rest := []) (As := [.int (XI 13 j)]) (c_X1_shareFor (MI := MI) (MJ := MJ) (XI := XI) (XJ := XJ) l hI (G j) (XI 13 j) (hG)) k_X2_45 (z_preRV hK hP (hP.at (hI.2.1 (G j) hG).1 gS_0) rfl) rfl ⟨Nat.le_of_ble_eq_true rfl, Nat.le_of_ble_eq_true rfl⟩ hl.1 rfl (Nat.le_of_ble_eq_true rfl) dX2_assetShare_15 ⟨Nat.le_of_ble_eq_true rfl, Nat.le_of_ble_eq_true rfl⟩) ?_
    refine lv_goto (tgt := 22) hx hb dX2_assetShare_18 (by decide) ?_
    exact zR_l hx hb hr hlk dX2_assetShare_22 ((if_pos (Decidable.byContradiction fun h => c_1 (if_neg h))).symm)
set_option maxHeartbeats 4000000 in
set_option maxRecDepth 100000 in
theorem c_X3_yearsRun (l : Launch) (hI : zIn Rs np ng) (j : Nat) (hj : j < np) (hG : G j < ng) : zMR l yX3_yearsRun cX3_yearsRun 2 ((some .int)) 0 (0) D ks [.ref (ad 13), .ref (ad (22 + 4 * j))] (zP D Rs ad (gS ks ad np ng G MI MJ XI XJ)) (some (.int (XI 10 2 - XI 11 (G j)))) := by
  refine zMR.of (by decide +kernel) (Nat.le_of_ble_eq_true rfl) ?_
  intro p e s m below meth c ls hx hb hr hml hown hlk hT hP hK hl
  have hl : lv_has ls 2 [(0, .ref (ad 13)), (1, .ref (ad (22 + 4 * j)))] := hl
  refine lv_aload_n hx hb dX3_yearsRun_0 rfl (lv_at hl 0 rfl) ?_
  refine gf_X3_110 hx hb hT hown hK (hP.at (hI.1 13 (by decide)) rfl) rfl dX3_yearsRun_1 ?_
  refine lv_aload_n hx hb dX3_yearsRun_4 rfl (lv_at hl 1 rfl) ?_
  refine gf_X3_192 hx hb hT hown hK (hP.at (hI.2.2 j hj).1 gS_2) rfl dX3_yearsRun_5 ?_
  refine gf_X3_196 hx hb hT hown hK (hP.at (hI.2.1 (G j) hG).1 gS_0) rfl dX3_yearsRun_8 ?_
  refine lv_isub hx hb dX3_yearsRun_11 ?_
  exact zR_i hx hb hr hlk dX3_yearsRun_12 (rfl)
set_option maxHeartbeats 4000000 in
set_option maxRecDepth 100000 in
theorem c_X3_smooth (l : Launch) (hI : zIn Rs np ng) (r : Int64) (la : Int64) : zMR l yX3_smooth cX3_smooth 7 ((some .long)) 2 (48) D ks [.ref (ad 13), .long r, .long la] (zP D Rs ad (gS ks ad np ng G MI MJ XI XJ)) (some (.long (fSmooth r la (XI 10 6)))) := by
  refine zMR.of (by decide +kernel) (Nat.le_of_ble_eq_true rfl) ?_
  intro p e s m below meth c ls hx hb hr hml hown hlk hT hP hK hl
  have hl : lv_has ls 7 [(0, .ref (ad 13)), (1, .long r), (3, .long la)] := hl
  refine lv_lload_n hx hb dX3_smooth_0 rfl (lv_at hl 2 rfl) ?_
  refine lv_ldc2 (v := (-1)) hx hb hown (hT _ kl_X3_28) dX3_smooth_1 ?_
  refine z_lcmp_ne (tgt := 10) hx hb dX3_smooth_4 dX3_smooth_5 (by decide) (fun c_1 => ?_) (fun c_1 => ?_)
  · refine lv_lload_n hx hb dX3_smooth_10 rfl (lv_at hl 2 rfl) ?_
    refine lv_aload_n hx hb dX3_smooth_11 rfl (lv_at hl 0 rfl) ?_
    refine gf_X3_40 hx hb hT hown hK (hP.at (hI.1 13 (by decide)) rfl) rfl dX3_smooth_12 ?_
    refine lv_i2l hx hb dX3_smooth_15 rfl ?_
    refine z_backR1 (z_runS ⟨hx, hb, hml, hown, hT⟩ (rest := []) (As := [.long la, .long (Int32.toInt64 (XI 10 6))]) (c_X3_thousandths l D ks la (Int32.toInt64 (XI 10 6)) ) k_X3_115 (z_preR hK trivial) rfl ⟨Nat.le_of_ble_eq_true rfl, Nat.le_of_ble_eq_true rfl⟩ hl.1 rfl (Nat.le_of_ble_eq_true rfl) dX3_smooth_16 ⟨Nat.le_of_ble_eq_true rfl, Nat.le_of_ble_eq_true rfl⟩) ?_
    refine lv_lstore (lv' := [(5, .long (fThou la (Int32.toInt64 (XI 10 6)))), (0, .ref (ad 13)), (1, .long r), (3, .long la)]) hx hb dX3_smooth_19 hl (by decide) rfl (fun ls hl => ?_)
    refine lv_lload_n hx hb dX3_smooth_21 rfl (lv_at hl 2 rfl) ?_
    refine lv_lload_n hx hb dX3_smooth_22 rfl (lv_at hl 3 rfl) ?_
    refine lv_lload hx hb dX3_smooth_23 (lv_at hl 0 rfl) ?_
    refine lv_lsub hx hb dX3_smooth_25 ?_
    refine va_mmax_long hx hb (hml.trans hl.1.symm) hown (hT _ ml_X3_176) (hT _ sm_yJ9_max_f86c9) (hT _ in_J9) (hT _ co_yJ9_max_f86c9) (Nat.le_of_ble_eq_true rfl) (Nat.le_of_ble_eq_true rfl) (Nat.le_of_ble_eq_true rfl) (Nat.le_of_ble_eq_true rfl) dX3_smooth_26 ?_
    refine lv_lload_n hx hb dX3_smooth_29 rfl (lv_at hl 3 rfl) ?_
    refine lv_lload hx hb dX3_smooth_30 (lv_at hl 0 rfl) ?_
    refine lv_ladd hx hb dX3_smooth_32 ?_
    refine va_mmin_long hx hb (hml.trans hl.1.symm) hown (hT _ ml_X3_232) (hT _ sm_yJ9_min_f86c9) (hT _ in_J9) (hT _ co_yJ9_min_f86c9) (Nat.le_of_ble_eq_true rfl) (Nat.le_of_ble_eq_true rfl) (Nat.le_of_ble_eq_true rfl) (Nat.le_of_ble_eq_true rfl) dX3_smooth_33 ?_
    exact zR_l hx hb hr hlk dX3_smooth_36 ((if_neg c_1).symm)
  · refine lv_lload_n hx hb dX3_smooth_8 rfl (lv_at hl 1 rfl) ?_
    exact zR_l hx hb hr hlk dX3_smooth_9 ((if_pos c_1).symm)
set_option maxHeartbeats 4000000 in
set_option maxRecDepth 100000 in
theorem c_X3_surrenderWorth (l : Launch) (hI : zIn Rs np ng) (j : Nat) (hj : j < np) (hG : G j < ng) : zMR l yX3_surrenderWorth cX3_surrenderWorth 9 ((some .long)) 3 (64) D ks [.ref (ad 13), .ref (ad (22 + 4 * j))] (zP D Rs ad (gS ks ad np ng G MI MJ XI XJ)) (some (.long (fWorth (XI 10 2 - XI 11 (G j)) (XI 12 (G j)) (fAsset (XI 15 j) (XJ 8 (G j)) (XI 13 j) (XJ 7 (G j))) (XI 13 j) (XI 10 7)))) := by
  refine zMR.of (by decide +kernel) (Nat.le_of_ble_eq_true rfl) ?_
  intro p e s m below meth c ls hx hb hr hml hown hlk hT hP hK hl
  have hl : lv_has ls 9 [(0, .ref (ad 13)), (1, .ref (ad (22 + 4 * j)))] := hl
  refine lv_aload_n hx hb dX3_surrenderWorth_0 rfl (lv_at hl 0 rfl) ?_
  refine lv_aload_n hx hb dX3_surrenderWorth_1 rfl (lv_at hl 1 rfl) ?_
  refine z_backR1 (z_runV ⟨hx, hb, hml, hown, hT⟩ (rest := []) (As := [.ref (ad (22 + 4 * j))]) (c_X3_yearsRun (MI := MI) (MJ := MJ) (XI := XI) (XJ := XJ) l hI j (hj) (hG)) k_X3_186 (z_preRV hK hP (hP.at (hI.1 13 (by decide)) rfl) rfl) rfl ⟨Nat.le_of_ble_eq_true rfl, Nat.le_of_ble_eq_true rfl⟩ hl.1 rfl (Nat.le_of_ble_eq_true rfl) dX3_surrenderWorth_2 ⟨Nat.le_of_ble_eq_true rfl, Nat.le_of_ble_eq_true rfl⟩) ?_
  refine lv_istore_n (lv' := [(2, .int (XI 10 2 - XI 11 (G j))), (0, .ref (ad 13)), (1, .ref (ad (22 + 4 * j)))]) hx hb dX3_surrenderWorth_5 rfl hl (by decide) rfl (fun ls hl => ?_)
  refine lv_ldc2 (v := 600) hx hb hown (hT _ kl_X3_235) dX3_surrenderWorth_6 ?_
  refine lv_ldc2 (v := 400) hx hb hown (hT _ kl_X3_237) dX3_surrenderWorth_9 ?_
  refine lv_iload_n hx hb dX3_surrenderWorth_12 rfl (lv_at hl 0 rfl) ?_
  refine lv_i2l hx hb dX3_surrenderWorth_13 rfl ?_
  refine lv_lmul hx hb dX3_surrenderWorth_14 ?_
  refine lv_aload_n hx hb dX3_surrenderWorth_15 rfl (lv_at hl 2 rfl) ?_
  refine gf_X3_192 hx hb hT hown hK (hP.at (hI.2.2 j hj).1 gS_2) rfl dX3_surrenderWorth_16 ?_
  refine gf_X3_199 hx hb hT hown hK (hP.at (hI.2.1 (G j) hG).1 gS_0) rfl dX3_surrenderWorth_19 ?_
  refine lv_i2l hx hb dX3_surrenderWorth_22 rfl ?_
  refine z_backR1 (z_runS ⟨hx, hb, hml, hown, hT⟩ (rest := [.long 600]) (As := [.long (400 * (Int32.toInt64 (XI 10 2 - XI 11 (G j)))), .long (Int32.toInt64 (XI 12 (G j)))]) (c_X3_parted l D ks (400 * (Int32.toInt64 (XI 10 2 - XI 11 (G j)))) (Int32.toInt64 (XI 12 (G j))) ) k_X3_226 (z_preR hK trivial) rfl ⟨Nat.le_of_ble_eq_true rfl, Nat.le_of_ble_eq_true rfl⟩ hl.1 rfl (Nat.le_of_ble_eq_true rfl) dX3_surrenderWorth_23 ⟨Nat.le_of_ble_eq_true rfl, Nat.le_of_ble_eq_true rfl⟩) ?_
  refine lv_ladd hx hb dX3_surrenderWorth_26 ?_
  refine lv_topl (fun v1 ev1 => ?_)
  refine lv_lstore_n (lv' := [(3, .long v1), (2, .int (XI 10 2 - XI 11 (G j))), (0, .ref (ad 13)), (1, .ref (ad (22 + 4 * j)))]) hx hb dX3_surrenderWorth_27 rfl hl (by decide) rfl (fun ls hl => ?_)
  refine lv_aload_n hx hb dX3_surrenderWorth_28 rfl (lv_at hl 3 rfl) ?_
  refine z_backR1 (z_runVN ⟨hx, hb, hml, hown, hT⟩ hK (rest := []) (As := []) (c_X2_assetShare (MI := MI) (MJ := MJ) (XI := XI) (XJ := XJ) l hI j (hj) (hG)) k_X3_139 (z_preRV hK hP (hP.at (hI.2.2 j hj).1 gS_2) rfl) rfl ⟨Nat.le_of_ble_eq_true rfl, Nat.le_of_ble_eq_true rfl⟩ hl.1 rfl (Nat.le_of_ble_eq_true rfl) dX3_surrenderWorth_29 ⟨Nat.le_of_ble_eq_true rfl, Nat.le_of_ble_eq_true rfl⟩) ?_
  refine lv_lload_n hx hb dX3_surrenderWorth_32 rfl (lv_at hl 0 rfl) ?_
  refine z_backR1 (z_runS ⟨hx, hb, hml, hown, hT⟩ (rest := []) (As := [.long (fAsset (XI 15 j) (XJ 8 (G j)) (XI 13 j) (XJ 7 (G j))), .long v1]) (c_X3_thousandths l D ks (fAsset (XI 15 j) (XJ 8 (G j)) (XI 13 j) (XJ 7 (G j))) v1 ) k_X3_115 (z_preR hK trivial) rfl ⟨Nat.le_of_ble_eq_true rfl, Nat.le_of_ble_eq_true rfl⟩ hl.1 rfl (Nat.le_of_ble_eq_true rfl) dX3_surrenderWorth_33 ⟨Nat.le_of_ble_eq_true rfl, Nat.le_of_ble_eq_true rfl⟩) ?_
  refine lv_topl (fun v2 ev2 => ?_)
  refine lv_lstore (lv' := [(5, .long v2), (3, .long v1), (2, .int (XI 10 2 - XI 11 (G j))), (0, .ref (ad 13)), (1, .ref (ad (22 + 4 * j)))]) hx hb dX3_surrenderWorth_36 hl (by decide) rfl (fun ls hl => ?_)
  refine lv_iload_n hx hb dX3_surrenderWorth_38 rfl (lv_at hl 2 rfl) ?_
  refine lv_i2l hx hb dX3_surrenderWorth_39 rfl ?_
  refine lv_aload_n hx hb dX3_surrenderWorth_40 rfl (lv_at hl 4 rfl) ?_
  refine gf_X3_218 hx hb hT hown hK (hP.at (hI.2.2 j hj).1 gS_2) rfl dX3_surrenderWorth_41 ?_
  refine lv_i2l hx hb dX3_surrenderWorth_44 rfl ?_
  refine lv_lmul hx hb dX3_surrenderWorth_45 ?_
  refine lv_aload_n hx hb dX3_surrenderWorth_46 rfl (lv_at hl 3 rfl) ?_
  refine gf_X3_43 hx hb hT hown hK (hP.at (hI.1 13 (by decide)) rfl) rfl dX3_surrenderWorth_47 ?_
  refine lv_i2l hx hb dX3_surrenderWorth_50 rfl ?_
  refine z_backR1 (z_runS ⟨hx, hb, hml, hown, hT⟩ (rest := []) (As := [.long ((Int32.toInt64 (XI 10 2 - XI 11 (G j))) * (Int32.toInt64 (XI 13 j))), .long (Int32.toInt64 (XI 10 7))]) (c_X3_thousandths l D ks ((Int32.toInt64 (XI 10 2 - XI 11 (G j))) * (Int32.toInt64 (XI 13 j))) (Int32.toInt64 (XI 10 7)) ) k_X3_115 (z_preR hK trivial) rfl ⟨Nat.le_of_ble_eq_true rfl, Nat.le_of_ble_eq_true rfl⟩ hl.1 rfl (Nat.le_of_ble_eq_true rfl) dX3_surrenderWorth_51 ⟨Nat.le_of_ble_eq_true rfl, Nat.le_of_ble_eq_true rfl⟩) ?_
  refine lv_topl (fun v3 ev3 => ?_)
  refine lv_lstore (lv' := [(7, .long v3), (5, .long v2), (3, .long v1), (2, .int (XI 10 2 - XI 11 (G j))), (0, .ref (ad 13)), (1, .ref (ad (22 + 4 * j)))]) hx hb dX3_surrenderWorth_54 hl (by decide) rfl (fun ls hl => ?_)
  refine lv_lconst (v := 0) hx hb dX3_surrenderWorth_56 (by decide) ?_
  refine lv_lload hx hb dX3_surrenderWorth_57 (lv_at hl 1 rfl) ?_
  refine lv_lload hx hb dX3_surrenderWorth_59 (lv_at hl 0 rfl) ?_
  refine va_mmax_long hx hb (hml.trans hl.1.symm) hown (hT _ ml_X3_176) (hT _ sm_yJ9_max_f86c9) (hT _ in_J9) (hT _ co_yJ9_max_f86c9) (Nat.le_of_ble_eq_true rfl) (Nat.le_of_ble_eq_true rfl) (Nat.le_of_ble_eq_true rfl) (Nat.le_of_ble_eq_true rfl) dX3_surrenderWorth_61 ?_
  refine va_mmax_long hx hb (hml.trans hl.1.symm) hown (hT _ ml_X3_176) (hT _ sm_yJ9_max_f86c9) (hT _ in_J9) (hT _ co_yJ9_max_f86c9) (Nat.le_of_ble_eq_true rfl) (Nat.le_of_ble_eq_true rfl) (Nat.le_of_ble_eq_true rfl) (Nat.le_of_ble_eq_true rfl) dX3_surrenderWorth_64 ?_
  exact zR_l hx hb hr hlk dX3_surrenderWorth_67 (by rw [ev3, ev2, ev1]; rfl)
end ZX1
