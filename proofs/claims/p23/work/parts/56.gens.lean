/-! the law's 'generations' -/
section ZH2
variable {D : va_G} {ks : Nat → ClassId} {ad : Nat → Nat} {np ng : Nat} {G : Nat → Nat} {MI : Nat → Nat → Int32} {MJ : Nat → Nat → Int64} {XI : Nat → Nat → Int32} {XJ : Nat → Nat → Int64} {Rs : List Nat}
theorem c_X3_generation_any (l : Launch) (hI : zIn Rs np ng) (y : Int32) (te : Int32) (hG30 : ng ≤ 30) (h0 : fIn y 0 40 = 1) (h1 : fIn te 2 20 = 1) : zMR l yX3_generation cX3_generation 4 ((some .int)) 2 (42) D ks [.ref (ad 13), .int y, .int te] (zP D Rs ad (gS ks ad np ng G MI MJ XI XJ)) (some (.int (genV XI XJ ng y te))) := by
  unfold genV
  rcases xF_spec (b := XI 11) (t := XI 12) (y := y) (te := te) ng 0 with ⟨i, -, h2, -, h5⟩ | ⟨h5, -⟩
  · have := c_X3_generation_ok (D := D) (ks := ks) (ad := ad) (G := G) (MI := MI) (MJ := MJ) (XI := XI) (XJ := XJ) l hI i y te hG30 h0 h1 h5 (by omega)
    rw [h5]
    exact this
  · have := c_X3_generation_none (D := D) (ks := ks) (ad := ad) (G := G) (MI := MI) (MJ := MJ) (XI := XI) (XJ := XJ) l hI y te hG30 h0 h1 h5
    rw [h5]
    exact this
theorem fIn_nI {k a b : Nat} (h1 : a ≤ k) (h2 : k ≤ b) (h3 : b < 2 ^ 31) : fIn (nI k) (nI a) (nI b) = 1 := if_pos ⟨nI_le h1 (by omega), nI_le h2 h3⟩
/-- a year's generations, as the law adds them up -/
def gRow (XI : Nat → Nat → Int32) (XJ : Nat → Nat → Int64) (ng y : Nat) : Nat → Int64 := sJ (fun t => Int32.toInt64 (genV XI XJ ng (nI y) (nI (t + 2))))
def gTot (XI : Nat → Nat → Int32) (XJ : Nat → Nat → Int64) (ng : Nat) : Nat → Int64 := sJ (fun y => gRow XI XJ ng y 19)
set_option maxHeartbeats 4000000 in
set_option maxRecDepth 100000 in
theorem c_L_generations (l : Launch) (hI : zIn Rs np ng) {y : Nat} (hs : sI np ng G XI XJ y) : zMR l yL_generations cL_generations 5 (some .boolean) 3 65 D ks [.ref (ad 13)] (zP D Rs ad (gS ks ad np ng G MI MJ XI XJ)) (some (.int 1)) := by
  obtain ⟨⟨-, -, hok, -, -, -⟩, -⟩ := hold_f hs
  obtain ⟨hG30, hgen⟩ := gen_f hs
  have hgen : gTot XI XJ ng 41 = xSh XJ ng 30 - XJ 4 0 := hgen
  refine zMR.of (by decide +kernel) (Nat.le_of_ble_eq_true rfl) ?_
  intro p e s m below meth c ls hx hb hr hml hown hlk hT hP hK hl
  have hl : lv_has ls 5 [(0, .ref (ad 13))] := hl
  have L : ∀ (d k : Nat) (f : Int64) (ls : Array Slot), k + d = 41 → f = gTot XI XJ ng k → lv_has ls 5 [(3, .int (nI k)), (1, .long f), (0, .ref (ad 13))] → W p l e (zRm 3 (65) 0 0) s m ([.ref (ad 13)] : List Value).toArray below meth c s.heap [] 0 0 (MQ below (zQR (some (.int 1))) ([.ref (ad 13)] : List Value).toArray s 0 0 (fun _ => False)) (F0 m 4 ls []) := by
    intro d
    induction d with
    | zero =>
      intro k f ls hkn hf hl
      have hk0 : k = 41 := by omega
      subst hk0
      refine lv_iload_n hx hb dL_generations_4 rfl (lv_at hl 0 rfl) ?_
      refine lv_bipush (v := 40) hx hb dL_generations_5 (by decide) ?_
      refine lv_icmp_gt (tgt := 43) hx hb dL_generations_7 (by decide) (fun c_1 => ?_) (fun c_1 => ?_)
      · refine lv_lload_n hx hb dL_generations_43 rfl (lv_at hl 1 rfl) ?_
        refine lv_aload_n hx hb dL_generations_44 rfl (lv_at hl 2 rfl) ?_
        refine z_backR1 (z_runV ⟨hx, hb, hml, hown, hT⟩ (rest := [.long f]) (As := []) (c_X3_sharesAndEstate (G := G) (MI := MI) (MJ := MJ) (XI := XI) (XJ := XJ) l hI hok) k_L_31 (z_preRV hK hP (hP.at (hI.1 13 (by decide)) rfl) rfl) rfl ⟨Nat.le_of_ble_eq_true rfl, Nat.le_of_ble_eq_true rfl⟩ hl.1 rfl (Nat.le_of_ble_eq_true rfl) dL_generations_45 ⟨Nat.le_of_ble_eq_true rfl, Nat.le_of_ble_eq_true rfl⟩) ?_
        refine lv_aload_n hx hb dL_generations_48 rfl (lv_at hl 2 rfl) ?_
        refine z_backR1 (z_runV ⟨hx, hb, hml, hown, hT⟩ (rest := [.long (xSh XJ ng 30), .long f]) (As := []) (c_X3_estate (G := G) (MI := MI) (MJ := MJ) (XI := XI) (XJ := XJ) l hI ) k_L_56 (z_preRV hK hP (hP.at (hI.1 13 (by decide)) rfl) rfl) rfl ⟨Nat.le_of_ble_eq_true rfl, Nat.le_of_ble_eq_true rfl⟩ hl.1 rfl (Nat.le_of_ble_eq_true rfl) dL_generations_49 ⟨Nat.le_of_ble_eq_true rfl, Nat.le_of_ble_eq_true rfl⟩) ?_
        refine lv_lsub hx hb dL_generations_52 ?_
        refine z_lcmp_ne (tgt := 61) hx hb dL_generations_53 dL_generations_54 (by decide) (fun c_2 => ?_) (fun c_2 => ?_)
        · exact absurd (hf.trans hgen) c_2
        · refine lv_iconst (v := 1) hx hb dL_generations_57 (by decide) ?_
          refine lv_goto (tgt := 62) hx hb dL_generations_58 (by decide) ?_
          exact zR_z hx hb hr hlk dL_generations_62 (rfl) (rfl)
      · exact absurd (show (40 : Int32) < nI 41 by decide) c_1
    | succ d ih =>
      intro k f ls hkn hf hl
      have I : ∀ (d2 t : Nat) (g : Int64) (ls : Array Slot), t + d2 = 19 → g = gTot XI XJ ng k + gRow XI XJ ng k t → lv_has ls 5 [(4, .int (nI (t + 2))), (1, .long g), (3, .int (nI k)), (0, .ref (ad 13))] → W p l e (zRm 3 (65) 0 0) s m ([.ref (ad 13)] : List Value).toArray below meth c s.heap [] 0 0 (MQ below (zQR (some (.int 1))) ([.ref (ad 13)] : List Value).toArray s 0 0 (fun _ => False)) (F0 m 13 ls []) := by
        intro d2
        induction d2 with
        | zero =>
          intro t g ls htn hg hl
          have ht0 : t = 19 := by omega
          subst ht0
          refine lv_iload hx hb dL_generations_13 (lv_at hl 0 rfl) ?_
          refine lv_bipush (v := 20) hx hb dL_generations_15 (by decide) ?_
          refine lv_icmp_gt (tgt := 37) hx hb dL_generations_17 (by decide) (fun c_1 => ?_) (fun c_1 => ?_)
          · refine lv_iinc (v := nI (k + 1)) (lv' := [(3, .int (nI (k + 1))), (4, .int (nI 21)), (1, .long g), (0, .ref (ad 13))]) hx hb dL_generations_37 hl (k := 2) rfl (nI_1 k) (by decide) rfl (fun ls hl => ?_)
            refine lv_goto (tgt := 4) hx hb dL_generations_40 (by decide) ?_
            exact ih (k + 1) g _ (by omega) hg (lv_sub hl [0, 2, 3] rfl)
          · exact absurd (show (20 : Int32) < nI 21 by decide) c_1
        | succ d2 ihI =>
          intro t g ls htn hg hl
          refine lv_iload hx hb dL_generations_13 (lv_at hl 0 rfl) ?_
          refine lv_bipush (v := 20) hx hb dL_generations_15 (by decide) ?_
          refine lv_icmp_gt (tgt := 37) hx hb dL_generations_17 (by decide) (fun c_1 => ?_) (fun c_1 => ?_)
          · exact absurd c_1 (nI_nlt (a := 20) (b := t + 2) (by omega) (by omega))
          · refine lv_lload_n hx hb dL_generations_20 rfl (lv_at hl 1 rfl) ?_
            refine lv_aload_n hx hb dL_generations_21 rfl (lv_at hl 3 rfl) ?_
            refine lv_iload_n hx hb dL_generations_22 rfl (lv_at hl 2 rfl) ?_
            refine lv_iload hx hb dL_generations_23 (lv_at hl 0 rfl) ?_
            refine z_backR1 (z_runV ⟨hx, hb, hml, hown, hT⟩ (rest := [.long g]) (As := [.int (nI k), .int (nI (t + 2))]) (c_X3_generation_any (G := G) (MI := MI) (MJ := MJ) (XI := XI) (XJ := XJ) l hI (nI k) (nI (t + 2)) hG30 (fIn_nI (a := 0) (b := 40) (by omega) (by omega) (by decide)) (fIn_nI (a := 2) (b := 20) (by omega) (by omega) (by decide))) k_L_59 (z_preRV hK hP (hP.at (hI.1 13 (by decide)) rfl) rfl) rfl ⟨Nat.le_of_ble_eq_true rfl, Nat.le_of_ble_eq_true rfl⟩ hl.1 rfl (Nat.le_of_ble_eq_true rfl) dL_generations_25 ⟨Nat.le_of_ble_eq_true rfl, Nat.le_of_ble_eq_true rfl⟩) ?_
            refine lv_i2l hx hb dL_generations_28 rfl ?_
            refine lv_ladd hx hb dL_generations_29 ?_
            refine lv_lstore_n (lv' := [(1, .long (g + (Int32.toInt64 (genV XI XJ ng (nI k) (nI (t + 2)))))), (4, .int (nI (t + 2))), (3, .int (nI k)), (0, .ref (ad 13))]) hx hb dL_generations_30 rfl hl (by decide) rfl (fun ls hl => ?_)
            refine lv_iinc (v := nI (t + 2 + 1)) (lv' := [(4, .int (nI (t + 2 + 1))), (1, .long (g + (Int32.toInt64 (genV XI XJ ng (nI k) (nI (t + 2)))))), (3, .int (nI k)), (0, .ref (ad 13))]) hx hb dL_generations_31 hl (k := 1) rfl (nI_1 (t + 2)) (by decide) rfl (fun ls hl => ?_)
            refine lv_goto (tgt := 13) hx hb dL_generations_34 (by decide) ?_
            exact ihI (t + 1) _ _ (by omega) (by rw [hg]; exact Int64.add_assoc _ _ _) (lv_sub hl [0, 1, 2, 3] rfl)
      refine lv_iload_n hx hb dL_generations_4 rfl (lv_at hl 0 rfl) ?_
      refine lv_bipush (v := 40) hx hb dL_generations_5 (by decide) ?_
      refine lv_icmp_gt (tgt := 43) hx hb dL_generations_7 (by decide) (fun c_1 => ?_) (fun c_1 => ?_)
      · exact absurd c_1 (nI_nlt (a := 40) (b := k) (by omega) (by omega))
      · refine lv_iconst (v := 2) hx hb dL_generations_10 (by decide) ?_
        refine lv_istore (lv' := [(4, .int 2), (3, .int (nI k)), (1, .long f), (0, .ref (ad 13))]) hx hb dL_generations_11 hl (by decide) rfl (fun ls hl => ?_)
        exact I 19 0 f _ (by omega) (by rw [hf]; simp [gRow, sJ]) (lv_sub hl [0, 2, 1, 3] rfl)
  refine lv_lconst (v := 0) hx hb dL_generations_0 (by decide) ?_
  refine lv_lstore_n (lv' := [(1, .long 0), (0, .ref (ad 13))]) hx hb dL_generations_1 rfl hl (by decide) rfl (fun ls hl => ?_)
  refine lv_iconst (v := 0) hx hb dL_generations_2 (by decide) ?_
  refine lv_istore_n (lv' := [(3, .int 0), (1, .long 0), (0, .ref (ad 13))]) hx hb dL_generations_3 rfl hl (by decide) rfl (fun ls hl => ?_)
  exact L 41 0 _ _ (by omega) rfl (lv_sub hl [0, 1, 2] rfl)
end ZH2
