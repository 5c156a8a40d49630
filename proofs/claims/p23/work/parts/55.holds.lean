/-! the law's 'holds' -/
section ZH1
variable {D : va_G} {ks : Nat → ClassId} {ad : Nat → Nat} {np ng : Nat} {G : Nat → Nat} {MI : Nat → Nat → Int32} {MJ : Nat → Nat → Int64} {XI : Nat → Nat → Int32} {XJ : Nat → Nat → Int64} {Rs : List Nat}
set_option maxHeartbeats 4000000 in
set_option maxRecDepth 100000 in
theorem c_L_holds (l : Launch) (hI : zIn Rs np ng) {y : Nat} (hs : sI np ng G XI XJ y) : zMR l yL_holds cL_holds 6 (some .boolean) 4 88 D ks [.ref (ad 13)] (zP D Rs ad (gS ks ad np ng G MI MJ XI XJ)) (some (.int 1)) := by
  obtain ⟨⟨hcnt, hN, hok, hbal, hsh, hshr⟩, hfk⟩ := hold_f hs
  refine zMR.of (by decide +kernel) (Nat.le_of_ble_eq_true rfl) ?_
  intro p e s m below meth c ls hx hb hr hml hown hlk hT hP hK hl
  have hl : lv_has ls 6 [(0, .ref (ad 13))] := hl
  have L : ∀ (d k : Nat) (ls : Array Slot), k + d = np → lv_has ls 6 [(3, .int (nI k)), (2, .int (shN XI XJ G k)), (1, .int 1), (0, .ref (ad 13))] → W p l e (zRm 4 (88) 0 0) s m ([.ref (ad 13)] : List Value).toArray below meth c s.heap [] 0 0 (MQ below (zQR (some (.int 1))) ([.ref (ad 13)] : List Value).toArray s 0 0 (fun _ => False)) (F0 m 29 ls []) := by
    intro d
    induction d with
    | zero =>
      intro k ls hkn hl
      have hk0 : k = np := by omega
      subst hk0
      refine lv_iload_n hx hb dL_holds_29 rfl (lv_at hl 0 rfl) ?_
      refine lv_aload_n hx hb dL_holds_30 rfl (lv_at hl 3 rfl) ?_
      refine z_backR1 (z_runV ⟨hx, hb, hml, hown, hT⟩ (rest := [.int (nI k)]) (As := []) (c_X3_policies (G := G) (MI := MI) (MJ := MJ) (XI := XI) (XJ := XJ) l hI ) k_L_38 (z_preRV hK hP (hP.at (hI.1 13 (by decide)) rfl) rfl) rfl ⟨Nat.le_of_ble_eq_true rfl, Nat.le_of_ble_eq_true rfl⟩ hl.1 rfl (Nat.le_of_ble_eq_true rfl) dL_holds_31 ⟨Nat.le_of_ble_eq_true rfl, Nat.le_of_ble_eq_true rfl⟩) ?_
      rw [hcnt]
      refine lv_icmp_ge (tgt := 141) hx hb dL_holds_34 (by decide) (fun c_1 => ?_) (fun c_1 => ?_)
      · refine lv_iload_n hx hb dL_holds_141 rfl (lv_at hl 2 rfl) ?_
        refine lv_if_eq (tgt := 164) hx hb dL_holds_142 (by decide) (fun c_2 => ?_) (fun c_2 => ?_)
        · exact absurd c_2 (by decide)
        · refine lv_iload_n hx hb dL_holds_145 rfl (lv_at hl 1 rfl) ?_
          refine lv_i2l hx hb dL_holds_146 rfl ?_
          refine lv_aload_n hx hb dL_holds_147 rfl (lv_at hl 3 rfl) ?_
          refine z_backR1 (z_runV ⟨hx, hb, hml, hown, hT⟩ (rest := [.long (Int32.toInt64 (shN XI XJ G k))]) (As := []) (c_X3_sharesAndEstate (G := G) (MI := MI) (MJ := MJ) (XI := XI) (XJ := XJ) l hI hok) k_L_31 (z_preRV hK hP (hP.at (hI.1 13 (by decide)) rfl) rfl) rfl ⟨Nat.le_of_ble_eq_true rfl, Nat.le_of_ble_eq_true rfl⟩ hl.1 rfl (Nat.le_of_ble_eq_true rfl) dL_holds_148 ⟨Nat.le_of_ble_eq_true rfl, Nat.le_of_ble_eq_true rfl⟩) ?_
          refine lv_aload_n hx hb dL_holds_151 rfl (lv_at hl 3 rfl) ?_
          refine z_backR1 (z_runV ⟨hx, hb, hml, hown, hT⟩ (rest := [.long (xSh XJ ng 30), .long (Int32.toInt64 (shN XI XJ G k))]) (As := []) (c_X3_estate (G := G) (MI := MI) (MJ := MJ) (XI := XI) (XJ := XJ) l hI ) k_L_56 (z_preRV hK hP (hP.at (hI.1 13 (by decide)) rfl) rfl) rfl ⟨Nat.le_of_ble_eq_true rfl, Nat.le_of_ble_eq_true rfl⟩ hl.1 rfl (Nat.le_of_ble_eq_true rfl) dL_holds_152 ⟨Nat.le_of_ble_eq_true rfl, Nat.le_of_ble_eq_true rfl⟩) ?_
          refine lv_lsub hx hb dL_holds_155 ?_
          refine z_lcmp_gt (tgt := 164) hx hb dL_holds_156 dL_holds_157 (by decide) (fun c_3 => ?_) (fun c_3 => ?_)
          · exact absurd c_3 hshr
          · refine lv_iconst (v := 1) hx hb dL_holds_160 (by decide) ?_
            refine lv_goto (tgt := 165) hx hb dL_holds_161 (by decide) ?_
            exact zR_z hx hb hr hlk dL_holds_165 (rfl) (rfl)
      · exact absurd (nI_le (a := k) (b := k) (Nat.le_refl _) (by omega)) c_1
    | succ d ih =>
      intro k ls hkn hl
      have hk : k < np := by omega
      refine lv_iload_n hx hb dL_holds_29 rfl (lv_at hl 0 rfl) ?_
      refine lv_aload_n hx hb dL_holds_30 rfl (lv_at hl 3 rfl) ?_
      refine z_backR1 (z_runV ⟨hx, hb, hml, hown, hT⟩ (rest := [.int (nI k)]) (As := []) (c_X3_policies (G := G) (MI := MI) (MJ := MJ) (XI := XI) (XJ := XJ) l hI ) k_L_38 (z_preRV hK hP (hP.at (hI.1 13 (by decide)) rfl) rfl) rfl ⟨Nat.le_of_ble_eq_true rfl, Nat.le_of_ble_eq_true rfl⟩ hl.1 rfl (Nat.le_of_ble_eq_true rfl) dL_holds_31 ⟨Nat.le_of_ble_eq_true rfl, Nat.le_of_ble_eq_true rfl⟩) ?_
      rw [hcnt]
      refine lv_icmp_ge (tgt := 141) hx hb dL_holds_34 (by decide) (fun c_1 => ?_) (fun c_1 => ?_)
      · exact absurd c_1 (nI_ge (a := k) (b := np) hk (by omega))
      · refine lv_iload_n hx hb dL_holds_37 rfl (lv_at hl 2 rfl) ?_
        refine lv_if_eq (tgt := 141) hx hb dL_holds_38 (by decide) (fun c_2 => ?_) (fun c_2 => ?_)
        · exact absurd c_2 (by decide)
        · refine lv_aload_n hx hb dL_holds_41 rfl (lv_at hl 3 rfl) ?_
          refine lv_iload_n hx hb dL_holds_42 rfl (lv_at hl 0 rfl) ?_
          refine z_backR1 (z_runV ⟨hx, hb, hml, hown, hT⟩ (rest := []) (As := [.int (nI k)]) (c_X3_stateOf_ok (G := G) (MI := MI) (MJ := MJ) (XI := XI) (XJ := XJ) l hI k hk hN) k_L_41 (z_preRV hK hP (hP.at (hI.1 13 (by decide)) rfl) rfl) rfl ⟨Nat.le_of_ble_eq_true rfl, Nat.le_of_ble_eq_true rfl⟩ hl.1 rfl (Nat.le_of_ble_eq_true rfl) dL_holds_43 ⟨Nat.le_of_ble_eq_true rfl, Nat.le_of_ble_eq_true rfl⟩) ?_
          refine lv_istore (lv' := [(4, .int (XI 15 k)), (3, .int (nI k)), (2, .int (shN XI XJ G k)), (1, .int 1), (0, .ref (ad 13))]) hx hb dL_holds_46 hl (by decide) rfl (fun ls hl => ?_)
          refine lv_aload_n hx hb dL_holds_48 rfl (lv_at hl 4 rfl) ?_
          refine lv_iload_n hx hb dL_holds_49 rfl (lv_at hl 1 rfl) ?_
          refine z_backR1 (z_runV ⟨hx, hb, hml, hown, hT⟩ (rest := []) (As := [.int (nI k)]) (c_X3_shareOf_ok (G := G) (MI := MI) (MJ := MJ) (XI := XI) (XJ := XJ) l hI k hk hN (hok.2.2.1 k hk)) k_L_44 (z_preRV hK hP (hP.at (hI.1 13 (by decide)) rfl) rfl) rfl ⟨Nat.le_of_ble_eq_true rfl, Nat.le_of_ble_eq_true rfl⟩ hl.1 rfl (Nat.le_of_ble_eq_true rfl) dL_holds_50 ⟨Nat.le_of_ble_eq_true rfl, Nat.le_of_ble_eq_true rfl⟩) ?_
          refine lv_topi (fun v3 ev3 => ?_)
          refine lv_istore (lv' := [(5, .int v3), (4, .int (XI 15 k)), (3, .int (nI k)), (2, .int (shN XI XJ G k)), (1, .int 1), (0, .ref (ad 13))]) hx hb dL_holds_53 hl (by decide) rfl (fun ls hl => ?_)
          refine lv_iload_n hx hb dL_holds_55 rfl (lv_at hl 3 rfl) ?_
          refine lv_iload hx hb dL_holds_56 (lv_at hl 0 rfl) ?_
          refine lv_iadd hx hb dL_holds_58 ?_
          refine lv_istore_n (lv' := [(2, .int ((shN XI XJ G k) + v3)), (5, .int v3), (4, .int (XI 15 k)), (3, .int (nI k)), (1, .int 1), (0, .ref (ad 13))]) hx hb dL_holds_59 rfl hl (by decide) rfl (fun ls hl => ?_)
          refine lv_iload hx hb dL_holds_60 (lv_at hl 2 rfl) ?_
          refine lv_if_lt (tgt := 133) hx hb dL_holds_62 (by decide) (fun c_4 => ?_) (fun c_4 => ?_)
          · exact absurd c_4 (hfk k hk).1.1
          · refine lv_iload hx hb dL_holds_65 (lv_at hl 2 rfl) ?_
            refine lv_iconst (v := 2) hx hb dL_holds_67 (by decide) ?_
            refine lv_icmp_gt (tgt := 133) hx hb dL_holds_68 (by decide) (fun c_5 => ?_) (fun c_5 => ?_)
            · exact absurd c_5 (hfk k hk).1.2
            · refine lv_iload hx hb dL_holds_71 (lv_at hl 1 rfl) ?_
              refine lv_if_lt (tgt := 133) hx hb dL_holds_73 (by decide) (fun c_6 => ?_) (fun c_6 => ?_)
              · exact absurd c_6 (by rw [ev3]; exact (hfk k hk).2.1)
              · refine lv_iload hx hb dL_holds_76 (lv_at hl 2 rfl) ?_
                refine lv_if_eq (tgt := 94) hx hb dL_holds_78 (by decide) (fun c_7 => ?_) (fun c_7 => ?_)
                · refine lv_aload_n hx hb dL_holds_94 rfl (lv_at hl 5 rfl) ?_
                  refine lv_iload_n hx hb dL_holds_95 rfl (lv_at hl 3 rfl) ?_
                  refine z_backR1 (z_runV ⟨hx, hb, hml, hown, hT⟩ (rest := []) (As := [.int (nI k)]) (c_X3_paid_ok (G := G) (MI := MI) (MJ := MJ) (XI := XI) (XJ := XJ) l hI k hk hN) k_L_50 (z_preRV hK hP (hP.at (hI.1 13 (by decide)) rfl) rfl) rfl ⟨Nat.le_of_ble_eq_true rfl, Nat.le_of_ble_eq_true rfl⟩ hl.1 rfl (Nat.le_of_ble_eq_true rfl) dL_holds_96 ⟨Nat.le_of_ble_eq_true rfl, Nat.le_of_ble_eq_true rfl⟩) ?_
                  refine lv_iconst (v := (-1)) hx hb dL_holds_99 (by decide) ?_
                  refine lv_icmp_ne (tgt := 107) hx hb dL_holds_100 (by decide) (fun c_8 => ?_) (fun c_8 => ?_)
                  · exact absurd ((hfk k hk).2.2.2.1 c_7) c_8
                  · refine lv_iconst (v := 1) hx hb dL_holds_103 (by decide) ?_
                    refine lv_goto (tgt := 108) hx hb dL_holds_104 (by decide) ?_
                    refine lv_iload hx hb dL_holds_108 (lv_at hl 2 rfl) ?_
                    refine lv_if_ne (tgt := 117) hx hb dL_holds_110 (by decide) (fun c_9 => ?_) (fun c_9 => ?_)
                    · exact absurd c_7 c_9
                    · refine lv_iconst (v := 1) hx hb dL_holds_113 (by decide) ?_
                      refine lv_goto (tgt := 118) hx hb dL_holds_114 (by decide) ?_
                      refine lv_icmp_ne (tgt := 133) hx hb dL_holds_118 (by decide) (fun c_10 => ?_) (fun c_10 => ?_)
                      · exact absurd c_10 (by decide)
                      · refine lv_aload_n hx hb dL_holds_121 rfl (lv_at hl 5 rfl) ?_
                        refine lv_iload_n hx hb dL_holds_122 rfl (lv_at hl 3 rfl) ?_
                        refine z_backR1 (z_runV ⟨hx, hb, hml, hown, hT⟩ (rest := []) (As := [.int (nI k)]) (c_X3_bonuses_ok (G := G) (MI := MI) (MJ := MJ) (XI := XI) (XJ := XJ) l hI k hk hN) k_L_53 (z_preRV hK hP (hP.at (hI.1 13 (by decide)) rfl) rfl) rfl ⟨Nat.le_of_ble_eq_true rfl, Nat.le_of_ble_eq_true rfl⟩ hl.1 rfl (Nat.le_of_ble_eq_true rfl) dL_holds_123 ⟨Nat.le_of_ble_eq_true rfl, Nat.le_of_ble_eq_true rfl⟩) ?_
                        refine lv_if_lt (tgt := 133) hx hb dL_holds_126 (by decide) (fun c_11 => ?_) (fun c_11 => ?_)
                        · exact absurd c_11 (hfk k hk).2.2.2.2.2
                        · refine lv_iconst (v := 1) hx hb dL_holds_129 (by decide) ?_
                          refine lv_goto (tgt := 134) hx hb dL_holds_130 (by decide) ?_
                          refine lv_istore_n (lv' := [(1, .int 1), (2, .int ((shN XI XJ G k) + v3)), (5, .int v3), (4, .int (XI 15 k)), (3, .int (nI k)), (0, .ref (ad 13))]) hx hb dL_holds_134 rfl hl (by decide) rfl (fun ls hl => ?_)
                          refine lv_iinc (v := nI (k + 1)) (lv' := [(3, .int (nI (k + 1))), (1, .int 1), (2, .int ((shN XI XJ G k) + v3)), (5, .int v3), (4, .int (XI 15 k)), (0, .ref (ad 13))]) hx hb dL_holds_135 hl (k := 4) rfl (nI_1 k) (by decide) rfl (fun ls hl => ?_)
                          refine lv_goto (tgt := 29) hx hb dL_holds_138 (by decide) ?_
                          exact ih (k + 1) _ (by omega) (by simp only [shN]; rw [← ev3]; exact (lv_sub hl [0, 2, 1, 5] rfl))
                · refine lv_iload hx hb dL_holds_81 (lv_at hl 1 rfl) ?_
                  refine lv_if_ne (tgt := 133) hx hb dL_holds_83 (by decide) (fun c_12 => ?_) (fun c_12 => ?_)
                  · exact absurd (ev3.trans ((hfk k hk).2.2.1 c_7)) c_12
                  · refine lv_aload_n hx hb dL_holds_86 rfl (lv_at hl 5 rfl) ?_
                    refine lv_iload_n hx hb dL_holds_87 rfl (lv_at hl 3 rfl) ?_
                    refine z_backR1 (z_runV ⟨hx, hb, hml, hown, hT⟩ (rest := []) (As := [.int (nI k)]) (c_X3_shareAlone_ok (G := G) (MI := MI) (MJ := MJ) (XI := XI) (XJ := XJ) l hI k hk hN) k_L_47 (z_preRV hK hP (hP.at (hI.1 13 (by decide)) rfl) rfl) rfl ⟨Nat.le_of_ble_eq_true rfl, Nat.le_of_ble_eq_true rfl⟩ hl.1 rfl (Nat.le_of_ble_eq_true rfl) dL_holds_88 ⟨Nat.le_of_ble_eq_true rfl, Nat.le_of_ble_eq_true rfl⟩) ?_
                    refine lv_if_ne (tgt := 133) hx hb dL_holds_91 (by decide) (fun c_13 => ?_) (fun c_13 => ?_)
                    · exact absurd (if_neg c_7) c_13
                    · refine lv_aload_n hx hb dL_holds_94 rfl (lv_at hl 5 rfl) ?_
                      refine lv_iload_n hx hb dL_holds_95 rfl (lv_at hl 3 rfl) ?_
                      refine z_backR1 (z_runV ⟨hx, hb, hml, hown, hT⟩ (rest := []) (As := [.int (nI k)]) (c_X3_paid_ok (G := G) (MI := MI) (MJ := MJ) (XI := XI) (XJ := XJ) l hI k hk hN) k_L_50 (z_preRV hK hP (hP.at (hI.1 13 (by decide)) rfl) rfl) rfl ⟨Nat.le_of_ble_eq_true rfl, Nat.le_of_ble_eq_true rfl⟩ hl.1 rfl (Nat.le_of_ble_eq_true rfl) dL_holds_96 ⟨Nat.le_of_ble_eq_true rfl, Nat.le_of_ble_eq_true rfl⟩) ?_
                      refine lv_iconst (v := (-1)) hx hb dL_holds_99 (by decide) ?_
                      refine lv_icmp_ne (tgt := 107) hx hb dL_holds_100 (by decide) (fun c_14 => ?_) (fun c_14 => ?_)
                      · refine lv_iconst (v := 0) hx hb dL_holds_107 (by decide) ?_
                        refine lv_iload hx hb dL_holds_108 (lv_at hl 2 rfl) ?_
                        refine lv_if_ne (tgt := 117) hx hb dL_holds_110 (by decide) (fun c_15 => ?_) (fun c_15 => ?_)
                        · refine lv_iconst (v := 0) hx hb dL_holds_117 (by decide) ?_
                          refine lv_icmp_ne (tgt := 133) hx hb dL_holds_118 (by decide) (fun c_16 => ?_) (fun c_16 => ?_)
                          · exact absurd c_16 (by decide)
                          · refine lv_aload_n hx hb dL_holds_121 rfl (lv_at hl 5 rfl) ?_
                            refine lv_iload_n hx hb dL_holds_122 rfl (lv_at hl 3 rfl) ?_
                            refine z_backR1 (z_runV ⟨hx, hb, hml, hown, hT⟩ (rest := []) (As := [.int (nI k)]) (c_X3_bonuses_ok (G := G) (MI := MI) (MJ := MJ) (XI := XI) (XJ := XJ) l hI k hk hN) k_L_53 (z_preRV hK hP (hP.at (hI.1 13 (by decide)) rfl) rfl) rfl ⟨Nat.le_of_ble_eq_true rfl, Nat.le_of_ble_eq_true rfl⟩ hl.1 rfl (Nat.le_of_ble_eq_true rfl) dL_holds_123 ⟨Nat.le_of_ble_eq_true rfl, Nat.le_of_ble_eq_true rfl⟩) ?_
                            refine lv_if_lt (tgt := 133) hx hb dL_holds_126 (by decide) (fun c_17 => ?_) (fun c_17 => ?_)
                            · exact absurd c_17 (hfk k hk).2.2.2.2.2
                            · refine lv_iconst (v := 1) hx hb dL_holds_129 (by decide) ?_
                              refine lv_goto (tgt := 134) hx hb dL_holds_130 (by decide) ?_
                              refine lv_istore_n (lv' := [(1, .int 1), (2, .int ((shN XI XJ G k) + v3)), (5, .int v3), (4, .int (XI 15 k)), (3, .int (nI k)), (0, .ref (ad 13))]) hx hb dL_holds_134 rfl hl (by decide) rfl (fun ls hl => ?_)
                              refine lv_iinc (v := nI (k + 1)) (lv' := [(3, .int (nI (k + 1))), (1, .int 1), (2, .int ((shN XI XJ G k) + v3)), (5, .int v3), (4, .int (XI 15 k)), (0, .ref (ad 13))]) hx hb dL_holds_135 hl (k := 4) rfl (nI_1 k) (by decide) rfl (fun ls hl => ?_)
                              refine lv_goto (tgt := 29) hx hb dL_holds_138 (by decide) ?_
                              exact ih (k + 1) _ (by omega) (by simp only [shN]; rw [← ev3]; exact (lv_sub hl [0, 2, 1, 5] rfl))
                        · exact absurd c_15 c_7
                      · exact absurd c_14 ((hfk k hk).2.2.2.2.1 c_7)
  refine lv_aload_n hx hb dL_holds_0 rfl (lv_at hl 0 rfl) ?_
  refine z_backR1 (z_runV ⟨hx, hb, hml, hown, hT⟩ (rest := []) (As := []) (c_X3_assets (G := G) (MI := MI) (MJ := MJ) (XI := XI) (XJ := XJ) l hI ) k_L_27 (z_preRV hK hP (hP.at (hI.1 13 (by decide)) rfl) rfl) rfl ⟨Nat.le_of_ble_eq_true rfl, Nat.le_of_ble_eq_true rfl⟩ hl.1 rfl (Nat.le_of_ble_eq_true rfl) dL_holds_1 ⟨Nat.le_of_ble_eq_true rfl, Nat.le_of_ble_eq_true rfl⟩) ?_
  refine lv_aload_n hx hb dL_holds_4 rfl (lv_at hl 0 rfl) ?_
  refine z_backR1 (z_runV ⟨hx, hb, hml, hown, hT⟩ (rest := [.long (XJ 4 1)]) (As := []) (c_X3_sharesAndEstate (G := G) (MI := MI) (MJ := MJ) (XI := XI) (XJ := XJ) l hI hok) k_L_31 (z_preRV hK hP (hP.at (hI.1 13 (by decide)) rfl) rfl) rfl ⟨Nat.le_of_ble_eq_true rfl, Nat.le_of_ble_eq_true rfl⟩ hl.1 rfl (Nat.le_of_ble_eq_true rfl) dL_holds_5 ⟨Nat.le_of_ble_eq_true rfl, Nat.le_of_ble_eq_true rfl⟩) ?_
  refine z_lcmp_ne (tgt := 23) hx hb dL_holds_8 dL_holds_9 (by decide) (fun c_1 => ?_) (fun c_1 => ?_)
  · exact absurd hbal c_1
  · refine lv_aload_n hx hb dL_holds_12 rfl (lv_at hl 0 rfl) ?_
    refine z_backR1 (z_runV ⟨hx, hb, hml, hown, hT⟩ (rest := []) (As := []) (c_X3_shortfall (G := G) (MI := MI) (MJ := MJ) (XI := XI) (XJ := XJ) l hI hok) k_L_34 (z_preRV hK hP (hP.at (hI.1 13 (by decide)) rfl) rfl) rfl ⟨Nat.le_of_ble_eq_true rfl, Nat.le_of_ble_eq_true rfl⟩ hl.1 rfl (Nat.le_of_ble_eq_true rfl) dL_holds_13 ⟨Nat.le_of_ble_eq_true rfl, Nat.le_of_ble_eq_true rfl⟩) ?_
    refine lv_if_lt (tgt := 23) hx hb dL_holds_16 (by decide) (fun c_2 => ?_) (fun c_2 => ?_)
    · exact absurd c_2 hsh
    · refine lv_iconst (v := 1) hx hb dL_holds_19 (by decide) ?_
      refine lv_goto (tgt := 24) hx hb dL_holds_20 (by decide) ?_
      refine lv_istore_n (lv' := [(1, .int 1), (0, .ref (ad 13))]) hx hb dL_holds_24 rfl hl (by decide) rfl (fun ls hl => ?_)
      refine lv_iconst (v := 0) hx hb dL_holds_25 (by decide) ?_
      refine lv_istore_n (lv' := [(2, .int 0), (1, .int 1), (0, .ref (ad 13))]) hx hb dL_holds_26 rfl hl (by decide) rfl (fun ls hl => ?_)
      refine lv_iconst (v := 0) hx hb dL_holds_27 (by decide) ?_
      refine lv_istore_n (lv' := [(3, .int 0), (2, .int 0), (1, .int 1), (0, .ref (ad 13))]) hx hb dL_holds_28 rfl hl (by decide) rfl (fun ls hl => ?_)
      have hl := (show lv_has ls 6 [(3, .int (nI 0)), (2, .int (shN XI XJ G 0)), (1, .int 1), (0, .ref (ad 13))] from (lv_sub hl [0, 1, 2, 3] rfl))
      exact L np 0 _ (by omega) hl
end ZH1
