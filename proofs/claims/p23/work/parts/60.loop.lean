/-! the law's loop -/
section ZLE
variable {D : va_G} {ks : Nat → ClassId} {p : Program} {l : Launch} {e : Env} {s : State} {m : MethodId} {below : List Frame} {meth : Method} {c : Code}
set_option maxHeartbeats 4000000 in
set_option maxRecDepth 100000 in
theorem law_loop {b L T : Nat} {xs : Nat → Int32} (hF : lwF p l room_1 s m #[.ref b] c D ks b L xs) (hret : meth.sig.returnType = ret) (hlk : meth.locks = false) (hT60 : T ≤ 60) : ∀ (d n : Nat) (ad : Nat → Nat) (Rs : List Nat) (np ng : Nat) (G : Nat → Nat) (MI : Nat → Nat → Int32) (MJ : Nat → Nat → Int64) (XI : Nat → Nat → Int32) (XJ : Nat → Nat → Int64) (y : Nat) (H : Heap) (locs : List Loc) (ls : Array Slot) (cells slots : Nat), n + d = T → zIn Rs np ng → zAll Rs np ng → zD (fun q => s.heap.size ≤ q) Rs ad → zP D Rs ad (gS ks ad np ng G MI MJ XI XJ) H → va_S (fun q => s.heap.size ≤ q) s.heap H locs → sI np ng G XI XJ y → lv_has ls 13 (lwL ad b n (nI T)) → cells + 4 * d ≤ 659795 → slots + 13 * d ≤ 7122083 →
    W p l e room_1 s m #[.ref b] below meth c H locs cells slots (lw_Z below #[.ref b] s) (F0 m 61 ls []) := by
  have hF0 := hF
  obtain ⟨⟨hx, hb, hml, hown, hT⟩, ⟨hK, hZ, hUn⟩, ⟨hXs, hbl, hL⟩, hst, hRf, hRl⟩ := hF0
  intro d
  induction d with
  | zero =>
    intro n ad Rs np ng G MI MJ XI XJ y H locs ls cells slots hd hI hall hD hP hS hs hl hc hsl
    have hd : n = T := by omega
    subst hd
    have hl : lv_has ls 13 [(4, .int (nI n)), (3, .int (nI n)), (2, .int 1), (1, .ref (ad 13)), (0, .ref b)] := hl
    have hcs : cells ≤ room_1.cells ∧ slots ≤ room_1.slots := ⟨by show cells ≤ 659795; omega, by show slots ≤ 7122083; omega⟩
    refine lv_iload hx hb dL_law_61 (lv_at hl 0 rfl) ?_
    refine lv_iload_n hx hb dL_law_63 rfl (lv_at hl 1 rfl) ?_
    refine lv_icmp_ge (tgt := 679) hx hb dL_law_64 (by decide) (fun c_1 => ?_) (fun c_1 => ?_)
    · refine lv_iload_n hx hb dL_law_679 rfl (lv_at hl 2 rfl) ?_
      refine lv_if_eq (tgt := 694) hx hb dL_law_680 (by decide) (fun c_2 => ?_) (fun c_2 => ?_)
      · exact absurd c_2 (by decide)
      · refine lv_aload_n hx hb dL_law_683 rfl (lv_at hl 3 rfl) ?_
        refine z_backR1 (z_runS ⟨hx, hb, hml, hown, hT⟩ (rest := []) (As := [.ref (ad 13)]) (c_L_generations (G := G) (MI := MI) (MJ := MJ) (XI := XI) (XJ := XJ) l hI hs) k_L_70 (z_preR hK hP) rfl ⟨by omega, by omega⟩ hl.1 rfl (Nat.le_of_ble_eq_true rfl) dL_law_684 ⟨by omega, by omega⟩) ?_
        refine lv_if_eq (tgt := 694) hx hb dL_law_687 (by decide) (fun c_3 => ?_) (fun c_3 => ?_)
        · exact absurd c_3 (by decide)
        · refine lv_iconst (v := 1) hx hb dL_law_690 (by decide) ?_
          refine lv_goto (tgt := 695) hx hb dL_law_691 (by decide) ?_
          exact W.widen (by omega) (by omega) (W.forget (locs := []) (L := locs) (fun z hz => hS.2.2 z hz) (lw_ret hx hb hret hlk dL_law_695))
    · exact absurd (nI_le (a := n) (b := n) (Nat.le_refl _) (by omega)) c_1
  | succ d ih =>
    intro n ad Rs np ng G MI MJ XI XJ y H locs ls cells slots hd hI hall hD hP hS hs hl hc hsl
    have hl : lv_has ls 13 [(4, .int (nI n)), (3, .int (nI T)), (2, .int 1), (1, .ref (ad 13)), (0, .ref b)] := hl
    obtain ⟨⟨hc0, hc1⟩, hGG, hgle, hN⟩ := hs.gn
    have hcs : cells + 4 ≤ room_1.cells ∧ slots + 13 ≤ room_1.slots := ⟨by show cells + 4 ≤ 659795; omega, by show slots + 13 ≤ 7122083; omega⟩
    have KK : lwC p l e room_1 s m #[.ref b] below meth c D ks (lw_Z below #[.ref b] s) b n (nI T) cells slots := by
      intro ad Rs np ng G MI MJ XI XJ y H locs ls hI hall hD hP hS hs hl
      have hl : lv_has ls 13 [(4, .int (nI n)), (3, .int (nI T)), (2, .int 1), (1, .ref (ad 13)), (0, .ref b)] := hl
      refine lv_iload_n hx hb dL_law_641 rfl (lv_at hl 2 rfl) ?_
      refine lv_if_eq (tgt := 671) hx hb dL_law_642 (by decide) (fun c_1 => ?_) (fun c_1 => ?_)
      · exact absurd c_1 (by decide)
      · refine lv_aload_n hx hb dL_law_645 rfl (lv_at hl 3 rfl) ?_
        refine z_backR1 (z_runS ⟨hx, hb, hml, hown, hT⟩ (rest := []) (As := [.ref (ad 13)]) (c_L_holds (G := G) (MI := MI) (MJ := MJ) (XI := XI) (XJ := XJ) l hI hs) k_L_64 (z_preR hK hP) rfl ⟨by omega, by omega⟩ hl.1 rfl (Nat.le_of_ble_eq_true rfl) dL_law_646 ⟨by omega, by omega⟩) ?_
        refine lv_if_eq (tgt := 671) hx hb dL_law_649 (by decide) (fun c_2 => ?_) (fun c_2 => ?_)
        · exact absurd c_2 (by decide)
        · refine lv_iload hx hb dL_law_652 (lv_at hl 0 rfl) ?_
          refine lv_bipush (v := 6) hx hb dL_law_654 (by decide) ?_
          refine lv_irem hx hb dL_law_656 (by decide) ?_
          refine lv_topi (fun v3 ev3 => ?_)
          clear ev3
          refine lv_if_gt (tgt := 667) hx hb dL_law_657 (by decide) (fun c_4 => ?_) (fun c_4 => ?_)
          · refine lv_iconst (v := 1) hx hb dL_law_667 (by decide) ?_
            refine lv_goto (tgt := 672) hx hb dL_law_668 (by decide) ?_
            refine lv_istore_n (lv' := [(2, .int 1), (4, .int (nI n)), (3, .int (nI T)), (1, .ref (ad 13)), (0, .ref b)]) hx hb dL_law_672 rfl hl (by decide) rfl (fun ls hl => ?_)
            refine lv_iinc (v := nI (n + 1)) (lv' := [(4, .int (nI (n + 1))), (2, .int 1), (3, .int (nI T)), (1, .ref (ad 13)), (0, .ref b)]) hx hb dL_law_673 hl (k := 1) rfl (nI_1 n) (by decide) rfl (fun ls hl => ?_)
            refine lv_goto (tgt := 61) hx hb dL_law_676 (by decide) ?_
            exact ih (n + 1) ad Rs np ng G MI MJ XI XJ y H locs _ _ _ (by omega) hI hall hD hP hS hs (lv_sub hl [0, 2, 1, 3, 4] rfl) (by omega) (by omega)
          · refine lv_aload_n hx hb dL_law_660 rfl (lv_at hl 3 rfl) ?_
            refine z_backR1 (z_runS ⟨hx, hb, hml, hown, hT⟩ (rest := []) (As := [.ref (ad 13)]) (c_L_generations (G := G) (MI := MI) (MJ := MJ) (XI := XI) (XJ := XJ) l hI hs) k_L_70 (z_preR hK hP) rfl ⟨by omega, by omega⟩ hl.1 rfl (Nat.le_of_ble_eq_true rfl) dL_law_661 ⟨by omega, by omega⟩) ?_
            refine lv_if_eq (tgt := 671) hx hb dL_law_664 (by decide) (fun c_5 => ?_) (fun c_5 => ?_)
            · exact absurd c_5 (by decide)
            · refine lv_iconst (v := 1) hx hb dL_law_667 (by decide) ?_
              refine lv_goto (tgt := 672) hx hb dL_law_668 (by decide) ?_
              refine lv_istore_n (lv' := [(2, .int 1), (4, .int (nI n)), (3, .int (nI T)), (1, .ref (ad 13)), (0, .ref b)]) hx hb dL_law_672 rfl hl (by decide) rfl (fun ls hl => ?_)
              refine lv_iinc (v := nI (n + 1)) (lv' := [(4, .int (nI (n + 1))), (2, .int 1), (3, .int (nI T)), (1, .ref (ad 13)), (0, .ref b)]) hx hb dL_law_673 hl (k := 1) rfl (nI_1 n) (by decide) rfl (fun ls hl => ?_)
              refine lv_goto (tgt := 61) hx hb dL_law_676 (by decide) ?_
              exact ih (n + 1) ad Rs np ng G MI MJ XI XJ y H locs _ _ _ (by omega) hI hall hD hP hS hs (lv_sub hl [0, 2, 1, 3, 4] rfl) (by omega) (by omega)
    refine lv_iload hx hb dL_law_61 (lv_at hl 0 rfl) ?_
    refine lv_iload_n hx hb dL_law_63 rfl (lv_at hl 1 rfl) ?_
    refine lv_icmp_ge (tgt := 679) hx hb dL_law_64 (by decide) (fun c_1 => ?_) (fun c_1 => ?_)
    · exact absurd c_1 (nI_ge (a := n) (b := T) (by omega) (by omega))
    · refine lv_iload_n hx hb dL_law_67 rfl (lv_at hl 2 rfl) ?_
      refine lv_if_eq (tgt := 679) hx hb dL_law_68 (by decide) (fun c_2 => ?_) (fun c_2 => ?_)
      · exact absurd c_2 (by decide)
      · refine lv_aload_n hx hb dL_law_71 rfl (lv_at hl 4 rfl) ?_
        refine lv_iconst (v := 1) hx hb dL_law_72 (by decide) ?_
        refine lv_iload hx hb dL_law_73 (lv_at hl 0 rfl) ?_
        refine lv_iadd hx hb dL_law_75 ?_
        rw [show (1 : Int32) + nI n = nI (n + 1) from by rw [Int32.add_comm]; exact nI_1 n]
        refine z_backR1 (z_runS ⟨hx, hb, hml, hown, hT⟩ (rest := []) (As := [.ref b, .int (nI (n + 1))]) (c_L_cell l b L xs (n + 1) (by omega) (by omega)) k_L_79 (z_preC hXs hbl hS) rfl ⟨by omega, by omega⟩ hl.1 rfl (Nat.le_of_ble_eq_true rfl) dL_law_76 ⟨by omega, by omega⟩) ?_
        refine lv_topi (fun v3 ev3 => ?_)
        clear ev3
        refine lv_istore (lv' := [(5, .int v3), (4, .int (nI n)), (3, .int (nI T)), (2, .int 1), (1, .ref (ad 13)), (0, .ref b)]) hx hb dL_law_79 hl (by decide) rfl (fun ls hl => ?_)
        refine lv_aload_n hx hb dL_law_81 rfl (lv_at hl 4 rfl) ?_
        refine z_backR1 (z_runV ⟨hx, hb, hml, hown, hT⟩ (rest := []) (As := []) (c_X3_policies (G := G) (MI := MI) (MJ := MJ) (XI := XI) (XJ := XJ) l hI ) k_L_38 (z_preRV hK hP (hP.at (hI.1 13 (by decide)) rfl) rfl) rfl ⟨by omega, by omega⟩ hl.1 rfl (Nat.le_of_ble_eq_true rfl) dL_law_82 ⟨by omega, by omega⟩) ?_
        rw [hc0]
        refine lv_istore (lv' := [(6, .int (nI np)), (5, .int v3), (4, .int (nI n)), (3, .int (nI T)), (2, .int 1), (1, .ref (ad 13)), (0, .ref b)]) hx hb dL_law_85 hl (by decide) rfl (fun ls hl => ?_)
        refine lv_iload hx hb dL_law_87 (lv_at hl 0 rfl) ?_
        refine lv_if_ne (tgt := 96) hx hb dL_law_89 (by decide) (fun c_4 => ?_) (fun c_4 => ?_)
        · refine lv_iload hx hb dL_law_96 (lv_at hl 1 rfl) ?_
          refine lv_iconst (v := 3) hx hb dL_law_98 (by decide) ?_
          refine lv_ishr hx hb dL_law_99 ?_
          refine lv_topi (fun v5 ev5 => ?_)
          clear ev5
          refine lv_iload hx hb dL_law_100 (lv_at hl 0 rfl) ?_
          have hnp0 : 0 < np := Nat.pos_of_ne_zero (fun q => c_4 (by rw [q]; rfl))
          refine z_backR1 (z_runS ⟨hx, hb, hml, hown, hT⟩ (rest := []) (As := [.int v5, .int (nI np)]) (c_L_low l v5 (nI np) (c_4)) k_L_83 (z_preR hK trivial) rfl ⟨by omega, by omega⟩ hl.1 rfl (Nat.le_of_ble_eq_true rfl) dL_law_102 ⟨by omega, by omega⟩) ?_
          refine lv_topi (fun v6 ev6 => ?_)
          have hv6 : 0 ≤ v6.toInt ∧ v6.toInt < (np : Int) := by rw [ev6]; exact low_b (nI_toInt (by omega)) (by omega)
          clear ev6
          obtain ⟨j, hj, ej⟩ : ∃ j : Nat, j < np ∧ v6 = nI j := ⟨v6.toInt.toNat, by omega, by apply Int32.toInt_inj.mp; rw [nI_toInt (by omega)]; omega⟩
          subst ej
          refine lv_istore (lv' := [(7, .int (nI j)), (6, .int (nI np)), (5, .int v3), (4, .int (nI n)), (3, .int (nI T)), (2, .int 1), (1, .ref (ad 13)), (0, .ref b)]) hx hb dL_law_105 hl (by decide) rfl (fun ls hl => ?_)
          refine lv_iload hx hb dL_law_107 (lv_at hl 2 rfl) ?_
          refine lv_bipush (v := 20) hx hb dL_law_109 (by decide) ?_
          refine lv_ishr hx hb dL_law_111 ?_
          refine lv_topi (fun v7 ev7 => ?_)
          clear ev7
          refine lv_bipush (v := 14) hx hb dL_law_112 (by decide) ?_
          refine z_backR1 (z_runS ⟨hx, hb, hml, hown, hT⟩ (rest := []) (As := [.int v7, .int 14]) (c_L_low l v7 14 (by decide)) k_L_83 (z_preR hK trivial) rfl ⟨by omega, by omega⟩ hl.1 rfl (Nat.le_of_ble_eq_true rfl) dL_law_114 ⟨by omega, by omega⟩) ?_
          refine lv_topi (fun v8 ev8 => ?_)
          have hv8 : 0 ≤ v8.toInt ∧ v8.toInt < 14 := by rw [ev8]; exact low_b (by decide) (by decide)
          clear ev8
          refine lv_istore (lv' := [(8, .int v8), (7, .int (nI j)), (6, .int (nI np)), (5, .int v3), (4, .int (nI n)), (3, .int (nI T)), (2, .int 1), (1, .ref (ad 13)), (0, .ref b)]) hx hb dL_law_117 hl (by decide) rfl (fun ls hl => ?_)
          refine lv_iload hx hb dL_law_119 (lv_at hl 2 rfl) ?_
          refine lv_if_eq (tgt := 130) hx hb dL_law_121 (by decide) (fun c_9 => ?_) (fun c_9 => ?_)
          · exact absurd c_9 c_4
          · refine lv_iload hx hb dL_law_124 (lv_at hl 0 rfl) ?_
            refine lv_iconst (v := 4) hx hb dL_law_126 (by decide) ?_
            refine lv_icmp_ge (tgt := 257) hx hb dL_law_127 (by decide) (fun c_10 => ?_) (fun c_10 => ?_)
            · refine lv_iload hx hb dL_law_257 (lv_at hl 0 rfl) ?_
              refine lv_iconst (v := 5) hx hb dL_law_259 (by decide) ?_
              refine lv_icmp_ge (tgt := 348) hx hb dL_law_260 (by decide) (fun c_11 => ?_) (fun c_11 => ?_)
              · refine lv_iload hx hb dL_law_348 (lv_at hl 0 rfl) ?_
                refine lv_bipush (v := 6) hx hb dL_law_350 (by decide) ?_
                refine lv_icmp_ge (tgt := 412) hx hb dL_law_352 (by decide) (fun c_12 => ?_) (fun c_12 => ?_)
                · refine lv_iload hx hb dL_law_412 (lv_at hl 0 rfl) ?_
                  refine lv_bipush (v := 7) hx hb dL_law_414 (by decide) ?_
                  refine lv_icmp_ge (tgt := 502) hx hb dL_law_416 (by decide) (fun c_13 => ?_) (fun c_13 => ?_)
                  · refine lv_iload hx hb dL_law_502 (lv_at hl 0 rfl) ?_
                    refine lv_bipush (v := 8) hx hb dL_law_504 (by decide) ?_
                    refine lv_icmp_ge (tgt := 566) hx hb dL_law_506 (by decide) (fun c_14 => ?_) (fun c_14 => ?_)
                    · exact b_run hF hI hall hD hP hS hcs hs KK (lv_sub hl [1, 2, 3, 4, 5, 6, 7, 8] rfl)
                    · exact b_endow hF hI hall hD hP hS hcs hs KK (lv_sub hl [1, 2, 3, 4, 5, 6, 7, 8] rfl)
                  · exact b_scale hF hI hall hD hP hS hcs hs KK (lv_sub hl [1, 2, 3, 4, 5, 6, 7, 8] rfl)
                · exact b_rates hF hI hall hD hP hS hcs hs KK (lv_sub hl [1, 2, 3, 4, 5, 6, 7, 8] rfl)
              · exact b_surr hF hI hall hD hP hS hcs hs KK hj (lv_sub hl [1, 2, 3, 4, 5, 6, 7, 8] rfl)
            · exact b_begin hF hI hall hD hP hS hcs hs KK (lv_sub hl [2, 3, 4, 5, 6, 7, 8] rfl)
        · refine lv_iconst (v := 0) hx hb dL_law_92 (by decide) ?_
          refine lv_goto (tgt := 105) hx hb dL_law_93 (by decide) ?_
          refine lv_istore (lv' := [(7, .int 0), (6, .int (nI np)), (5, .int v3), (4, .int (nI n)), (3, .int (nI T)), (2, .int 1), (1, .ref (ad 13)), (0, .ref b)]) hx hb dL_law_105 hl (by decide) rfl (fun ls hl => ?_)
          refine lv_iload hx hb dL_law_107 (lv_at hl 2 rfl) ?_
          refine lv_bipush (v := 20) hx hb dL_law_109 (by decide) ?_
          refine lv_ishr hx hb dL_law_111 ?_
          refine lv_topi (fun v15 ev15 => ?_)
          clear ev15
          refine lv_bipush (v := 14) hx hb dL_law_112 (by decide) ?_
          refine z_backR1 (z_runS ⟨hx, hb, hml, hown, hT⟩ (rest := []) (As := [.int v15, .int 14]) (c_L_low l v15 14 (by decide)) k_L_83 (z_preR hK trivial) rfl ⟨by omega, by omega⟩ hl.1 rfl (Nat.le_of_ble_eq_true rfl) dL_law_114 ⟨by omega, by omega⟩) ?_
          refine lv_topi (fun v16 ev16 => ?_)
          have hv16 : 0 ≤ v16.toInt ∧ v16.toInt < 14 := by rw [ev16]; exact low_b (by decide) (by decide)
          clear ev16
          refine lv_istore (lv' := [(8, .int v16), (7, .int 0), (6, .int (nI np)), (5, .int v3), (4, .int (nI n)), (3, .int (nI T)), (2, .int 1), (1, .ref (ad 13)), (0, .ref b)]) hx hb dL_law_117 hl (by decide) rfl (fun ls hl => ?_)
          refine lv_iload hx hb dL_law_119 (lv_at hl 2 rfl) ?_
          refine lv_if_eq (tgt := 130) hx hb dL_law_121 (by decide) (fun c_17 => ?_) (fun c_17 => ?_)
          · exact b_begin hF hI hall hD hP hS hcs hs KK (lv_sub hl [2, 3, 4, 5, 6, 7, 8] rfl)
          · exact absurd c_4 c_17
end ZLE
