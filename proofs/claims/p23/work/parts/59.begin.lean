/-! the law's branch that begins a policy -/
section ZB2
variable {D : va_G} {ks : Nat → ClassId} {ad : Nat → Nat} {np ng : Nat} {G : Nat → Nat} {MI : Nat → Nat → Int32} {MJ : Nat → Nat → Int64} {XI : Nat → Nat → Int32} {XJ : Nat → Nat → Int64} {Rs : List Nat}
variable {p : Program} {l : Launch} {e : Env} {R : Room} {s : State} {m : MethodId} {args : Array Value} {below : List Frame} {meth : Method} {c : Code} {H : Heap} {locs : List Loc} {cells slots : Nat} {Q : State → Prop} {ls : Array Slot}
set_option maxHeartbeats 4000000 in
set_option maxRecDepth 100000 in
theorem b_begin {b L n y : Nat} {xs : Nat → Int32} {v tu : Int32} (hF : lwF p l R s m args c D ks b L xs) (hI : zIn Rs np ng) (hall : zAll Rs np ng) (hD : zD (fun q => s.heap.size ≤ q) Rs ad) (hP : zP D Rs ad (gS ks ad np ng G MI MJ XI XJ) H) (hS : va_S (fun q => s.heap.size ≤ q) s.heap H locs) (hcs : cells + 4 ≤ R.cells ∧ slots + 13 ≤ R.slots) (hs : sI np ng G XI XJ y) (kk : lwC p l e R s m args below meth c D ks Q b n tu cells slots)  (hl : lv_has ls 13 [(6, .int (nI np)), (5, .int v), (4, .int (nI n)), (3, .int tu), (2, .int 1), (1, .ref (ad 13)), (0, .ref b)]) : W p l e R s m args below meth c H locs cells slots Q (F0 m 130 ls []) := by
  obtain ⟨⟨hx, hb, hml, hown, hT⟩, ⟨hK, hZ, hUn⟩, ⟨hXs, hbl, hL⟩, hst, hRf, hRl⟩ := hF
  have hD0 : zD (fun _ => True) Rs ad := hD.weak (fun _ _ => trivial)
  obtain ⟨⟨hc0, hc1⟩, hGG, hgle, hN⟩ := hs.gn
  have hG30 : ng ≤ 30 := Nat.le_trans hgle hN
  have hAo : ∀ q, zA Rs ad H.size q → s.heap.size ≤ q := hD.free (fun q hq => Nat.le_trans hS.1 hq)
  have hA : ∀ q : Nat, s.heap.size ≤ q → s.heap.size ≤ q := fun q h => h
  refine lv_aload_n hx hb dL_law_130 rfl (lv_at hl 5 rfl) ?_
  refine lv_iconst (v := 2) hx hb dL_law_131 (by decide) ?_
  refine lv_iload hx hb dL_law_132 (lv_at hl 1 rfl) ?_
  refine lv_iconst (v := 5) hx hb dL_law_134 (by decide) ?_
  refine lv_ishr hx hb dL_law_135 ?_
  refine lv_topi (fun v1 ev1 => ?_)
  clear ev1
  refine lv_iload hx hb dL_law_136 (lv_at hl 1 rfl) ?_
  refine lv_bipush (v := 17) hx hb dL_law_138 (by decide) ?_
  refine lv_ishr hx hb dL_law_140 ?_
  refine lv_topi (fun v2 ev2 => ?_)
  clear ev2
  refine lv_iconst (v := 2) hx hb dL_law_141 (by decide) ?_
  refine z_backR1 (z_runS ⟨hx, hb, hml, hown, hT⟩ (rest := [.int v1, .int 2, .ref (ad 13)]) (As := [.int v2, .int 2]) (c_L_low l v2 2 (by decide)) k_L_83 (z_preR hK trivial) rfl ⟨by omega, by omega⟩ hl.1 rfl (Nat.le_of_ble_eq_true rfl) dL_law_142 ⟨by omega, by omega⟩) ?_
  refine lv_topi (fun v3 ev3 => ?_)
  have hv3 : 0 ≤ v3.toInt ∧ v3.toInt < 2 := by rw [ev3]; exact low_b (by decide) (by decide)
  clear ev3
  have J : ∀ (n1 : Int32), (n1 = 19 ∨ n1 = 4) → W p l e R s m args below meth c H locs cells slots Q (F0 m 154 ls [.int n1, .int v1, .int 2, .ref (ad 13)]) := by
    intro n1 hn1
    refine z_backR1 (z_runS ⟨hx, hb, hml, hown, hT⟩ (rest := [.int 2, .ref (ad 13)]) (As := [.int v1, .int n1]) (c_L_low l v1 n1 (by rcases hn1 with rfl | rfl <;> decide)) k_L_83 (z_preR hK trivial) rfl ⟨by omega, by omega⟩ hl.1 rfl (Nat.le_of_ble_eq_true rfl) dL_law_154 ⟨by omega, by omega⟩) ?_
    refine lv_topi (fun v4 ev4 => ?_)
    have hv4 : 0 ≤ v4.toInt ∧ v4.toInt < 19 := by rw [ev4]; exact hn1.elim (fun q => by subst q; exact low_b (by decide) (by decide)) (fun q => by subst q; have h9 := low_b (v := v1) (n := 4) (N := 4) (by decide) (by decide); omega)
    clear ev4
    refine lv_iadd hx hb dL_law_157 ?_
    refine lv_topi (fun v5 ev5 => ?_)
    have hv5 : v5.toInt = 2 + v4.toInt := by rw [ev5, i_add (by rw [show (2 : Int32).toInt = 2 by decide]; omega) (by rw [show (2 : Int32).toInt = 2 by decide]; omega)]; rfl
    refine lv_iconst (v := 1) hx hb dL_law_158 (by decide) ?_
    refine lv_iload hx hb dL_law_159 (lv_at hl 1 rfl) ?_
    refine lv_sipush (v := 1000) hx hb dL_law_161 (by decide) ?_
    refine z_backR1 (z_runS ⟨hx, hb, hml, hown, hT⟩ (rest := [.int 1, .int v5, .ref (ad 13)]) (As := [.int v, .int 1000]) (c_L_low l v 1000 (by decide)) k_L_83 (z_preR hK trivial) rfl ⟨by omega, by omega⟩ hl.1 rfl (Nat.le_of_ble_eq_true rfl) dL_law_164 ⟨by omega, by omega⟩) ?_
    refine lv_topi (fun v6 ev6 => ?_)
    have hv6 : 0 ≤ v6.toInt ∧ v6.toInt < 1000 := by rw [ev6]; exact low_b (by decide) (by decide)
    clear ev6
    refine lv_iadd hx hb dL_law_167 ?_
    refine lv_topi (fun v7 ev7 => ?_)
    have hv7 : v7.toInt = 1 + v6.toInt := by rw [ev7, i_add (by rw [show (1 : Int32).toInt = 1 by decide]; omega) (by rw [show (1 : Int32).toInt = 1 by decide]; omega)]; rfl
    refine lv_iload hx hb dL_law_168 (lv_at hl 1 rfl) ?_
    refine lv_bipush (v := 7) hx hb dL_law_170 (by decide) ?_
    refine lv_ishr hx hb dL_law_172 ?_
    refine lv_topi (fun v8 ev8 => ?_)
    clear ev8
    refine lv_iload hx hb dL_law_173 (lv_at hl 1 rfl) ?_
    refine lv_bipush (v := 18) hx hb dL_law_175 (by decide) ?_
    refine lv_ishr hx hb dL_law_177 ?_
    refine lv_topi (fun v9 ev9 => ?_)
    clear ev9
    refine lv_iconst (v := 2) hx hb dL_law_178 (by decide) ?_
    refine z_backR1 (z_runS ⟨hx, hb, hml, hown, hT⟩ (rest := [.int v8, .int v7, .int v5, .ref (ad 13)]) (As := [.int v9, .int 2]) (c_L_low l v9 2 (by decide)) k_L_83 (z_preR hK trivial) rfl ⟨by omega, by omega⟩ hl.1 rfl (Nat.le_of_ble_eq_true rfl) dL_law_179 ⟨by omega, by omega⟩) ?_
    refine lv_topi (fun v10 ev10 => ?_)
    have hv10 : 0 ≤ v10.toInt ∧ v10.toInt < 2 := by rw [ev10]; exact low_b (by decide) (by decide)
    clear ev10
    have J2 : ∀ (n2 : Int32), (n2 = 100001 ∨ n2 = 2000) → W p l e R s m args below meth c H locs cells slots Q (F0 m 193 ls [.int n2, .int v8, .int v7, .int v5, .ref (ad 13)]) := by
      intro n2 hn2
      refine z_backR1 (z_runS ⟨hx, hb, hml, hown, hT⟩ (rest := [.int v7, .int v5, .ref (ad 13)]) (As := [.int v8, .int n2]) (c_L_low l v8 n2 (by rcases hn2 with rfl | rfl <;> decide)) k_L_83 (z_preR hK trivial) rfl ⟨by omega, by omega⟩ hl.1 rfl (Nat.le_of_ble_eq_true rfl) dL_law_193 ⟨by omega, by omega⟩) ?_
      refine lv_topi (fun v11 ev11 => ?_)
      have hv11 : 0 ≤ v11.toInt ∧ v11.toInt < 100001 := by rw [ev11]; exact hn2.elim (fun q => by subst q; exact low_b (by decide) (by decide)) (fun q => by subst q; have h9 := low_b (v := v8) (n := 2000) (N := 2000) (by decide) (by decide); omega)
      clear ev11
      have r0 : fIn v5 2 20 = 1 := fIn_of (a := 2) (b := 20) (by decide) (by decide) (by omega) (by omega)
      have r1 : fIn v7 1 1000 = 1 := fIn_of (a := 1) (b := 1000) (by decide) (by decide) (by omega) (by omega)
      have r2 : fIn v11 0 100000 = 1 := fIn_of (a := 0) (b := 100000) (by decide) (by decide) (by omega) (by omega)
      rcases Nat.lt_or_ge np 30 with hn30 | hn30
      · have FIN : ∀ (ng2 : Nat) (G2 : Nat → Nat) (X2 : Nat → Nat → Int32) (J2 : Nat → Nat → Int64) (H1 : Heap) (locs1 : List Loc) (c1 s1 : Nat), c1 ≤ cells + 4 → s1 ≤ slots + 13 → sI (np + 1) ng2 G2 X2 J2 y → X2 15 np = 0 → X2 11 (G2 np) = X2 10 2 → bW D ks ad Rs H.size (np + 1) ng2 G2 MI MJ X2 J2 H1 → va_S (fun q => s.heap.size ≤ q) s.heap H1 locs1 → W p l e R s m args below meth c H1 locs1 c1 s1 Q (F0 m 199 ls [.int (nI np)]) := by
          intro ng2 G2 X2 J2 H1 locs1 c1 s1 hcc hss hs2 h15 h11 hB hS
          obtain ⟨ad2, Rs2, hr2, hI2, hall2, hD2, hP⟩ := hB
          have hD2 : zD (fun q => s.heap.size ≤ q) Rs2 ad2 := hD2.weak hAo
          have q13 := (hr2 13 (hI.1 13 (by decide))).2
          have hl : lv_has ls 13 [(6, .int (nI np)), (5, .int v), (4, .int (nI n)), (3, .int tu), (2, .int 1), (1, .ref (ad2 13)), (0, .ref b)] := by rw [q13]; exact hl
          have hN : np + 1 ≤ 30 := hn30
          have hnn : np < np + 1 := Nat.lt_succ_self np
          have hGj := hs2.gn.2.1 np hnn
          refine lv_istore (lv' := [(9, .int (nI np)), (6, .int (nI np)), (5, .int v), (4, .int (nI n)), (3, .int tu), (2, .int 1), (1, .ref (ad2 13)), (0, .ref b)]) hx hb dL_law_199 hl (by decide) rfl (fun ls hl => ?_)
          refine lv_iload hx hb dL_law_201 (lv_at hl 0 rfl) ?_
          refine lv_bipush (v := (-3)) hx hb dL_law_203 (by decide) ?_
          refine lv_icmp_ne (tgt := 223) hx hb dL_law_205 (by decide) (fun c_12 => ?_) (fun c_12 => ?_)
          · refine lv_iload hx hb dL_law_223 (lv_at hl 0 rfl) ?_
            refine lv_iload hx hb dL_law_225 (lv_at hl 1 rfl) ?_
            refine lv_icmp_ne (tgt := 252) hx hb dL_law_227 (by decide) (fun c_13 => ?_) (fun c_13 => ?_)
            · exact absurd rfl c_13
            · refine lv_aload_n hx hb dL_law_230 rfl (lv_at hl 6 rfl) ?_
              refine lv_iload hx hb dL_law_231 (lv_at hl 0 rfl) ?_
              refine z_backR1 (z_runV ⟨hx, hb, hml, hown, hT⟩ (rest := []) (As := [.int (nI np)]) (c_X3_stateOf_ok (G := G2) (MI := MI) (MJ := MJ) (XI := X2) (XJ := J2) l hI2 np hnn hN) k_L_41 (z_preRV hK hP (hP.at (hI2.1 13 (by decide)) rfl) rfl) rfl ⟨by omega, by omega⟩ hl.1 rfl (Nat.le_of_ble_eq_true rfl) dL_law_233 ⟨by omega, by omega⟩) ?_
              refine lv_if_ne (tgt := 252) hx hb dL_law_236 (by decide) (fun c_14 => ?_) (fun c_14 => ?_)
              · exact absurd h15 c_14
              · refine lv_aload_n hx hb dL_law_239 rfl (lv_at hl 6 rfl) ?_
                refine lv_iload hx hb dL_law_240 (lv_at hl 0 rfl) ?_
                refine z_backR1 (z_runV ⟨hx, hb, hml, hown, hT⟩ (rest := []) (As := [.int (nI np)]) (c_X3_shareOf_ok (G := G2) (MI := MI) (MJ := MJ) (XI := X2) (XJ := J2) l hI2 np hnn hN hGj) k_L_44 (z_preRV hK hP (hP.at (hI2.1 13 (by decide)) rfl) rfl) rfl ⟨by omega, by omega⟩ hl.1 rfl (Nat.le_of_ble_eq_true rfl) dL_law_242 ⟨by omega, by omega⟩) ?_
                refine lv_if_ne (tgt := 252) hx hb dL_law_245 (by decide) (fun c_15 => ?_) (fun c_15 => ?_)
                · exact absurd (sh0_f hs2 hnn h15 h11) c_15
                · refine lv_iconst (v := 1) hx hb dL_law_248 (by decide) ?_
                  refine lv_goto (tgt := 253) hx hb dL_law_249 (by decide) ?_
                  refine lv_istore_n (lv' := [(2, .int 1), (9, .int (nI np)), (6, .int (nI np)), (5, .int v), (4, .int (nI n)), (3, .int tu), (1, .ref (ad2 13)), (0, .ref b)]) hx hb dL_law_253 rfl hl (by decide) rfl (fun ls hl => ?_)
                  refine lv_goto (tgt := 641) hx hb dL_law_254 (by decide) ?_
                  exact W.widen (by omega) (by omega) (kk ad2 Rs2 (np + 1) ng2 G2 MI MJ X2 J2 _ _ _ ls hI2 hall2 hD2 hP hS hs2 (lv_sub hl [4, 5, 0, 6, 7] rfl))
          · exact absurd c_12 (fun q => by have q2 := congrArg Int32.toInt q; rw [nI_toInt (by omega), show (-3 : Int32).toInt = -3 by decide] at q2; omega)
        rcases xF_spec (b := XI 11) (t := XI 12) (y := XI 10 2) (te := v5) ng 0 with ⟨i, -, hi, ⟨hk1, hk2⟩, hf⟩ | ⟨hf, hno⟩
        · have hi : i < ng := by omega
          obtain ⟨f1, f2, f3⟩ := old_f hs hn30 (te := v5) (pr := v7) (su := v11) (by omega) (by omega) (by omega) hi hk1 hk2
          exact z_backW1 (z_runY ⟨hx, hb, hml, hown, hT⟩ (rest := []) (As := [.ref (ad 13), .int v5, .int v7, .int v11]) (k := 4) (index := 87) (w_begin l hI H.size (c_X3_begin_old (D := D) (ks := ks) (G := G) (MI := MI) (MJ := MJ) (XI := XI) (XJ := XJ) l hD0 hI hall v5 v7 v11 hc0 hn30 hGG hG30 r0 r1 r2 i hi hf H.size)) cw_yL_begin ml_L_87 sm_yL_begin in_L ⟨by decide, by decide, by decide +kernel⟩ (z_preY hK hZ hUn hS hP) rfl ⟨by omega, by omega⟩ hl.1 rfl (Nat.le_of_ble_eq_true rfl) dL_law_196 ⟨by omega, by omega⟩) hS hAo (fun H1 locs1 hB hz hk2 hS1 => FIN _ _ _ _ H1 locs1 _ _ (by omega) (by omega) f1 f2 f3 hB hS1)
        · have hg30 : ng < 30 := Nat.lt_of_le_of_lt hgle hn30
          obtain ⟨f1, f2, f3⟩ := new_f hs hn30 (te := v5) (pr := v7) (su := v11) (by omega) (by omega) (by omega) hno
          exact z_backW1 (z_runY ⟨hx, hb, hml, hown, hT⟩ (rest := []) (As := [.ref (ad 13), .int v5, .int v7, .int v11]) (k := 4) (index := 87) (w_begin l hI H.size (c_X3_begin_new (D := D) (ks := ks) (G := G) (MI := MI) (MJ := MJ) (XI := XI) (XJ := XJ) l hD0 hI hall v5 v7 v11 hc0 hn30 hGG hG30 r0 r1 r2 hg30 hc1 hf H.size)) cw_yL_begin ml_L_87 sm_yL_begin in_L ⟨by decide, by decide, by decide +kernel⟩ (z_preY hK hZ hUn hS hP) rfl ⟨by omega, by omega⟩ hl.1 rfl (Nat.le_of_ble_eq_true rfl) dL_law_196 ⟨by omega, by omega⟩) hS hAo (fun H1 locs1 hB hz hk2 hS1 => FIN _ _ _ _ H1 locs1 _ _ (by omega) (by omega) f1 f2 f3 hB hS1)
      · have h30 : np = 30 := by omega
        refine z_backW1 (z_runY ⟨hx, hb, hml, hown, hT⟩ (rest := []) (As := [.ref (ad 13), .int v5, .int v7, .int v11]) (k := 4) (index := 87) (w_begin_x l hI (c_X3_begin_full (D := D) (ks := ks) (G := G) (MI := MI) (MJ := MJ) (XI := XI) (XJ := XJ) l hst hI v5 v7 v11 (by rw [hc0, h30]; rfl) r0 r1 r2) H.size) cw_yL_begin ml_L_87 sm_yL_begin in_L ⟨by decide, by decide, by decide +kernel⟩ (z_preY hK hZ hUn hS hP) rfl ⟨by omega, by omega⟩ hl.1 rfl (Nat.le_of_ble_eq_true rfl) dL_law_196 ⟨by omega, by omega⟩) hS (hD.free (fun q hq => Nat.le_trans hS.1 hq)) (fun H locs hP hz hk2 hS => ?_)
        refine lv_istore (lv' := [(9, .int (-3)), (6, .int (nI np)), (5, .int v), (4, .int (nI n)), (3, .int tu), (2, .int 1), (1, .ref (ad 13)), (0, .ref b)]) hx hb dL_law_199 hl (by decide) rfl (fun ls hl => ?_)
        refine lv_iload hx hb dL_law_201 (lv_at hl 0 rfl) ?_
        refine lv_bipush (v := (-3)) hx hb dL_law_203 (by decide) ?_
        refine lv_icmp_ne (tgt := 223) hx hb dL_law_205 (by decide) (fun c_16 => ?_) (fun c_16 => ?_)
        · exact absurd c_16 (by decide)
        · refine lv_iload hx hb dL_law_208 (lv_at hl 1 rfl) ?_
          refine lv_bipush (v := 30) hx hb dL_law_210 (by decide) ?_
          refine lv_icmp_ne (tgt := 219) hx hb dL_law_212 (by decide) (fun c_17 => ?_) (fun c_17 => ?_)
          · exact absurd (show nI np = 30 by rw [h30]; rfl) c_17
          · refine lv_iconst (v := 1) hx hb dL_law_215 (by decide) ?_
            refine lv_goto (tgt := 253) hx hb dL_law_216 (by decide) ?_
            refine lv_istore_n (lv' := [(2, .int 1), (9, .int (-3)), (6, .int (nI np)), (5, .int v), (4, .int (nI n)), (3, .int tu), (1, .ref (ad 13)), (0, .ref b)]) hx hb dL_law_253 rfl hl (by decide) rfl (fun ls hl => ?_)
            refine lv_goto (tgt := 641) hx hb dL_law_254 (by decide) ?_
            exact W.widen (by omega) (by omega) (kk ad Rs np ng G MI MJ XI XJ _ H locs ls hI hall hD hP hS hs (lv_sub hl [4, 5, 0, 6, 7] rfl))
    refine lv_if_ne (tgt := 190) hx hb dL_law_182 (by decide) (fun c_18 => ?_) (fun c_18 => ?_)
    · refine lv_sipush (v := 2000) hx hb dL_law_190 (by decide) ?_
      exact J2 _ (Or.inr rfl)
    · refine lv_ldc (v := 100001) hx hb hown (hT _ ki_L_86) dL_law_185 ?_
      refine lv_goto (tgt := 193) hx hb dL_law_187 (by decide) ?_
      exact J2 _ (Or.inl rfl)
  refine lv_if_ne (tgt := 153) hx hb dL_law_145 (by decide) (fun c_19 => ?_) (fun c_19 => ?_)
  · refine lv_iconst (v := 4) hx hb dL_law_153 (by decide) ?_
    exact J _ (Or.inr rfl)
  · refine lv_bipush (v := 19) hx hb dL_law_148 (by decide) ?_
    refine lv_goto (tgt := 154) hx hb dL_law_150 (by decide) ?_
    exact J _ (Or.inl rfl)
end ZB2
