/-! the law: one call after another -/
section ZLB
variable {D : va_G} {ks : Nat → ClassId} {ad : Nat → Nat} {np ng : Nat} {G : Nat → Nat} {MI : Nat → Nat → Int32} {MJ : Nat → Nat → Int64} {XI : Nat → Nat → Int32} {XJ : Nat → Nat → Int64} {Rs : List Nat}
variable {p : Program} {l : Launch} {e : Env} {R : Room} {s : State} {m : MethodId} {args : Array Value} {below : List Frame} {meth : Method} {c : Code} {H : Heap} {locs : List Loc} {cells slots : Nat} {Q : State → Prop} {ls : Array Slot}
theorem lg_cmp_self (x : Int64) : lg_cmp x x = 0 := by simp [lg_cmp, Int64.lt_irrefl]
/-- what the law's walk has all along -/
def lwF (p : Program) (l : Launch) (R : Room) (s : State) (m : MethodId) (args : Array Value) (c : Code) (D : va_G) (ks : Nat → ClassId) (b L : Nat) (xs : Nat → Int32) : Prop :=
  zFx p m c cL_law 8 s args RL ∧ (zK D ks s ∧ zZ s ∧ zUn (fun q => s.heap.size ≤ q) s s.heap) ∧ (va_X b L xs s s.heap ∧ b < s.heap.size ∧ L ≤ 2048) ∧ l.stackTraces = false ∧ 11 ≤ R.frames ∧ 388 ≤ R.locals
def lwL (ad : Nat → Nat) (b n : Nat) : List (Nat × Value) := [(4, .int (nI (4 * n))), (0, .ref b), (1, .ref (ad 13)), (2, .ref (ad 0)), (3, .ref (ad 12))]
set_option maxHeartbeats 4000000 in
set_option maxRecDepth 100000 in
theorem q_begin {b L n : Nat} {xs : Nat → Int32} (hF : lwF p l R s m args c D ks b L xs) (hI : zIn Rs np ng) (hD : zD (fun q => s.heap.size ≤ q) Rs ad) (hP : zP D Rs ad (gS ks ad np ng G MI MJ XI XJ) H) (hS : va_S (fun q => s.heap.size ≤ q) s.heap H locs) (hn : 4 * n + 4 ≤ L) (hl : lv_has ls 8 (lwL ad b n)) (hcs : cells + 4 ≤ R.cells ∧ slots + 13 ≤ R.slots) {k : Int32} {bv : Int32} {MI1 MI2 XI1 : Nat → Nat → Int32} {MJ1 MJ2 XJ1 : Nat → Nat → Int64} {frW loW mcW msW frM loM : Nat} (hW : zMY l yL_begin cL_begin 6 [(0, 12, 15, 13), (0, 12, 19, 15)] frW loW mcW msW D ks H.size [.ref (ad 13), .int (xs (4 * n + 1)), .int (xs (4 * n + 2)), .int (xs (4 * n + 3)), .ref (ad 12)] (zP D Rs ad (gS ks ad np ng G MI MJ XI XJ)) k (zP D Rs ad (gS ks ad np ng G MI1 MJ1 XI1 XJ1)) (zA Rs ad H.size)) (hM : ∀ sz, zMW l yX4_begin cX4_begin 4 (some .int) frM loM 0 0 D ks sz [.ref (ad 0), .int (xs (4 * n + 1)), .int (xs (4 * n + 2)), .int (xs (4 * n + 3))] (zP D Rs ad (gS ks ad np ng G MI1 MJ1 XI1 XJ1)) (some (.int bv)) (zP D Rs ad (gS ks ad np ng G MI2 MJ2 XI1 XJ1)) (zA Rs ad sz)) (hth : MI2 0 7 = k) (hout : k = 0 → MJ2 3 0 = Int32.toInt64 bv) (hr : frW + 1 ≤ 11 ∧ 8 + (6 + 11) + loW ≤ 388 ∧ mcW ≤ 4 ∧ msW ≤ 13 ∧ frM + 1 ≤ 11 ∧ 8 + (4 + 11) + loM ≤ 388)
    (kk : ∀ (H : Heap) (locs : List Loc) (ls : Array Slot), zP D Rs ad (gS ks ad np ng G MI2 MJ2 XI1 XJ1) H → va_S (fun q => s.heap.size ≤ q) s.heap H locs → lv_has ls 8 (lwL ad b n) → W p l e R s m args below meth c H locs (cells + 4) (slots + 13) Q (F0 m 1068 ls [])) : W p l e R s m args below meth c H locs cells slots Q (F0 m 132 ls []) := by
  obtain ⟨⟨hx, hb, hml, hown, hT⟩, ⟨hK, hZ, hUn⟩, ⟨hXs, hbl, hL⟩, hst, hRf, hRl⟩ := hF
  have hl : lv_has ls 8 [(4, .int (nI (4 * n))), (0, .ref b), (1, .ref (ad 13)), (2, .ref (ad 0)), (3, .ref (ad 12))] := hl
  have hAo : ∀ q, zA Rs ad H.size q → s.heap.size ≤ q := hD.free (fun q hq => Nat.le_trans hS.1 hq)
  refine lv_aload_n hx hb dL_law_132 rfl (lv_at hl 2 rfl) ?_
  refine lv_aload_n hx hb dL_law_133 rfl (lv_at hl 1 rfl) ?_
  refine lv_iload hx hb dL_law_134 (lv_at hl 0 rfl) ?_
  refine lv_iconst (v := nI 1) hx hb dL_law_136 (by decide) ?_
  refine lv_iadd hx hb dL_law_137 ?_
  rw [nI_add]
  refine va_sld hx hb hXs hbl (fun q => absurd q (Nat.not_le.mpr hbl)) hS (vp_in_nI (show 4 * n + 1 < L by omega) (by omega)) dL_law_138 ?_
  rw [nI_clamp (show 4 * n + 1 < 2 ^ 31 by omega)]
  refine lv_aload_n hx hb dL_law_139 rfl (lv_at hl 1 rfl) ?_
  refine lv_iload hx hb dL_law_140 (lv_at hl 0 rfl) ?_
  refine lv_iconst (v := nI 2) hx hb dL_law_142 (by decide) ?_
  refine lv_iadd hx hb dL_law_143 ?_
  rw [nI_add]
  refine va_sld hx hb hXs hbl (fun q => absurd q (Nat.not_le.mpr hbl)) hS (vp_in_nI (show 4 * n + 2 < L by omega) (by omega)) dL_law_144 ?_
  rw [nI_clamp (show 4 * n + 2 < 2 ^ 31 by omega)]
  refine lv_aload_n hx hb dL_law_145 rfl (lv_at hl 1 rfl) ?_
  refine lv_iload hx hb dL_law_146 (lv_at hl 0 rfl) ?_
  refine lv_iconst (v := nI 3) hx hb dL_law_148 (by decide) ?_
  refine lv_iadd hx hb dL_law_149 ?_
  rw [nI_add]
  refine va_sld hx hb hXs hbl (fun q => absurd q (Nat.not_le.mpr hbl)) hS (vp_in_nI (show 4 * n + 3 < L by omega) (by omega)) dL_law_150 ?_
  rw [nI_clamp (show 4 * n + 3 < 2 ^ 31 by omega)]
  refine lv_aload_n hx hb dL_law_151 rfl (lv_at hl 4 rfl) ?_
  refine z_backW1 (z_runY ⟨hx, hb, hml, hown, hT⟩ (rest := []) (As := [.ref (ad 13), .int (xs (4 * n + 1)), .int (xs (4 * n + 2)), .int (xs (4 * n + 3)), .ref (ad 12)]) (k := 5) (index := 65) hW cw_yL_begin ml_L_65 sm_yL_begin in_L ⟨by decide, by decide, by decide +kernel⟩ (z_preY hK hZ hUn hS hP) rfl ⟨by omega, by omega⟩ hl.1 rfl (Nat.le_of_ble_eq_true rfl) dL_law_152 ⟨by omega, by omega⟩) hS hAo (fun H locs hP hz hk2 hS => ?_)
  refine lv_istore (lv' := [(5, .int k), (4, .int (nI (4 * n))), (0, .ref b), (1, .ref (ad 13)), (2, .ref (ad 0)), (3, .ref (ad 12))]) hx hb dL_law_155 hl (by decide) rfl (fun ls hl => ?_)
  refine lv_aload_n hx hb dL_law_157 rfl (lv_at hl 4 rfl) ?_
  refine lv_aload_n hx hb dL_law_158 rfl (lv_at hl 2 rfl) ?_
  refine lv_iload hx hb dL_law_159 (lv_at hl 1 rfl) ?_
  refine lv_iconst (v := nI 1) hx hb dL_law_161 (by decide) ?_
  refine lv_iadd hx hb dL_law_162 ?_
  rw [nI_add]
  refine va_sld hx hb hXs hbl (fun q => absurd q (Nat.not_le.mpr hbl)) hS (vp_in_nI (show 4 * n + 1 < L by omega) (by omega)) dL_law_163 ?_
  rw [nI_clamp (show 4 * n + 1 < 2 ^ 31 by omega)]
  refine lv_aload_n hx hb dL_law_164 rfl (lv_at hl 2 rfl) ?_
  refine lv_iload hx hb dL_law_165 (lv_at hl 1 rfl) ?_
  refine lv_iconst (v := nI 2) hx hb dL_law_167 (by decide) ?_
  refine lv_iadd hx hb dL_law_168 ?_
  rw [nI_add]
  refine va_sld hx hb hXs hbl (fun q => absurd q (Nat.not_le.mpr hbl)) hS (vp_in_nI (show 4 * n + 2 < L by omega) (by omega)) dL_law_169 ?_
  rw [nI_clamp (show 4 * n + 2 < 2 ^ 31 by omega)]
  refine lv_aload_n hx hb dL_law_170 rfl (lv_at hl 2 rfl) ?_
  refine lv_iload hx hb dL_law_171 (lv_at hl 1 rfl) ?_
  refine lv_iconst (v := nI 3) hx hb dL_law_173 (by decide) ?_
  refine lv_iadd hx hb dL_law_174 ?_
  rw [nI_add]
  refine va_sld hx hb hXs hbl (fun q => absurd q (Nat.not_le.mpr hbl)) hS (vp_in_nI (show 4 * n + 3 < L by omega) (by omega)) dL_law_175 ?_
  rw [nI_clamp (show 4 * n + 3 < 2 ^ 31 by omega)]
  refine z_backW1 (z_runV ⟨hx, hb, hml, hown, hT⟩ (rest := []) (As := [.int (xs (4 * n + 1)), .int (xs (4 * n + 2)), .int (xs (4 * n + 3))]) (hM H.size) k_L_70 (z_preWV hK hP (hP.at (hI.1 0 (by decide)) rfl) rfl) rfl ⟨by omega, by omega⟩ hl.1 rfl (Nat.le_of_ble_eq_true rfl) dL_law_176 ⟨by omega, by omega⟩) hS (hD.free (fun q hq => Nat.le_trans hS.1 hq)) (fun H locs hP hz2 hk2 hS => ?_)
  refine lv_istore (lv' := [(6, .int bv), (5, .int k), (4, .int (nI (4 * n))), (0, .ref b), (1, .ref (ad 13)), (2, .ref (ad 0)), (3, .ref (ad 12))]) hx hb dL_law_179 hl (by decide) rfl (fun ls hl => ?_)
  refine lv_aload_n hx hb dL_law_181 rfl (lv_at hl 5 rfl) ?_
  refine z_backR1 (z_runV ⟨hx, hb, hml, hown, hT⟩ (rest := []) (As := []) (c_X4_thrown l hI) k_L_71 (z_preRV hK hP (hP.at (hI.1 0 (by decide)) rfl) rfl) rfl ⟨by omega, by omega⟩ hl.1 rfl (Nat.le_of_ble_eq_true rfl) dL_law_182 ⟨by omega, by omega⟩) ?_
  refine lv_iload hx hb dL_law_185 (lv_at hl 1 rfl) ?_
  refine lv_icmp_eq (tgt := 192) hx hb dL_law_187 (by decide) (fun _ => ?_) (fun q => absurd hth q)
  refine lv_iload hx hb dL_law_192 (lv_at hl 1 rfl) ?_
  refine lv_if_ne (tgt := 209) hx hb dL_law_194 (by decide) (fun hk0 => ?_) (fun hk0 => ?_)
  · refine lv_goto (tgt := 1068) hx hb dL_law_209 (by decide) ?_
    exact W.widen (by omega) (by omega) (kk _ _ _ hP hS (lv_sub hl [2, 3, 4, 5, 6] rfl))
  · skip
    refine lv_aload_n hx hb dL_law_197 rfl (lv_at hl 6 rfl) ?_
    refine lv_iconst (v := nI 0) hx hb dL_law_198 (by decide) ?_
    refine z_laldN (j := 0) hx hb hK (hP.at (hI.1 12 (by decide)) rfl) (by decide) (by decide) (hout hk0) dL_law_199 ?_
    refine lv_iload hx hb dL_law_200 (lv_at hl 0 rfl) ?_
    refine lv_i2l (v := Int32.toInt64 bv) hx hb dL_law_202 rfl ?_
    refine W.lcmp hx hb dL_law_203 ?_
    rw [lg_cmp_self]
    refine lv_if_eq (tgt := 209) hx hb dL_law_204 (by decide) (fun _ => ?_) (fun q => absurd rfl q)
    refine lv_goto (tgt := 1068) hx hb dL_law_209 (by decide) ?_
    exact W.widen (by omega) (by omega) (kk _ _ _ hP hS (lv_sub hl [2, 3, 4, 5, 6] rfl))
set_option maxHeartbeats 4000000 in
set_option maxRecDepth 100000 in
theorem q_begin_b {b L n : Nat} {xs : Nat → Int32} (hF : lwF p l R s m args c D ks b L xs) (hI : zIn Rs np ng) (hD : zD (fun q => s.heap.size ≤ q) Rs ad) (hP : zP D Rs ad (gS ks ad np ng G MI MJ XI XJ) H) (hS : va_S (fun q => s.heap.size ≤ q) s.heap H locs) (hn : 4 * n + 4 ≤ L) (hl : lv_has ls 8 (lwL ad b n)) (hcs : cells + 4 ≤ R.cells ∧ slots + 13 ≤ R.slots) {k : Int32} {bv : Int32} {MI1 MI2 XI1 : Nat → Nat → Int32} {MJ1 MJ2 XJ1 : Nat → Nat → Int64} {np' ng' : Nat} {G' : Nat → Nat} {frW loW mcW msW frM loM : Nat} (hW : zMY l yL_begin cL_begin 6 [(0, 12, 15, 13), (0, 12, 19, 15)] frW loW mcW msW D ks H.size [.ref (ad 13), .int (xs (4 * n + 1)), .int (xs (4 * n + 2)), .int (xs (4 * n + 3)), .ref (ad 12)] (zP D Rs ad (gS ks ad np ng G MI MJ XI XJ)) k (bW D ks ad Rs H.size np' ng' G' MI1 MJ1 XI1 XJ1) (zA Rs ad H.size)) (hM : ∀ (ad : Nat → Nat) (Rs : List Nat) (hI : zIn Rs np' ng') (hD : zD (fun _ => True) Rs ad) (sz : Nat), zMW l yX4_begin cX4_begin 4 (some .int) frM loM 0 0 D ks sz [.ref (ad 0), .int (xs (4 * n + 1)), .int (xs (4 * n + 2)), .int (xs (4 * n + 3))] (zP D Rs ad (gS ks ad np' ng' G' MI1 MJ1 XI1 XJ1)) (some (.int bv)) (zP D Rs ad (gS ks ad np' ng' G' MI2 MJ2 XI1 XJ1)) (zA Rs ad sz)) (hth : MI2 0 7 = k) (hout : k = 0 → MJ2 3 0 = Int32.toInt64 bv) (hr : frW + 1 ≤ 11 ∧ 8 + (6 + 11) + loW ≤ 388 ∧ mcW ≤ 4 ∧ msW ≤ 13 ∧ frM + 1 ≤ 11 ∧ 8 + (4 + 11) + loM ≤ 388)
    (kk : ∀ (ad2 : Nat → Nat) (Rs2 : List Nat) (H : Heap) (locs : List Loc) (ls : Array Slot), (ad2 0 = ad 0 ∧ ad2 12 = ad 12 ∧ ad2 13 = ad 13) → zIn Rs2 np' ng' → zAll Rs2 np' ng' → zD (fun q => s.heap.size ≤ q) Rs2 ad2 → zP D Rs2 ad2 (gS ks ad2 np' ng' G' MI2 MJ2 XI1 XJ1) H → va_S (fun q => s.heap.size ≤ q) s.heap H locs → lv_has ls 8 (lwL ad b n) → W p l e R s m args below meth c H locs (cells + 4) (slots + 13) Q (F0 m 1068 ls [])) : W p l e R s m args below meth c H locs cells slots Q (F0 m 132 ls []) := by
  obtain ⟨⟨hx, hb, hml, hown, hT⟩, ⟨hK, hZ, hUn⟩, ⟨hXs, hbl, hL⟩, hst, hRf, hRl⟩ := hF
  have hl : lv_has ls 8 [(4, .int (nI (4 * n))), (0, .ref b), (1, .ref (ad 13)), (2, .ref (ad 0)), (3, .ref (ad 12))] := hl
  have hAo : ∀ q, zA Rs ad H.size q → s.heap.size ≤ q := hD.free (fun q hq => Nat.le_trans hS.1 hq)
  refine lv_aload_n hx hb dL_law_132 rfl (lv_at hl 2 rfl) ?_
  refine lv_aload_n hx hb dL_law_133 rfl (lv_at hl 1 rfl) ?_
  refine lv_iload hx hb dL_law_134 (lv_at hl 0 rfl) ?_
  refine lv_iconst (v := nI 1) hx hb dL_law_136 (by decide) ?_
  refine lv_iadd hx hb dL_law_137 ?_
  rw [nI_add]
  refine va_sld hx hb hXs hbl (fun q => absurd q (Nat.not_le.mpr hbl)) hS (vp_in_nI (show 4 * n + 1 < L by omega) (by omega)) dL_law_138 ?_
  rw [nI_clamp (show 4 * n + 1 < 2 ^ 31 by omega)]
  refine lv_aload_n hx hb dL_law_139 rfl (lv_at hl 1 rfl) ?_
  refine lv_iload hx hb dL_law_140 (lv_at hl 0 rfl) ?_
  refine lv_iconst (v := nI 2) hx hb dL_law_142 (by decide) ?_
  refine lv_iadd hx hb dL_law_143 ?_
  rw [nI_add]
  refine va_sld hx hb hXs hbl (fun q => absurd q (Nat.not_le.mpr hbl)) hS (vp_in_nI (show 4 * n + 2 < L by omega) (by omega)) dL_law_144 ?_
  rw [nI_clamp (show 4 * n + 2 < 2 ^ 31 by omega)]
  refine lv_aload_n hx hb dL_law_145 rfl (lv_at hl 1 rfl) ?_
  refine lv_iload hx hb dL_law_146 (lv_at hl 0 rfl) ?_
  refine lv_iconst (v := nI 3) hx hb dL_law_148 (by decide) ?_
  refine lv_iadd hx hb dL_law_149 ?_
  rw [nI_add]
  refine va_sld hx hb hXs hbl (fun q => absurd q (Nat.not_le.mpr hbl)) hS (vp_in_nI (show 4 * n + 3 < L by omega) (by omega)) dL_law_150 ?_
  rw [nI_clamp (show 4 * n + 3 < 2 ^ 31 by omega)]
  refine lv_aload_n hx hb dL_law_151 rfl (lv_at hl 4 rfl) ?_
  refine z_backW1 (z_runY ⟨hx, hb, hml, hown, hT⟩ (rest := []) (As := [.ref (ad 13), .int (xs (4 * n + 1)), .int (xs (4 * n + 2)), .int (xs (4 * n + 3)), .ref (ad 12)]) (k := 5) (index := 65) hW cw_yL_begin ml_L_65 sm_yL_begin in_L ⟨by decide, by decide, by decide +kernel⟩ (z_preY hK hZ hUn hS hP) rfl ⟨by omega, by omega⟩ hl.1 rfl (Nat.le_of_ble_eq_true rfl) dL_law_152 ⟨by omega, by omega⟩) hS hAo (fun H locs hB hz hk2 hS => ?_)
  obtain ⟨ad2, Rs2, hr2, hI2, hall2, hD2, hP⟩ := hB
  have hD2 : zD (fun q => s.heap.size ≤ q) Rs2 ad2 := hD2.weak hAo
  have q0 := (hr2 0 (hI.1 0 (by decide))).2
  have q12 := (hr2 12 (hI.1 12 (by decide))).2
  have q13 := (hr2 13 (hI.1 13 (by decide))).2
  have hM := hM ad2 Rs2 hI2 (hD2.weak (fun _ _ => trivial))
  have hl : lv_has ls 8 [(4, .int (nI (4 * n))), (0, .ref b), (1, .ref (ad2 13)), (2, .ref (ad2 0)), (3, .ref (ad2 12))] := by rw [q0, q12, q13]; exact hl
  refine lv_istore (lv' := [(5, .int k), (4, .int (nI (4 * n))), (0, .ref b), (1, .ref (ad2 13)), (2, .ref (ad2 0)), (3, .ref (ad2 12))]) hx hb dL_law_155 hl (by decide) rfl (fun ls hl => ?_)
  refine lv_aload_n hx hb dL_law_157 rfl (lv_at hl 4 rfl) ?_
  refine lv_aload_n hx hb dL_law_158 rfl (lv_at hl 2 rfl) ?_
  refine lv_iload hx hb dL_law_159 (lv_at hl 1 rfl) ?_
  refine lv_iconst (v := nI 1) hx hb dL_law_161 (by decide) ?_
  refine lv_iadd hx hb dL_law_162 ?_
  rw [nI_add]
  refine va_sld hx hb hXs hbl (fun q => absurd q (Nat.not_le.mpr hbl)) hS (vp_in_nI (show 4 * n + 1 < L by omega) (by omega)) dL_law_163 ?_
  rw [nI_clamp (show 4 * n + 1 < 2 ^ 31 by omega)]
  refine lv_aload_n hx hb dL_law_164 rfl (lv_at hl 2 rfl) ?_
  refine lv_iload hx hb dL_law_165 (lv_at hl 1 rfl) ?_
  refine lv_iconst (v := nI 2) hx hb dL_law_167 (by decide) ?_
  refine lv_iadd hx hb dL_law_168 ?_
  rw [nI_add]
  refine va_sld hx hb hXs hbl (fun q => absurd q (Nat.not_le.mpr hbl)) hS (vp_in_nI (show 4 * n + 2 < L by omega) (by omega)) dL_law_169 ?_
  rw [nI_clamp (show 4 * n + 2 < 2 ^ 31 by omega)]
  refine lv_aload_n hx hb dL_law_170 rfl (lv_at hl 2 rfl) ?_
  refine lv_iload hx hb dL_law_171 (lv_at hl 1 rfl) ?_
  refine lv_iconst (v := nI 3) hx hb dL_law_173 (by decide) ?_
  refine lv_iadd hx hb dL_law_174 ?_
  rw [nI_add]
  refine va_sld hx hb hXs hbl (fun q => absurd q (Nat.not_le.mpr hbl)) hS (vp_in_nI (show 4 * n + 3 < L by omega) (by omega)) dL_law_175 ?_
  rw [nI_clamp (show 4 * n + 3 < 2 ^ 31 by omega)]
  refine z_backW1 (z_runV ⟨hx, hb, hml, hown, hT⟩ (rest := []) (As := [.int (xs (4 * n + 1)), .int (xs (4 * n + 2)), .int (xs (4 * n + 3))]) (hM H.size) k_L_70 (z_preWV hK hP (hP.at (hI2.1 0 (by decide)) rfl) rfl) rfl ⟨by omega, by omega⟩ hl.1 rfl (Nat.le_of_ble_eq_true rfl) dL_law_176 ⟨by omega, by omega⟩) hS (hD2.free (fun q hq => Nat.le_trans hS.1 hq)) (fun H locs hP hz2 hk2 hS => ?_)
  refine lv_istore (lv' := [(6, .int bv), (5, .int k), (4, .int (nI (4 * n))), (0, .ref b), (1, .ref (ad2 13)), (2, .ref (ad2 0)), (3, .ref (ad2 12))]) hx hb dL_law_179 hl (by decide) rfl (fun ls hl => ?_)
  refine lv_aload_n hx hb dL_law_181 rfl (lv_at hl 5 rfl) ?_
  refine z_backR1 (z_runV ⟨hx, hb, hml, hown, hT⟩ (rest := []) (As := []) (c_X4_thrown l hI2) k_L_71 (z_preRV hK hP (hP.at (hI2.1 0 (by decide)) rfl) rfl) rfl ⟨by omega, by omega⟩ hl.1 rfl (Nat.le_of_ble_eq_true rfl) dL_law_182 ⟨by omega, by omega⟩) ?_
  refine lv_iload hx hb dL_law_185 (lv_at hl 1 rfl) ?_
  refine lv_icmp_eq (tgt := 192) hx hb dL_law_187 (by decide) (fun _ => ?_) (fun q => absurd hth q)
  refine lv_iload hx hb dL_law_192 (lv_at hl 1 rfl) ?_
  refine lv_if_ne (tgt := 209) hx hb dL_law_194 (by decide) (fun hk0 => ?_) (fun hk0 => ?_)
  · refine lv_goto (tgt := 1068) hx hb dL_law_209 (by decide) ?_
    exact W.widen (by omega) (by omega) (kk ad2 Rs2 _ _ _ ⟨q0, q12, q13⟩ hI2 hall2 hD2 hP hS (by have h := (lv_sub hl [2, 3, 4, 5, 6] rfl); unfold lwL; rw [← q0, ← q12, ← q13]; exact h))
  · skip
    refine lv_aload_n hx hb dL_law_197 rfl (lv_at hl 6 rfl) ?_
    refine lv_iconst (v := nI 0) hx hb dL_law_198 (by decide) ?_
    refine z_laldN (j := 0) hx hb hK (hP.at (hI2.1 12 (by decide)) rfl) (by decide) (by decide) (hout hk0) dL_law_199 ?_
    refine lv_iload hx hb dL_law_200 (lv_at hl 0 rfl) ?_
    refine lv_i2l (v := Int32.toInt64 bv) hx hb dL_law_202 rfl ?_
    refine W.lcmp hx hb dL_law_203 ?_
    rw [lg_cmp_self]
    refine lv_if_eq (tgt := 209) hx hb dL_law_204 (by decide) (fun _ => ?_) (fun q => absurd rfl q)
    refine lv_goto (tgt := 1068) hx hb dL_law_209 (by decide) ?_
    exact W.widen (by omega) (by omega) (kk ad2 Rs2 _ _ _ ⟨q0, q12, q13⟩ hI2 hall2 hD2 hP hS (by have h := (lv_sub hl [2, 3, 4, 5, 6] rfl); unfold lwL; rw [← q0, ← q12, ← q13]; exact h))
set_option maxHeartbeats 4000000 in
set_option maxRecDepth 100000 in
theorem q_surrender {b L n : Nat} {xs : Nat → Int32} (hF : lwF p l R s m args c D ks b L xs) (hI : zIn Rs np ng) (hD : zD (fun q => s.heap.size ≤ q) Rs ad) (hP : zP D Rs ad (gS ks ad np ng G MI MJ XI XJ) H) (hS : va_S (fun q => s.heap.size ≤ q) s.heap H locs) (hn : 4 * n + 4 ≤ L) (hl : lv_has ls 8 (lwL ad b n)) (hcs : cells + 4 ≤ R.cells ∧ slots + 13 ≤ R.slots) {k : Int32} {bv : Int32} {MI1 MI2 XI1 : Nat → Nat → Int32} {MJ1 MJ2 XJ1 : Nat → Nat → Int64} {frW loW mcW msW frM loM : Nat} (hW : zMY l yL_surrender cL_surrender 4 [(0, 9, 12, 21), (0, 9, 15, 15)] frW loW mcW msW D ks H.size [.ref (ad 13), .int (xs (4 * n + 1)), .ref (ad 12)] (zP D Rs ad (gS ks ad np ng G MI MJ XI XJ)) k (zP D Rs ad (gS ks ad np ng G MI1 MJ1 XI1 XJ1)) (zA Rs ad H.size)) (hM : ∀ sz, zMW l yX4_surrender cX4_surrender 3 (some .int) frM loM 0 0 D ks sz [.ref (ad 0), .int (xs (4 * n + 1))] (zP D Rs ad (gS ks ad np ng G MI1 MJ1 XI1 XJ1)) (some (.int bv)) (zP D Rs ad (gS ks ad np ng G MI2 MJ2 XI1 XJ1)) (zA Rs ad sz)) (hth : MI2 0 7 = k) (hout : k = 0 → MJ2 3 0 = Int32.toInt64 bv) (hr : frW + 1 ≤ 11 ∧ 8 + (4 + 11) + loW ≤ 388 ∧ mcW ≤ 4 ∧ msW ≤ 13 ∧ frM + 1 ≤ 11 ∧ 8 + (3 + 11) + loM ≤ 388)
    (kk : ∀ (H : Heap) (locs : List Loc) (ls : Array Slot), zP D Rs ad (gS ks ad np ng G MI2 MJ2 XI1 XJ1) H → va_S (fun q => s.heap.size ≤ q) s.heap H locs → lv_has ls 8 (lwL ad b n) → W p l e R s m args below meth c H locs (cells + 4) (slots + 13) Q (F0 m 1068 ls [])) : W p l e R s m args below meth c H locs cells slots Q (F0 m 212 ls []) := by
  obtain ⟨⟨hx, hb, hml, hown, hT⟩, ⟨hK, hZ, hUn⟩, ⟨hXs, hbl, hL⟩, hst, hRf, hRl⟩ := hF
  have hl : lv_has ls 8 [(4, .int (nI (4 * n))), (0, .ref b), (1, .ref (ad 13)), (2, .ref (ad 0)), (3, .ref (ad 12))] := hl
  have hAo : ∀ q, zA Rs ad H.size q → s.heap.size ≤ q := hD.free (fun q hq => Nat.le_trans hS.1 hq)
  refine lv_aload_n hx hb dL_law_212 rfl (lv_at hl 2 rfl) ?_
  refine lv_aload_n hx hb dL_law_213 rfl (lv_at hl 1 rfl) ?_
  refine lv_iload hx hb dL_law_214 (lv_at hl 0 rfl) ?_
  refine lv_iconst (v := nI 1) hx hb dL_law_216 (by decide) ?_
  refine lv_iadd hx hb dL_law_217 ?_
  rw [nI_add]
  refine va_sld hx hb hXs hbl (fun q => absurd q (Nat.not_le.mpr hbl)) hS (vp_in_nI (show 4 * n + 1 < L by omega) (by omega)) dL_law_218 ?_
  rw [nI_clamp (show 4 * n + 1 < 2 ^ 31 by omega)]
  refine lv_aload_n hx hb dL_law_219 rfl (lv_at hl 4 rfl) ?_
  refine z_backW1 (z_runY ⟨hx, hb, hml, hown, hT⟩ (rest := []) (As := [.ref (ad 13), .int (xs (4 * n + 1)), .ref (ad 12)]) (k := 3) (index := 75) hW cw_yL_surrender ml_L_75 sm_yL_surrender in_L ⟨by decide, by decide, by decide +kernel⟩ (z_preY hK hZ hUn hS hP) rfl ⟨by omega, by omega⟩ hl.1 rfl (Nat.le_of_ble_eq_true rfl) dL_law_220 ⟨by omega, by omega⟩) hS hAo (fun H locs hP hz hk2 hS => ?_)
  refine lv_istore (lv' := [(5, .int k), (4, .int (nI (4 * n))), (0, .ref b), (1, .ref (ad 13)), (2, .ref (ad 0)), (3, .ref (ad 12))]) hx hb dL_law_223 hl (by decide) rfl (fun ls hl => ?_)
  refine lv_aload_n hx hb dL_law_225 rfl (lv_at hl 4 rfl) ?_
  refine lv_aload_n hx hb dL_law_226 rfl (lv_at hl 2 rfl) ?_
  refine lv_iload hx hb dL_law_227 (lv_at hl 1 rfl) ?_
  refine lv_iconst (v := nI 1) hx hb dL_law_229 (by decide) ?_
  refine lv_iadd hx hb dL_law_230 ?_
  rw [nI_add]
  refine va_sld hx hb hXs hbl (fun q => absurd q (Nat.not_le.mpr hbl)) hS (vp_in_nI (show 4 * n + 1 < L by omega) (by omega)) dL_law_231 ?_
  rw [nI_clamp (show 4 * n + 1 < 2 ^ 31 by omega)]
  refine z_backW1 (z_runV ⟨hx, hb, hml, hown, hT⟩ (rest := []) (As := [.int (xs (4 * n + 1))]) (hM H.size) k_L_78 (z_preWV hK hP (hP.at (hI.1 0 (by decide)) rfl) rfl) rfl ⟨by omega, by omega⟩ hl.1 rfl (Nat.le_of_ble_eq_true rfl) dL_law_232 ⟨by omega, by omega⟩) hS (hD.free (fun q hq => Nat.le_trans hS.1 hq)) (fun H locs hP hz2 hk2 hS => ?_)
  refine lv_istore (lv' := [(6, .int bv), (5, .int k), (4, .int (nI (4 * n))), (0, .ref b), (1, .ref (ad 13)), (2, .ref (ad 0)), (3, .ref (ad 12))]) hx hb dL_law_235 hl (by decide) rfl (fun ls hl => ?_)
  refine lv_aload_n hx hb dL_law_237 rfl (lv_at hl 5 rfl) ?_
  refine z_backR1 (z_runV ⟨hx, hb, hml, hown, hT⟩ (rest := []) (As := []) (c_X4_thrown l hI) k_L_71 (z_preRV hK hP (hP.at (hI.1 0 (by decide)) rfl) rfl) rfl ⟨by omega, by omega⟩ hl.1 rfl (Nat.le_of_ble_eq_true rfl) dL_law_238 ⟨by omega, by omega⟩) ?_
  refine lv_iload hx hb dL_law_241 (lv_at hl 1 rfl) ?_
  refine lv_icmp_eq (tgt := 248) hx hb dL_law_243 (by decide) (fun _ => ?_) (fun q => absurd hth q)
  refine lv_iload hx hb dL_law_248 (lv_at hl 1 rfl) ?_
  refine lv_if_ne (tgt := 265) hx hb dL_law_250 (by decide) (fun hk0 => ?_) (fun hk0 => ?_)
  · refine lv_goto (tgt := 1068) hx hb dL_law_265 (by decide) ?_
    exact W.widen (by omega) (by omega) (kk _ _ _ hP hS (lv_sub hl [2, 3, 4, 5, 6] rfl))
  · skip
    refine lv_aload_n hx hb dL_law_253 rfl (lv_at hl 6 rfl) ?_
    refine lv_iconst (v := nI 0) hx hb dL_law_254 (by decide) ?_
    refine z_laldN (j := 0) hx hb hK (hP.at (hI.1 12 (by decide)) rfl) (by decide) (by decide) (hout hk0) dL_law_255 ?_
    refine lv_iload hx hb dL_law_256 (lv_at hl 0 rfl) ?_
    refine lv_i2l (v := Int32.toInt64 bv) hx hb dL_law_258 rfl ?_
    refine W.lcmp hx hb dL_law_259 ?_
    rw [lg_cmp_self]
    refine lv_if_eq (tgt := 265) hx hb dL_law_260 (by decide) (fun _ => ?_) (fun q => absurd rfl q)
    refine lv_goto (tgt := 1068) hx hb dL_law_265 (by decide) ?_
    exact W.widen (by omega) (by omega) (kk _ _ _ hP hS (lv_sub hl [2, 3, 4, 5, 6] rfl))
set_option maxHeartbeats 4000000 in
set_option maxRecDepth 100000 in
theorem q_setRates {b L n : Nat} {xs : Nat → Int32} (hF : lwF p l R s m args c D ks b L xs) (hI : zIn Rs np ng) (hD : zD (fun q => s.heap.size ≤ q) Rs ad) (hP : zP D Rs ad (gS ks ad np ng G MI MJ XI XJ) H) (hS : va_S (fun q => s.heap.size ≤ q) s.heap H locs) (hn : 4 * n + 4 ≤ L) (hl : lv_has ls 8 (lwL ad b n)) (hcs : cells + 4 ≤ R.cells ∧ slots + 13 ≤ R.slots) {k : Int32} {bv : Int32} {MI1 MI2 XI1 : Nat → Nat → Int32} {MJ1 MJ2 XJ1 : Nat → Nat → Int64} {frW loW mcW msW frM loM : Nat} (hW : zMY l yL_setRates cL_setRates 5 [(0, 10, 13, 13)] frW loW mcW msW D ks H.size [.ref (ad 13), .int (xs (4 * n + 1)), .int (xs (4 * n + 2)), .ref (ad 12)] (zP D Rs ad (gS ks ad np ng G MI MJ XI XJ)) k (zP D Rs ad (gS ks ad np ng G MI1 MJ1 XI1 XJ1)) (zA Rs ad H.size)) (hM : ∀ sz, zMW l yX4_setRates cX4_setRates 4 (some .int) frM loM 0 0 D ks sz [.ref (ad 0), .int (xs (4 * n + 1)), .int (xs (4 * n + 2))] (zP D Rs ad (gS ks ad np ng G MI1 MJ1 XI1 XJ1)) (some (.int bv)) (zP D Rs ad (gS ks ad np ng G MI2 MJ2 XI1 XJ1)) (zA Rs ad sz)) (hth : MI2 0 7 = k) (hout : k = 0 → MJ2 3 0 = Int32.toInt64 bv) (hr : frW + 1 ≤ 11 ∧ 8 + (5 + 11) + loW ≤ 388 ∧ mcW ≤ 4 ∧ msW ≤ 13 ∧ frM + 1 ≤ 11 ∧ 8 + (4 + 11) + loM ≤ 388)
    (kk : ∀ (H : Heap) (locs : List Loc) (ls : Array Slot), zP D Rs ad (gS ks ad np ng G MI2 MJ2 XI1 XJ1) H → va_S (fun q => s.heap.size ≤ q) s.heap H locs → lv_has ls 8 (lwL ad b n) → W p l e R s m args below meth c H locs (cells + 4) (slots + 13) Q (F0 m 1068 ls [])) : W p l e R s m args below meth c H locs cells slots Q (F0 m 268 ls []) := by
  obtain ⟨⟨hx, hb, hml, hown, hT⟩, ⟨hK, hZ, hUn⟩, ⟨hXs, hbl, hL⟩, hst, hRf, hRl⟩ := hF
  have hl : lv_has ls 8 [(4, .int (nI (4 * n))), (0, .ref b), (1, .ref (ad 13)), (2, .ref (ad 0)), (3, .ref (ad 12))] := hl
  have hAo : ∀ q, zA Rs ad H.size q → s.heap.size ≤ q := hD.free (fun q hq => Nat.le_trans hS.1 hq)
  refine lv_aload_n hx hb dL_law_268 rfl (lv_at hl 2 rfl) ?_
  refine lv_aload_n hx hb dL_law_269 rfl (lv_at hl 1 rfl) ?_
  refine lv_iload hx hb dL_law_270 (lv_at hl 0 rfl) ?_
  refine lv_iconst (v := nI 1) hx hb dL_law_272 (by decide) ?_
  refine lv_iadd hx hb dL_law_273 ?_
  rw [nI_add]
  refine va_sld hx hb hXs hbl (fun q => absurd q (Nat.not_le.mpr hbl)) hS (vp_in_nI (show 4 * n + 1 < L by omega) (by omega)) dL_law_274 ?_
  rw [nI_clamp (show 4 * n + 1 < 2 ^ 31 by omega)]
  refine lv_aload_n hx hb dL_law_275 rfl (lv_at hl 1 rfl) ?_
  refine lv_iload hx hb dL_law_276 (lv_at hl 0 rfl) ?_
  refine lv_iconst (v := nI 2) hx hb dL_law_278 (by decide) ?_
  refine lv_iadd hx hb dL_law_279 ?_
  rw [nI_add]
  refine va_sld hx hb hXs hbl (fun q => absurd q (Nat.not_le.mpr hbl)) hS (vp_in_nI (show 4 * n + 2 < L by omega) (by omega)) dL_law_280 ?_
  rw [nI_clamp (show 4 * n + 2 < 2 ^ 31 by omega)]
  refine lv_aload_n hx hb dL_law_281 rfl (lv_at hl 4 rfl) ?_
  refine z_backW1 (z_runY ⟨hx, hb, hml, hown, hT⟩ (rest := []) (As := [.ref (ad 13), .int (xs (4 * n + 1)), .int (xs (4 * n + 2)), .ref (ad 12)]) (k := 4) (index := 79) hW cw_yL_setRates ml_L_79 sm_yL_setRates in_L ⟨by decide, by decide, by decide +kernel⟩ (z_preY hK hZ hUn hS hP) rfl ⟨by omega, by omega⟩ hl.1 rfl (Nat.le_of_ble_eq_true rfl) dL_law_282 ⟨by omega, by omega⟩) hS hAo (fun H locs hP hz hk2 hS => ?_)
  refine lv_istore (lv' := [(5, .int k), (4, .int (nI (4 * n))), (0, .ref b), (1, .ref (ad 13)), (2, .ref (ad 0)), (3, .ref (ad 12))]) hx hb dL_law_285 hl (by decide) rfl (fun ls hl => ?_)
  refine lv_aload_n hx hb dL_law_287 rfl (lv_at hl 4 rfl) ?_
  refine lv_aload_n hx hb dL_law_288 rfl (lv_at hl 2 rfl) ?_
  refine lv_iload hx hb dL_law_289 (lv_at hl 1 rfl) ?_
  refine lv_iconst (v := nI 1) hx hb dL_law_291 (by decide) ?_
  refine lv_iadd hx hb dL_law_292 ?_
  rw [nI_add]
  refine va_sld hx hb hXs hbl (fun q => absurd q (Nat.not_le.mpr hbl)) hS (vp_in_nI (show 4 * n + 1 < L by omega) (by omega)) dL_law_293 ?_
  rw [nI_clamp (show 4 * n + 1 < 2 ^ 31 by omega)]
  refine lv_aload_n hx hb dL_law_294 rfl (lv_at hl 2 rfl) ?_
  refine lv_iload hx hb dL_law_295 (lv_at hl 1 rfl) ?_
  refine lv_iconst (v := nI 2) hx hb dL_law_297 (by decide) ?_
  refine lv_iadd hx hb dL_law_298 ?_
  rw [nI_add]
  refine va_sld hx hb hXs hbl (fun q => absurd q (Nat.not_le.mpr hbl)) hS (vp_in_nI (show 4 * n + 2 < L by omega) (by omega)) dL_law_299 ?_
  rw [nI_clamp (show 4 * n + 2 < 2 ^ 31 by omega)]
  refine z_backW1 (z_runV ⟨hx, hb, hml, hown, hT⟩ (rest := []) (As := [.int (xs (4 * n + 1)), .int (xs (4 * n + 2))]) (hM H.size) k_L_82 (z_preWV hK hP (hP.at (hI.1 0 (by decide)) rfl) rfl) rfl ⟨by omega, by omega⟩ hl.1 rfl (Nat.le_of_ble_eq_true rfl) dL_law_300 ⟨by omega, by omega⟩) hS (hD.free (fun q hq => Nat.le_trans hS.1 hq)) (fun H locs hP hz2 hk2 hS => ?_)
  refine lv_istore (lv' := [(6, .int bv), (5, .int k), (4, .int (nI (4 * n))), (0, .ref b), (1, .ref (ad 13)), (2, .ref (ad 0)), (3, .ref (ad 12))]) hx hb dL_law_303 hl (by decide) rfl (fun ls hl => ?_)
  refine lv_aload_n hx hb dL_law_305 rfl (lv_at hl 5 rfl) ?_
  refine z_backR1 (z_runV ⟨hx, hb, hml, hown, hT⟩ (rest := []) (As := []) (c_X4_thrown l hI) k_L_71 (z_preRV hK hP (hP.at (hI.1 0 (by decide)) rfl) rfl) rfl ⟨by omega, by omega⟩ hl.1 rfl (Nat.le_of_ble_eq_true rfl) dL_law_306 ⟨by omega, by omega⟩) ?_
  refine lv_iload hx hb dL_law_309 (lv_at hl 1 rfl) ?_
  refine lv_icmp_eq (tgt := 316) hx hb dL_law_311 (by decide) (fun _ => ?_) (fun q => absurd hth q)
  refine lv_iload hx hb dL_law_316 (lv_at hl 1 rfl) ?_
  refine lv_if_ne (tgt := 333) hx hb dL_law_318 (by decide) (fun hk0 => ?_) (fun hk0 => ?_)
  · refine lv_goto (tgt := 1068) hx hb dL_law_333 (by decide) ?_
    exact W.widen (by omega) (by omega) (kk _ _ _ hP hS (lv_sub hl [2, 3, 4, 5, 6] rfl))
  · skip
    refine lv_aload_n hx hb dL_law_321 rfl (lv_at hl 6 rfl) ?_
    refine lv_iconst (v := nI 0) hx hb dL_law_322 (by decide) ?_
    refine z_laldN (j := 0) hx hb hK (hP.at (hI.1 12 (by decide)) rfl) (by decide) (by decide) (hout hk0) dL_law_323 ?_
    refine lv_iload hx hb dL_law_324 (lv_at hl 0 rfl) ?_
    refine lv_i2l (v := Int32.toInt64 bv) hx hb dL_law_326 rfl ?_
    refine W.lcmp hx hb dL_law_327 ?_
    rw [lg_cmp_self]
    refine lv_if_eq (tgt := 333) hx hb dL_law_328 (by decide) (fun _ => ?_) (fun q => absurd rfl q)
    refine lv_goto (tgt := 1068) hx hb dL_law_333 (by decide) ?_
    exact W.widen (by omega) (by omega) (kk _ _ _ hP hS (lv_sub hl [2, 3, 4, 5, 6] rfl))
set_option maxHeartbeats 4000000 in
set_option maxRecDepth 100000 in
theorem q_setScale {b L n : Nat} {xs : Nat → Int32} (hF : lwF p l R s m args c D ks b L xs) (hI : zIn Rs np ng) (hD : zD (fun q => s.heap.size ≤ q) Rs ad) (hP : zP D Rs ad (gS ks ad np ng G MI MJ XI XJ) H) (hS : va_S (fun q => s.heap.size ≤ q) s.heap H locs) (hn : 4 * n + 4 ≤ L) (hl : lv_has ls 8 (lwL ad b n)) (hcs : cells + 4 ≤ R.cells ∧ slots + 13 ≤ R.slots) {k : Int32} {bv : Int32} {MI1 MI2 XI1 : Nat → Nat → Int32} {MJ1 MJ2 XJ1 : Nat → Nat → Int64} {frW loW mcW msW frM loM : Nat} (hW : zMY l yL_setScale cL_setScale 6 [(0, 12, 15, 13)] frW loW mcW msW D ks H.size [.ref (ad 13), .int (xs (4 * n + 1)), .int (xs (4 * n + 2)), .int (xs (4 * n + 3)), .ref (ad 12)] (zP D Rs ad (gS ks ad np ng G MI MJ XI XJ)) k (zP D Rs ad (gS ks ad np ng G MI1 MJ1 XI1 XJ1)) (zA Rs ad H.size)) (hM : ∀ sz, zMW l yX4_setScale cX4_setScale 5 (some .int) frM loM 0 0 D ks sz [.ref (ad 0), .int (xs (4 * n + 1)), .int (xs (4 * n + 2)), .int (xs (4 * n + 3))] (zP D Rs ad (gS ks ad np ng G MI1 MJ1 XI1 XJ1)) (some (.int bv)) (zP D Rs ad (gS ks ad np ng G MI2 MJ2 XI1 XJ1)) (zA Rs ad sz)) (hth : MI2 0 7 = k) (hout : k = 0 → MJ2 3 0 = Int32.toInt64 bv) (hr : frW + 1 ≤ 11 ∧ 8 + (6 + 11) + loW ≤ 388 ∧ mcW ≤ 4 ∧ msW ≤ 13 ∧ frM + 1 ≤ 11 ∧ 8 + (5 + 11) + loM ≤ 388)
    (kk : ∀ (H : Heap) (locs : List Loc) (ls : Array Slot), zP D Rs ad (gS ks ad np ng G MI2 MJ2 XI1 XJ1) H → va_S (fun q => s.heap.size ≤ q) s.heap H locs → lv_has ls 8 (lwL ad b n) → W p l e R s m args below meth c H locs (cells + 4) (slots + 13) Q (F0 m 1068 ls [])) : W p l e R s m args below meth c H locs cells slots Q (F0 m 336 ls []) := by
  obtain ⟨⟨hx, hb, hml, hown, hT⟩, ⟨hK, hZ, hUn⟩, ⟨hXs, hbl, hL⟩, hst, hRf, hRl⟩ := hF
  have hl : lv_has ls 8 [(4, .int (nI (4 * n))), (0, .ref b), (1, .ref (ad 13)), (2, .ref (ad 0)), (3, .ref (ad 12))] := hl
  have hAo : ∀ q, zA Rs ad H.size q → s.heap.size ≤ q := hD.free (fun q hq => Nat.le_trans hS.1 hq)
  refine lv_aload_n hx hb dL_law_336 rfl (lv_at hl 2 rfl) ?_
  refine lv_aload_n hx hb dL_law_337 rfl (lv_at hl 1 rfl) ?_
  refine lv_iload hx hb dL_law_338 (lv_at hl 0 rfl) ?_
  refine lv_iconst (v := nI 1) hx hb dL_law_340 (by decide) ?_
  refine lv_iadd hx hb dL_law_341 ?_
  rw [nI_add]
  refine va_sld hx hb hXs hbl (fun q => absurd q (Nat.not_le.mpr hbl)) hS (vp_in_nI (show 4 * n + 1 < L by omega) (by omega)) dL_law_342 ?_
  rw [nI_clamp (show 4 * n + 1 < 2 ^ 31 by omega)]
  refine lv_aload_n hx hb dL_law_343 rfl (lv_at hl 1 rfl) ?_
  refine lv_iload hx hb dL_law_344 (lv_at hl 0 rfl) ?_
  refine lv_iconst (v := nI 2) hx hb dL_law_346 (by decide) ?_
  refine lv_iadd hx hb dL_law_347 ?_
  rw [nI_add]
  refine va_sld hx hb hXs hbl (fun q => absurd q (Nat.not_le.mpr hbl)) hS (vp_in_nI (show 4 * n + 2 < L by omega) (by omega)) dL_law_348 ?_
  rw [nI_clamp (show 4 * n + 2 < 2 ^ 31 by omega)]
  refine lv_aload_n hx hb dL_law_349 rfl (lv_at hl 1 rfl) ?_
  refine lv_iload hx hb dL_law_350 (lv_at hl 0 rfl) ?_
  refine lv_iconst (v := nI 3) hx hb dL_law_352 (by decide) ?_
  refine lv_iadd hx hb dL_law_353 ?_
  rw [nI_add]
  refine va_sld hx hb hXs hbl (fun q => absurd q (Nat.not_le.mpr hbl)) hS (vp_in_nI (show 4 * n + 3 < L by omega) (by omega)) dL_law_354 ?_
  rw [nI_clamp (show 4 * n + 3 < 2 ^ 31 by omega)]
  refine lv_aload_n hx hb dL_law_355 rfl (lv_at hl 4 rfl) ?_
  refine z_backW1 (z_runY ⟨hx, hb, hml, hown, hT⟩ (rest := []) (As := [.ref (ad 13), .int (xs (4 * n + 1)), .int (xs (4 * n + 2)), .int (xs (4 * n + 3)), .ref (ad 12)]) (k := 5) (index := 83) hW cw_yL_setScale ml_L_83 sm_yL_setScale in_L ⟨by decide, by decide, by decide +kernel⟩ (z_preY hK hZ hUn hS hP) rfl ⟨by omega, by omega⟩ hl.1 rfl (Nat.le_of_ble_eq_true rfl) dL_law_356 ⟨by omega, by omega⟩) hS hAo (fun H locs hP hz hk2 hS => ?_)
  refine lv_istore (lv' := [(5, .int k), (4, .int (nI (4 * n))), (0, .ref b), (1, .ref (ad 13)), (2, .ref (ad 0)), (3, .ref (ad 12))]) hx hb dL_law_359 hl (by decide) rfl (fun ls hl => ?_)
  refine lv_aload_n hx hb dL_law_361 rfl (lv_at hl 4 rfl) ?_
  refine lv_aload_n hx hb dL_law_362 rfl (lv_at hl 2 rfl) ?_
  refine lv_iload hx hb dL_law_363 (lv_at hl 1 rfl) ?_
  refine lv_iconst (v := nI 1) hx hb dL_law_365 (by decide) ?_
  refine lv_iadd hx hb dL_law_366 ?_
  rw [nI_add]
  refine va_sld hx hb hXs hbl (fun q => absurd q (Nat.not_le.mpr hbl)) hS (vp_in_nI (show 4 * n + 1 < L by omega) (by omega)) dL_law_367 ?_
  rw [nI_clamp (show 4 * n + 1 < 2 ^ 31 by omega)]
  refine lv_aload_n hx hb dL_law_368 rfl (lv_at hl 2 rfl) ?_
  refine lv_iload hx hb dL_law_369 (lv_at hl 1 rfl) ?_
  refine lv_iconst (v := nI 2) hx hb dL_law_371 (by decide) ?_
  refine lv_iadd hx hb dL_law_372 ?_
  rw [nI_add]
  refine va_sld hx hb hXs hbl (fun q => absurd q (Nat.not_le.mpr hbl)) hS (vp_in_nI (show 4 * n + 2 < L by omega) (by omega)) dL_law_373 ?_
  rw [nI_clamp (show 4 * n + 2 < 2 ^ 31 by omega)]
  refine lv_aload_n hx hb dL_law_374 rfl (lv_at hl 2 rfl) ?_
  refine lv_iload hx hb dL_law_375 (lv_at hl 1 rfl) ?_
  refine lv_iconst (v := nI 3) hx hb dL_law_377 (by decide) ?_
  refine lv_iadd hx hb dL_law_378 ?_
  rw [nI_add]
  refine va_sld hx hb hXs hbl (fun q => absurd q (Nat.not_le.mpr hbl)) hS (vp_in_nI (show 4 * n + 3 < L by omega) (by omega)) dL_law_379 ?_
  rw [nI_clamp (show 4 * n + 3 < 2 ^ 31 by omega)]
  refine z_backW1 (z_runV ⟨hx, hb, hml, hown, hT⟩ (rest := []) (As := [.int (xs (4 * n + 1)), .int (xs (4 * n + 2)), .int (xs (4 * n + 3))]) (hM H.size) k_L_85 (z_preWV hK hP (hP.at (hI.1 0 (by decide)) rfl) rfl) rfl ⟨by omega, by omega⟩ hl.1 rfl (Nat.le_of_ble_eq_true rfl) dL_law_380 ⟨by omega, by omega⟩) hS (hD.free (fun q hq => Nat.le_trans hS.1 hq)) (fun H locs hP hz2 hk2 hS => ?_)
  refine lv_istore (lv' := [(6, .int bv), (5, .int k), (4, .int (nI (4 * n))), (0, .ref b), (1, .ref (ad 13)), (2, .ref (ad 0)), (3, .ref (ad 12))]) hx hb dL_law_383 hl (by decide) rfl (fun ls hl => ?_)
  refine lv_aload_n hx hb dL_law_385 rfl (lv_at hl 5 rfl) ?_
  refine z_backR1 (z_runV ⟨hx, hb, hml, hown, hT⟩ (rest := []) (As := []) (c_X4_thrown l hI) k_L_71 (z_preRV hK hP (hP.at (hI.1 0 (by decide)) rfl) rfl) rfl ⟨by omega, by omega⟩ hl.1 rfl (Nat.le_of_ble_eq_true rfl) dL_law_386 ⟨by omega, by omega⟩) ?_
  refine lv_iload hx hb dL_law_389 (lv_at hl 1 rfl) ?_
  refine lv_icmp_eq (tgt := 396) hx hb dL_law_391 (by decide) (fun _ => ?_) (fun q => absurd hth q)
  refine lv_iload hx hb dL_law_396 (lv_at hl 1 rfl) ?_
  refine lv_if_ne (tgt := 413) hx hb dL_law_398 (by decide) (fun hk0 => ?_) (fun hk0 => ?_)
  · refine lv_goto (tgt := 1068) hx hb dL_law_413 (by decide) ?_
    exact W.widen (by omega) (by omega) (kk _ _ _ hP hS (lv_sub hl [2, 3, 4, 5, 6] rfl))
  · skip
    refine lv_aload_n hx hb dL_law_401 rfl (lv_at hl 6 rfl) ?_
    refine lv_iconst (v := nI 0) hx hb dL_law_402 (by decide) ?_
    refine z_laldN (j := 0) hx hb hK (hP.at (hI.1 12 (by decide)) rfl) (by decide) (by decide) (hout hk0) dL_law_403 ?_
    refine lv_iload hx hb dL_law_404 (lv_at hl 0 rfl) ?_
    refine lv_i2l (v := Int32.toInt64 bv) hx hb dL_law_406 rfl ?_
    refine W.lcmp hx hb dL_law_407 ?_
    rw [lg_cmp_self]
    refine lv_if_eq (tgt := 413) hx hb dL_law_408 (by decide) (fun _ => ?_) (fun q => absurd rfl q)
    refine lv_goto (tgt := 1068) hx hb dL_law_413 (by decide) ?_
    exact W.widen (by omega) (by omega) (kk _ _ _ hP hS (lv_sub hl [2, 3, 4, 5, 6] rfl))
set_option maxHeartbeats 4000000 in
set_option maxRecDepth 100000 in
theorem q_endow {b L n : Nat} {xs : Nat → Int32} (hF : lwF p l R s m args c D ks b L xs) (hI : zIn Rs np ng) (hD : zD (fun q => s.heap.size ≤ q) Rs ad) (hP : zP D Rs ad (gS ks ad np ng G MI MJ XI XJ) H) (hS : va_S (fun q => s.heap.size ≤ q) s.heap H locs) (hn : 4 * n + 4 ≤ L) (hl : lv_has ls 8 (lwL ad b n)) (hcs : cells + 4 ≤ R.cells ∧ slots + 13 ≤ R.slots) {k : Int32} {bv : Int64} {MI1 MI2 XI1 : Nat → Nat → Int32} {MJ1 MJ2 XJ1 : Nat → Nat → Int64} {frW loW mcW msW frM loM : Nat} (hW : zMY l yL_endow cL_endow 4 [(0, 8, 11, 13)] frW loW mcW msW D ks H.size [.ref (ad 13), .int (xs (4 * n + 1)), .ref (ad 12)] (zP D Rs ad (gS ks ad np ng G MI MJ XI XJ)) k (zP D Rs ad (gS ks ad np ng G MI1 MJ1 XI1 XJ1)) (zA Rs ad H.size)) (hM : ∀ sz, zMW l yX4_endow cX4_endow 2 (some .long) frM loM 0 0 D ks sz [.ref (ad 0), .int (xs (4 * n + 1))] (zP D Rs ad (gS ks ad np ng G MI1 MJ1 XI1 XJ1)) (some (.long bv)) (zP D Rs ad (gS ks ad np ng G MI2 MJ2 XI1 XJ1)) (zA Rs ad sz)) (hth : MI2 0 7 = k) (hout : k = 0 → MJ2 3 0 = bv) (hr : frW + 1 ≤ 11 ∧ 8 + (4 + 11) + loW ≤ 388 ∧ mcW ≤ 4 ∧ msW ≤ 13 ∧ frM + 1 ≤ 11 ∧ 8 + (2 + 11) + loM ≤ 388)
    (kk : ∀ (H : Heap) (locs : List Loc) (ls : Array Slot), zP D Rs ad (gS ks ad np ng G MI2 MJ2 XI1 XJ1) H → va_S (fun q => s.heap.size ≤ q) s.heap H locs → lv_has ls 8 (lwL ad b n) → W p l e R s m args below meth c H locs (cells + 4) (slots + 13) Q (F0 m 1068 ls [])) : W p l e R s m args below meth c H locs cells slots Q (F0 m 416 ls []) := by
  obtain ⟨⟨hx, hb, hml, hown, hT⟩, ⟨hK, hZ, hUn⟩, ⟨hXs, hbl, hL⟩, hst, hRf, hRl⟩ := hF
  have hl : lv_has ls 8 [(4, .int (nI (4 * n))), (0, .ref b), (1, .ref (ad 13)), (2, .ref (ad 0)), (3, .ref (ad 12))] := hl
  have hAo : ∀ q, zA Rs ad H.size q → s.heap.size ≤ q := hD.free (fun q hq => Nat.le_trans hS.1 hq)
  refine lv_aload_n hx hb dL_law_416 rfl (lv_at hl 2 rfl) ?_
  refine lv_aload_n hx hb dL_law_417 rfl (lv_at hl 1 rfl) ?_
  refine lv_iload hx hb dL_law_418 (lv_at hl 0 rfl) ?_
  refine lv_iconst (v := nI 1) hx hb dL_law_420 (by decide) ?_
  refine lv_iadd hx hb dL_law_421 ?_
  rw [nI_add]
  refine va_sld hx hb hXs hbl (fun q => absurd q (Nat.not_le.mpr hbl)) hS (vp_in_nI (show 4 * n + 1 < L by omega) (by omega)) dL_law_422 ?_
  rw [nI_clamp (show 4 * n + 1 < 2 ^ 31 by omega)]
  refine lv_aload_n hx hb dL_law_423 rfl (lv_at hl 4 rfl) ?_
  refine z_backW1 (z_runY ⟨hx, hb, hml, hown, hT⟩ (rest := []) (As := [.ref (ad 13), .int (xs (4 * n + 1)), .ref (ad 12)]) (k := 3) (index := 86) hW cw_yL_endow ml_L_86 sm_yL_endow in_L ⟨by decide, by decide, by decide +kernel⟩ (z_preY hK hZ hUn hS hP) rfl ⟨by omega, by omega⟩ hl.1 rfl (Nat.le_of_ble_eq_true rfl) dL_law_424 ⟨by omega, by omega⟩) hS hAo (fun H locs hP hz hk2 hS => ?_)
  refine lv_istore (lv' := [(5, .int k), (4, .int (nI (4 * n))), (0, .ref b), (1, .ref (ad 13)), (2, .ref (ad 0)), (3, .ref (ad 12))]) hx hb dL_law_427 hl (by decide) rfl (fun ls hl => ?_)
  refine lv_aload_n hx hb dL_law_429 rfl (lv_at hl 4 rfl) ?_
  refine lv_aload_n hx hb dL_law_430 rfl (lv_at hl 2 rfl) ?_
  refine lv_iload hx hb dL_law_431 (lv_at hl 1 rfl) ?_
  refine lv_iconst (v := nI 1) hx hb dL_law_433 (by decide) ?_
  refine lv_iadd hx hb dL_law_434 ?_
  rw [nI_add]
  refine va_sld hx hb hXs hbl (fun q => absurd q (Nat.not_le.mpr hbl)) hS (vp_in_nI (show 4 * n + 1 < L by omega) (by omega)) dL_law_435 ?_
  rw [nI_clamp (show 4 * n + 1 < 2 ^ 31 by omega)]
  refine z_backW1 (z_runV ⟨hx, hb, hml, hown, hT⟩ (rest := []) (As := [.int (xs (4 * n + 1))]) (hM H.size) k_L_88 (z_preWV hK hP (hP.at (hI.1 0 (by decide)) rfl) rfl) rfl ⟨by omega, by omega⟩ hl.1 rfl (Nat.le_of_ble_eq_true rfl) dL_law_436 ⟨by omega, by omega⟩) hS (hD.free (fun q hq => Nat.le_trans hS.1 hq)) (fun H locs hP hz2 hk2 hS => ?_)
  refine lv_lstore (lv' := [(6, .long bv), (5, .int k), (4, .int (nI (4 * n))), (0, .ref b), (1, .ref (ad 13)), (2, .ref (ad 0)), (3, .ref (ad 12))]) hx hb dL_law_439 hl (by decide) rfl (fun ls hl => ?_)
  refine lv_aload_n hx hb dL_law_441 rfl (lv_at hl 5 rfl) ?_
  refine z_backR1 (z_runV ⟨hx, hb, hml, hown, hT⟩ (rest := []) (As := []) (c_X4_thrown l hI) k_L_71 (z_preRV hK hP (hP.at (hI.1 0 (by decide)) rfl) rfl) rfl ⟨by omega, by omega⟩ hl.1 rfl (Nat.le_of_ble_eq_true rfl) dL_law_442 ⟨by omega, by omega⟩) ?_
  refine lv_iload hx hb dL_law_445 (lv_at hl 1 rfl) ?_
  refine lv_icmp_eq (tgt := 452) hx hb dL_law_447 (by decide) (fun _ => ?_) (fun q => absurd hth q)
  refine lv_iload hx hb dL_law_452 (lv_at hl 1 rfl) ?_
  refine lv_if_ne (tgt := 468) hx hb dL_law_454 (by decide) (fun hk0 => ?_) (fun hk0 => ?_)
  · refine lv_goto (tgt := 1068) hx hb dL_law_468 (by decide) ?_
    exact W.widen (by omega) (by omega) (kk _ _ _ hP hS (lv_sub hl [2, 3, 4, 5, 6] rfl))
  · skip
    refine lv_aload_n hx hb dL_law_457 rfl (lv_at hl 6 rfl) ?_
    refine lv_iconst (v := nI 0) hx hb dL_law_458 (by decide) ?_
    refine z_laldN (j := 0) hx hb hK (hP.at (hI.1 12 (by decide)) rfl) (by decide) (by decide) (hout hk0) dL_law_459 ?_
    refine lv_lload hx hb dL_law_460 (lv_at hl 0 rfl) ?_
    refine W.lcmp hx hb dL_law_462 ?_
    rw [lg_cmp_self]
    refine lv_if_eq (tgt := 468) hx hb dL_law_463 (by decide) (fun _ => ?_) (fun q => absurd rfl q)
    refine lv_goto (tgt := 1068) hx hb dL_law_468 (by decide) ?_
    exact W.widen (by omega) (by omega) (kk _ _ _ hP hS (lv_sub hl [2, 3, 4, 5, 6] rfl))
set_option maxHeartbeats 4000000 in
set_option maxRecDepth 100000 in
theorem q_run {b L n : Nat} {xs : Nat → Int32} (hF : lwF p l R s m args c D ks b L xs) (hI : zIn Rs np ng) (hD : zD (fun q => s.heap.size ≤ q) Rs ad) (hP : zP D Rs ad (gS ks ad np ng G MI MJ XI XJ) H) (hS : va_S (fun q => s.heap.size ≤ q) s.heap H locs) (hn : 4 * n + 4 ≤ L) (hl : lv_has ls 8 (lwL ad b n)) (hcs : cells + 4 ≤ R.cells ∧ slots + 13 ≤ R.slots) {k : Int32} {bv : Int32} {MI1 MI2 XI1 : Nat → Nat → Int32} {MJ1 MJ2 XJ1 : Nat → Nat → Int64} {frW loW mcW msW frM loM : Nat} (hW : zMY l yL_run cL_run 4 [(0, 9, 12, 13), (0, 9, 15, 15)] frW loW mcW msW D ks H.size [.ref (ad 13), .int (xs (4 * n + 1)), .ref (ad 12)] (zP D Rs ad (gS ks ad np ng G MI MJ XI XJ)) k (zP D Rs ad (gS ks ad np ng G MI1 MJ1 XI1 XJ1)) (zA Rs ad H.size)) (hM : ∀ sz, zMW l yX4_run cX4_run 4 (some .int) frM loM 0 0 D ks sz [.ref (ad 0), .int (xs (4 * n + 1))] (zP D Rs ad (gS ks ad np ng G MI1 MJ1 XI1 XJ1)) (some (.int bv)) (zP D Rs ad (gS ks ad np ng G MI2 MJ2 XI1 XJ1)) (zA Rs ad sz)) (hth : MI2 0 7 = k) (hout : k = 0 → MJ2 3 0 = Int32.toInt64 bv) (hr : frW + 1 ≤ 11 ∧ 8 + (4 + 11) + loW ≤ 388 ∧ mcW ≤ 4 ∧ msW ≤ 13 ∧ frM + 1 ≤ 11 ∧ 8 + (4 + 11) + loM ≤ 388)
    (kk : ∀ (H : Heap) (locs : List Loc) (ls : Array Slot), zP D Rs ad (gS ks ad np ng G MI2 MJ2 XI1 XJ1) H → va_S (fun q => s.heap.size ≤ q) s.heap H locs → lv_has ls 8 (lwL ad b n) → W p l e R s m args below meth c H locs (cells + 4) (slots + 13) Q (F0 m 1068 ls [])) : W p l e R s m args below meth c H locs cells slots Q (F0 m 471 ls []) := by
  obtain ⟨⟨hx, hb, hml, hown, hT⟩, ⟨hK, hZ, hUn⟩, ⟨hXs, hbl, hL⟩, hst, hRf, hRl⟩ := hF
  have hl : lv_has ls 8 [(4, .int (nI (4 * n))), (0, .ref b), (1, .ref (ad 13)), (2, .ref (ad 0)), (3, .ref (ad 12))] := hl
  have hAo : ∀ q, zA Rs ad H.size q → s.heap.size ≤ q := hD.free (fun q hq => Nat.le_trans hS.1 hq)
  refine lv_aload_n hx hb dL_law_471 rfl (lv_at hl 2 rfl) ?_
  refine lv_aload_n hx hb dL_law_472 rfl (lv_at hl 1 rfl) ?_
  refine lv_iload hx hb dL_law_473 (lv_at hl 0 rfl) ?_
  refine lv_iconst (v := nI 1) hx hb dL_law_475 (by decide) ?_
  refine lv_iadd hx hb dL_law_476 ?_
  rw [nI_add]
  refine va_sld hx hb hXs hbl (fun q => absurd q (Nat.not_le.mpr hbl)) hS (vp_in_nI (show 4 * n + 1 < L by omega) (by omega)) dL_law_477 ?_
  rw [nI_clamp (show 4 * n + 1 < 2 ^ 31 by omega)]
  refine lv_aload_n hx hb dL_law_478 rfl (lv_at hl 4 rfl) ?_
  refine z_backW1 (z_runY ⟨hx, hb, hml, hown, hT⟩ (rest := []) (As := [.ref (ad 13), .int (xs (4 * n + 1)), .ref (ad 12)]) (k := 3) (index := 89) hW cw_yL_run ml_L_89 sm_yL_run in_L ⟨by decide, by decide, by decide +kernel⟩ (z_preY hK hZ hUn hS hP) rfl ⟨by omega, by omega⟩ hl.1 rfl (Nat.le_of_ble_eq_true rfl) dL_law_479 ⟨by omega, by omega⟩) hS hAo (fun H locs hP hz hk2 hS => ?_)
  refine lv_istore (lv' := [(5, .int k), (4, .int (nI (4 * n))), (0, .ref b), (1, .ref (ad 13)), (2, .ref (ad 0)), (3, .ref (ad 12))]) hx hb dL_law_482 hl (by decide) rfl (fun ls hl => ?_)
  refine lv_aload_n hx hb dL_law_484 rfl (lv_at hl 4 rfl) ?_
  refine lv_aload_n hx hb dL_law_485 rfl (lv_at hl 2 rfl) ?_
  refine lv_iload hx hb dL_law_486 (lv_at hl 1 rfl) ?_
  refine lv_iconst (v := nI 1) hx hb dL_law_488 (by decide) ?_
  refine lv_iadd hx hb dL_law_489 ?_
  rw [nI_add]
  refine va_sld hx hb hXs hbl (fun q => absurd q (Nat.not_le.mpr hbl)) hS (vp_in_nI (show 4 * n + 1 < L by omega) (by omega)) dL_law_490 ?_
  rw [nI_clamp (show 4 * n + 1 < 2 ^ 31 by omega)]
  refine z_backW1 (z_runV ⟨hx, hb, hml, hown, hT⟩ (rest := []) (As := [.int (xs (4 * n + 1))]) (hM H.size) k_L_91 (z_preWV hK hP (hP.at (hI.1 0 (by decide)) rfl) rfl) rfl ⟨by omega, by omega⟩ hl.1 rfl (Nat.le_of_ble_eq_true rfl) dL_law_491 ⟨by omega, by omega⟩) hS (hD.free (fun q hq => Nat.le_trans hS.1 hq)) (fun H locs hP hz2 hk2 hS => ?_)
  refine lv_istore (lv' := [(6, .int bv), (5, .int k), (4, .int (nI (4 * n))), (0, .ref b), (1, .ref (ad 13)), (2, .ref (ad 0)), (3, .ref (ad 12))]) hx hb dL_law_494 hl (by decide) rfl (fun ls hl => ?_)
  refine lv_aload_n hx hb dL_law_496 rfl (lv_at hl 5 rfl) ?_
  refine z_backR1 (z_runV ⟨hx, hb, hml, hown, hT⟩ (rest := []) (As := []) (c_X4_thrown l hI) k_L_71 (z_preRV hK hP (hP.at (hI.1 0 (by decide)) rfl) rfl) rfl ⟨by omega, by omega⟩ hl.1 rfl (Nat.le_of_ble_eq_true rfl) dL_law_497 ⟨by omega, by omega⟩) ?_
  refine lv_iload hx hb dL_law_500 (lv_at hl 1 rfl) ?_
  refine lv_icmp_eq (tgt := 507) hx hb dL_law_502 (by decide) (fun _ => ?_) (fun q => absurd hth q)
  refine lv_iload hx hb dL_law_507 (lv_at hl 1 rfl) ?_
  refine lv_if_ne (tgt := 524) hx hb dL_law_509 (by decide) (fun hk0 => ?_) (fun hk0 => ?_)
  · refine lv_goto (tgt := 1068) hx hb dL_law_524 (by decide) ?_
    exact W.widen (by omega) (by omega) (kk _ _ _ hP hS (lv_sub hl [2, 3, 4, 5, 6] rfl))
  · skip
    refine lv_aload_n hx hb dL_law_512 rfl (lv_at hl 6 rfl) ?_
    refine lv_iconst (v := nI 0) hx hb dL_law_513 (by decide) ?_
    refine z_laldN (j := 0) hx hb hK (hP.at (hI.1 12 (by decide)) rfl) (by decide) (by decide) (hout hk0) dL_law_514 ?_
    refine lv_iload hx hb dL_law_515 (lv_at hl 0 rfl) ?_
    refine lv_i2l (v := Int32.toInt64 bv) hx hb dL_law_517 rfl ?_
    refine W.lcmp hx hb dL_law_518 ?_
    rw [lg_cmp_self]
    refine lv_if_eq (tgt := 524) hx hb dL_law_519 (by decide) (fun _ => ?_) (fun q => absurd rfl q)
    refine lv_goto (tgt := 1068) hx hb dL_law_524 (by decide) ?_
    exact W.widen (by omega) (by omega) (kk _ _ _ hP hS (lv_sub hl [2, 3, 4, 5, 6] rfl))
set_option maxHeartbeats 4000000 in
set_option maxRecDepth 100000 in
theorem q_year {b L n : Nat} {xs : Nat → Int32} (hF : lwF p l R s m args c D ks b L xs) (hI : zIn Rs np ng) (hD : zD (fun q => s.heap.size ≤ q) Rs ad) (hP : zP D Rs ad (gS ks ad np ng G MI MJ XI XJ) H) (hS : va_S (fun q => s.heap.size ≤ q) s.heap H locs) (hn : 4 * n + 4 ≤ L) (hl : lv_has ls 8 (lwL ad b n)) (hcs : cells + 4 ≤ R.cells ∧ slots + 13 ≤ R.slots) {bv : Int32} {MI2 : Nat → Nat → Int32} {frW loW frM loM : Nat} (hW : zMR l yX3_year cX3_year 1 (some .int) frW loW D ks [.ref (ad 13)] (zP D Rs ad (gS ks ad np ng G MI MJ XI XJ)) (some (.int bv))) (hM : ∀ sz, zMW l yX4_year cX4_year 1 (some .int) frM loM 0 0 D ks sz [.ref (ad 0)] (zP D Rs ad (gS ks ad np ng G MI MJ XI XJ)) (some (.int bv)) (zP D Rs ad (gS ks ad np ng G MI2 MJ XI XJ)) (zA Rs ad sz)) (hr : frW + 1 ≤ 11 ∧ 8 + (1 + 11) + loW ≤ 388 ∧ frM + 1 ≤ 11 ∧ 8 + (1 + 11) + loM ≤ 388)
    (kk : ∀ (H : Heap) (locs : List Loc) (ls : Array Slot), zP D Rs ad (gS ks ad np ng G MI2 MJ XI XJ) H → va_S (fun q => s.heap.size ≤ q) s.heap H locs → lv_has ls 8 (lwL ad b n) → W p l e R s m args below meth c H locs (cells + 4) (slots + 13) Q (F0 m 1068 ls [])) : W p l e R s m args below meth c H locs cells slots Q (F0 m 527 ls []) := by
  obtain ⟨⟨hx, hb, hml, hown, hT⟩, ⟨hK, hZ, hUn⟩, ⟨hXs, hbl, hL⟩, hst, hRf, hRl⟩ := hF
  have hl : lv_has ls 8 [(4, .int (nI (4 * n))), (0, .ref b), (1, .ref (ad 13)), (2, .ref (ad 0)), (3, .ref (ad 12))] := hl
  have hAo : ∀ q, zA Rs ad H.size q → s.heap.size ≤ q := hD.free (fun q hq => Nat.le_trans hS.1 hq)
  refine lv_aload_n hx hb dL_law_527 rfl (lv_at hl 2 rfl) ?_
  refine z_backR1 (z_runV ⟨hx, hb, hml, hown, hT⟩ (rest := []) (As := []) hW k_L_92 (z_preRV hK hP (hP.at (hI.1 13 (by decide)) rfl) rfl) rfl ⟨by omega, by omega⟩ hl.1 rfl (Nat.le_of_ble_eq_true rfl) dL_law_528 ⟨by omega, by omega⟩) ?_
  refine lv_aload_n hx hb dL_law_531 rfl (lv_at hl 3 rfl) ?_
  refine z_backW1 (z_runV ⟨hx, hb, hml, hown, hT⟩ (rest := [.int bv]) (As := []) (hM H.size) k_L_95 (z_preWV hK hP (hP.at (hI.1 0 (by decide)) rfl) rfl) rfl ⟨by omega, by omega⟩ hl.1 rfl (Nat.le_of_ble_eq_true rfl) dL_law_532 ⟨by omega, by omega⟩) hS hAo (fun H locs hP hz2 hk2 hS => ?_)
  refine lv_icmp_eq (tgt := 1068) hx hb dL_law_535 (by decide) (fun _ => ?_) (fun q => absurd rfl q)
  exact W.widen (by omega) (by omega) (kk _ _ _ hP hS hl)
set_option maxHeartbeats 4000000 in
set_option maxRecDepth 100000 in
theorem q_policies {b L n : Nat} {xs : Nat → Int32} (hF : lwF p l R s m args c D ks b L xs) (hI : zIn Rs np ng) (hD : zD (fun q => s.heap.size ≤ q) Rs ad) (hP : zP D Rs ad (gS ks ad np ng G MI MJ XI XJ) H) (hS : va_S (fun q => s.heap.size ≤ q) s.heap H locs) (hn : 4 * n + 4 ≤ L) (hl : lv_has ls 8 (lwL ad b n)) (hcs : cells + 4 ≤ R.cells ∧ slots + 13 ≤ R.slots) {bv : Int32} {MI2 : Nat → Nat → Int32} {frW loW frM loM : Nat} (hW : zMR l yX3_policies cX3_policies 1 (some .int) frW loW D ks [.ref (ad 13)] (zP D Rs ad (gS ks ad np ng G MI MJ XI XJ)) (some (.int bv))) (hM : ∀ sz, zMW l yX4_policies cX4_policies 1 (some .int) frM loM 0 0 D ks sz [.ref (ad 0)] (zP D Rs ad (gS ks ad np ng G MI MJ XI XJ)) (some (.int bv)) (zP D Rs ad (gS ks ad np ng G MI2 MJ XI XJ)) (zA Rs ad sz)) (hr : frW + 1 ≤ 11 ∧ 8 + (1 + 11) + loW ≤ 388 ∧ frM + 1 ≤ 11 ∧ 8 + (1 + 11) + loM ≤ 388)
    (kk : ∀ (H : Heap) (locs : List Loc) (ls : Array Slot), zP D Rs ad (gS ks ad np ng G MI2 MJ XI XJ) H → va_S (fun q => s.heap.size ≤ q) s.heap H locs → lv_has ls 8 (lwL ad b n) → W p l e R s m args below meth c H locs (cells + 4) (slots + 13) Q (F0 m 1068 ls [])) : W p l e R s m args below meth c H locs cells slots Q (F0 m 540 ls []) := by
  obtain ⟨⟨hx, hb, hml, hown, hT⟩, ⟨hK, hZ, hUn⟩, ⟨hXs, hbl, hL⟩, hst, hRf, hRl⟩ := hF
  have hl : lv_has ls 8 [(4, .int (nI (4 * n))), (0, .ref b), (1, .ref (ad 13)), (2, .ref (ad 0)), (3, .ref (ad 12))] := hl
  have hAo : ∀ q, zA Rs ad H.size q → s.heap.size ≤ q := hD.free (fun q hq => Nat.le_trans hS.1 hq)
  refine lv_aload_n hx hb dL_law_540 rfl (lv_at hl 2 rfl) ?_
  refine z_backR1 (z_runV ⟨hx, hb, hml, hown, hT⟩ (rest := []) (As := []) hW k_L_96 (z_preRV hK hP (hP.at (hI.1 13 (by decide)) rfl) rfl) rfl ⟨by omega, by omega⟩ hl.1 rfl (Nat.le_of_ble_eq_true rfl) dL_law_541 ⟨by omega, by omega⟩) ?_
  refine lv_aload_n hx hb dL_law_544 rfl (lv_at hl 3 rfl) ?_
  refine z_backW1 (z_runV ⟨hx, hb, hml, hown, hT⟩ (rest := [.int bv]) (As := []) (hM H.size) k_L_99 (z_preWV hK hP (hP.at (hI.1 0 (by decide)) rfl) rfl) rfl ⟨by omega, by omega⟩ hl.1 rfl (Nat.le_of_ble_eq_true rfl) dL_law_545 ⟨by omega, by omega⟩) hS hAo (fun H locs hP hz2 hk2 hS => ?_)
  refine lv_icmp_eq (tgt := 1068) hx hb dL_law_548 (by decide) (fun _ => ?_) (fun q => absurd rfl q)
  exact W.widen (by omega) (by omega) (kk _ _ _ hP hS hl)
set_option maxHeartbeats 4000000 in
set_option maxRecDepth 100000 in
theorem q_stateOf {b L n : Nat} {xs : Nat → Int32} (hF : lwF p l R s m args c D ks b L xs) (hI : zIn Rs np ng) (hD : zD (fun q => s.heap.size ≤ q) Rs ad) (hP : zP D Rs ad (gS ks ad np ng G MI MJ XI XJ) H) (hS : va_S (fun q => s.heap.size ≤ q) s.heap H locs) (hn : 4 * n + 4 ≤ L) (hl : lv_has ls 8 (lwL ad b n)) (hcs : cells + 4 ≤ R.cells ∧ slots + 13 ≤ R.slots) {k : Int32} {bv : Int32} {MI1 MI2 XI1 : Nat → Nat → Int32} {MJ1 MJ2 XJ1 : Nat → Nat → Int64} {frW loW mcW msW frM loM : Nat} (hW : zMY l yL_stateOf cL_stateOf 4 [(0, 9, 12, 21)] frW loW mcW msW D ks H.size [.ref (ad 13), .int (xs (4 * n + 1)), .ref (ad 12)] (zP D Rs ad (gS ks ad np ng G MI MJ XI XJ)) k (zP D Rs ad (gS ks ad np ng G MI1 MJ1 XI1 XJ1)) (zA Rs ad H.size)) (hM : ∀ sz, zMW l yX4_stateOf cX4_stateOf 2 (some .int) frM loM 0 0 D ks sz [.ref (ad 0), .int (xs (4 * n + 1))] (zP D Rs ad (gS ks ad np ng G MI1 MJ1 XI1 XJ1)) (some (.int bv)) (zP D Rs ad (gS ks ad np ng G MI2 MJ2 XI1 XJ1)) (zA Rs ad sz)) (hth : MI2 0 7 = k) (hout : k = 0 → MJ2 3 0 = Int32.toInt64 bv) (hr : frW + 1 ≤ 11 ∧ 8 + (4 + 11) + loW ≤ 388 ∧ mcW ≤ 4 ∧ msW ≤ 13 ∧ frM + 1 ≤ 11 ∧ 8 + (2 + 11) + loM ≤ 388)
    (kk : ∀ (H : Heap) (locs : List Loc) (ls : Array Slot), zP D Rs ad (gS ks ad np ng G MI2 MJ2 XI1 XJ1) H → va_S (fun q => s.heap.size ≤ q) s.heap H locs → lv_has ls 8 (lwL ad b n) → W p l e R s m args below meth c H locs (cells + 4) (slots + 13) Q (F0 m 1068 ls [])) : W p l e R s m args below meth c H locs cells slots Q (F0 m 553 ls []) := by
  obtain ⟨⟨hx, hb, hml, hown, hT⟩, ⟨hK, hZ, hUn⟩, ⟨hXs, hbl, hL⟩, hst, hRf, hRl⟩ := hF
  have hl : lv_has ls 8 [(4, .int (nI (4 * n))), (0, .ref b), (1, .ref (ad 13)), (2, .ref (ad 0)), (3, .ref (ad 12))] := hl
  have hAo : ∀ q, zA Rs ad H.size q → s.heap.size ≤ q := hD.free (fun q hq => Nat.le_trans hS.1 hq)
  refine lv_aload_n hx hb dL_law_553 rfl (lv_at hl 2 rfl) ?_
  refine lv_aload_n hx hb dL_law_554 rfl (lv_at hl 1 rfl) ?_
  refine lv_iload hx hb dL_law_555 (lv_at hl 0 rfl) ?_
  refine lv_iconst (v := nI 1) hx hb dL_law_557 (by decide) ?_
  refine lv_iadd hx hb dL_law_558 ?_
  rw [nI_add]
  refine va_sld hx hb hXs hbl (fun q => absurd q (Nat.not_le.mpr hbl)) hS (vp_in_nI (show 4 * n + 1 < L by omega) (by omega)) dL_law_559 ?_
  rw [nI_clamp (show 4 * n + 1 < 2 ^ 31 by omega)]
  refine lv_aload_n hx hb dL_law_560 rfl (lv_at hl 4 rfl) ?_
  refine z_backW1 (z_runY ⟨hx, hb, hml, hown, hT⟩ (rest := []) (As := [.ref (ad 13), .int (xs (4 * n + 1)), .ref (ad 12)]) (k := 3) (index := 100) hW cw_yL_stateOf ml_L_100 sm_yL_stateOf in_L ⟨by decide, by decide, by decide +kernel⟩ (z_preY hK hZ hUn hS hP) rfl ⟨by omega, by omega⟩ hl.1 rfl (Nat.le_of_ble_eq_true rfl) dL_law_561 ⟨by omega, by omega⟩) hS hAo (fun H locs hP hz hk2 hS => ?_)
  refine lv_istore (lv' := [(5, .int k), (4, .int (nI (4 * n))), (0, .ref b), (1, .ref (ad 13)), (2, .ref (ad 0)), (3, .ref (ad 12))]) hx hb dL_law_564 hl (by decide) rfl (fun ls hl => ?_)
  refine lv_aload_n hx hb dL_law_566 rfl (lv_at hl 4 rfl) ?_
  refine lv_aload_n hx hb dL_law_567 rfl (lv_at hl 2 rfl) ?_
  refine lv_iload hx hb dL_law_568 (lv_at hl 1 rfl) ?_
  refine lv_iconst (v := nI 1) hx hb dL_law_570 (by decide) ?_
  refine lv_iadd hx hb dL_law_571 ?_
  rw [nI_add]
  refine va_sld hx hb hXs hbl (fun q => absurd q (Nat.not_le.mpr hbl)) hS (vp_in_nI (show 4 * n + 1 < L by omega) (by omega)) dL_law_572 ?_
  rw [nI_clamp (show 4 * n + 1 < 2 ^ 31 by omega)]
  refine z_backW1 (z_runV ⟨hx, hb, hml, hown, hT⟩ (rest := []) (As := [.int (xs (4 * n + 1))]) (hM H.size) k_L_102 (z_preWV hK hP (hP.at (hI.1 0 (by decide)) rfl) rfl) rfl ⟨by omega, by omega⟩ hl.1 rfl (Nat.le_of_ble_eq_true rfl) dL_law_573 ⟨by omega, by omega⟩) hS (hD.free (fun q hq => Nat.le_trans hS.1 hq)) (fun H locs hP hz2 hk2 hS => ?_)
  refine lv_istore (lv' := [(6, .int bv), (5, .int k), (4, .int (nI (4 * n))), (0, .ref b), (1, .ref (ad 13)), (2, .ref (ad 0)), (3, .ref (ad 12))]) hx hb dL_law_576 hl (by decide) rfl (fun ls hl => ?_)
  refine lv_aload_n hx hb dL_law_578 rfl (lv_at hl 5 rfl) ?_
  refine z_backR1 (z_runV ⟨hx, hb, hml, hown, hT⟩ (rest := []) (As := []) (c_X4_thrown l hI) k_L_71 (z_preRV hK hP (hP.at (hI.1 0 (by decide)) rfl) rfl) rfl ⟨by omega, by omega⟩ hl.1 rfl (Nat.le_of_ble_eq_true rfl) dL_law_579 ⟨by omega, by omega⟩) ?_
  refine lv_iload hx hb dL_law_582 (lv_at hl 1 rfl) ?_
  refine lv_icmp_eq (tgt := 589) hx hb dL_law_584 (by decide) (fun _ => ?_) (fun q => absurd hth q)
  refine lv_iload hx hb dL_law_589 (lv_at hl 1 rfl) ?_
  refine lv_if_ne (tgt := 606) hx hb dL_law_591 (by decide) (fun hk0 => ?_) (fun hk0 => ?_)
  · refine lv_goto (tgt := 1068) hx hb dL_law_606 (by decide) ?_
    exact W.widen (by omega) (by omega) (kk _ _ _ hP hS (lv_sub hl [2, 3, 4, 5, 6] rfl))
  · skip
    refine lv_aload_n hx hb dL_law_594 rfl (lv_at hl 6 rfl) ?_
    refine lv_iconst (v := nI 0) hx hb dL_law_595 (by decide) ?_
    refine z_laldN (j := 0) hx hb hK (hP.at (hI.1 12 (by decide)) rfl) (by decide) (by decide) (hout hk0) dL_law_596 ?_
    refine lv_iload hx hb dL_law_597 (lv_at hl 0 rfl) ?_
    refine lv_i2l (v := Int32.toInt64 bv) hx hb dL_law_599 rfl ?_
    refine W.lcmp hx hb dL_law_600 ?_
    rw [lg_cmp_self]
    refine lv_if_eq (tgt := 606) hx hb dL_law_601 (by decide) (fun _ => ?_) (fun q => absurd rfl q)
    refine lv_goto (tgt := 1068) hx hb dL_law_606 (by decide) ?_
    exact W.widen (by omega) (by omega) (kk _ _ _ hP hS (lv_sub hl [2, 3, 4, 5, 6] rfl))
set_option maxHeartbeats 4000000 in
set_option maxRecDepth 100000 in
theorem q_bonuses {b L n : Nat} {xs : Nat → Int32} (hF : lwF p l R s m args c D ks b L xs) (hI : zIn Rs np ng) (hD : zD (fun q => s.heap.size ≤ q) Rs ad) (hP : zP D Rs ad (gS ks ad np ng G MI MJ XI XJ) H) (hS : va_S (fun q => s.heap.size ≤ q) s.heap H locs) (hn : 4 * n + 4 ≤ L) (hl : lv_has ls 8 (lwL ad b n)) (hcs : cells + 4 ≤ R.cells ∧ slots + 13 ≤ R.slots) {k : Int32} {bv : Int32} {MI1 MI2 XI1 : Nat → Nat → Int32} {MJ1 MJ2 XJ1 : Nat → Nat → Int64} {frW loW mcW msW frM loM : Nat} (hW : zMY l yL_bonuses cL_bonuses 4 [(0, 9, 12, 21)] frW loW mcW msW D ks H.size [.ref (ad 13), .int (xs (4 * n + 1)), .ref (ad 12)] (zP D Rs ad (gS ks ad np ng G MI MJ XI XJ)) k (zP D Rs ad (gS ks ad np ng G MI1 MJ1 XI1 XJ1)) (zA Rs ad H.size)) (hM : ∀ sz, zMW l yX4_bonuses cX4_bonuses 2 (some .int) frM loM 0 0 D ks sz [.ref (ad 0), .int (xs (4 * n + 1))] (zP D Rs ad (gS ks ad np ng G MI1 MJ1 XI1 XJ1)) (some (.int bv)) (zP D Rs ad (gS ks ad np ng G MI2 MJ2 XI1 XJ1)) (zA Rs ad sz)) (hth : MI2 0 7 = k) (hout : k = 0 → MJ2 3 0 = Int32.toInt64 bv) (hr : frW + 1 ≤ 11 ∧ 8 + (4 + 11) + loW ≤ 388 ∧ mcW ≤ 4 ∧ msW ≤ 13 ∧ frM + 1 ≤ 11 ∧ 8 + (2 + 11) + loM ≤ 388)
    (kk : ∀ (H : Heap) (locs : List Loc) (ls : Array Slot), zP D Rs ad (gS ks ad np ng G MI2 MJ2 XI1 XJ1) H → va_S (fun q => s.heap.size ≤ q) s.heap H locs → lv_has ls 8 (lwL ad b n) → W p l e R s m args below meth c H locs (cells + 4) (slots + 13) Q (F0 m 1068 ls [])) : W p l e R s m args below meth c H locs cells slots Q (F0 m 609 ls []) := by
  obtain ⟨⟨hx, hb, hml, hown, hT⟩, ⟨hK, hZ, hUn⟩, ⟨hXs, hbl, hL⟩, hst, hRf, hRl⟩ := hF
  have hl : lv_has ls 8 [(4, .int (nI (4 * n))), (0, .ref b), (1, .ref (ad 13)), (2, .ref (ad 0)), (3, .ref (ad 12))] := hl
  have hAo : ∀ q, zA Rs ad H.size q → s.heap.size ≤ q := hD.free (fun q hq => Nat.le_trans hS.1 hq)
  refine lv_aload_n hx hb dL_law_609 rfl (lv_at hl 2 rfl) ?_
  refine lv_aload_n hx hb dL_law_610 rfl (lv_at hl 1 rfl) ?_
  refine lv_iload hx hb dL_law_611 (lv_at hl 0 rfl) ?_
  refine lv_iconst (v := nI 1) hx hb dL_law_613 (by decide) ?_
  refine lv_iadd hx hb dL_law_614 ?_
  rw [nI_add]
  refine va_sld hx hb hXs hbl (fun q => absurd q (Nat.not_le.mpr hbl)) hS (vp_in_nI (show 4 * n + 1 < L by omega) (by omega)) dL_law_615 ?_
  rw [nI_clamp (show 4 * n + 1 < 2 ^ 31 by omega)]
  refine lv_aload_n hx hb dL_law_616 rfl (lv_at hl 4 rfl) ?_
  refine z_backW1 (z_runY ⟨hx, hb, hml, hown, hT⟩ (rest := []) (As := [.ref (ad 13), .int (xs (4 * n + 1)), .ref (ad 12)]) (k := 3) (index := 103) hW cw_yL_bonuses ml_L_103 sm_yL_bonuses in_L ⟨by decide, by decide, by decide +kernel⟩ (z_preY hK hZ hUn hS hP) rfl ⟨by omega, by omega⟩ hl.1 rfl (Nat.le_of_ble_eq_true rfl) dL_law_617 ⟨by omega, by omega⟩) hS hAo (fun H locs hP hz hk2 hS => ?_)
  refine lv_istore (lv' := [(5, .int k), (4, .int (nI (4 * n))), (0, .ref b), (1, .ref (ad 13)), (2, .ref (ad 0)), (3, .ref (ad 12))]) hx hb dL_law_620 hl (by decide) rfl (fun ls hl => ?_)
  refine lv_aload_n hx hb dL_law_622 rfl (lv_at hl 4 rfl) ?_
  refine lv_aload_n hx hb dL_law_623 rfl (lv_at hl 2 rfl) ?_
  refine lv_iload hx hb dL_law_624 (lv_at hl 1 rfl) ?_
  refine lv_iconst (v := nI 1) hx hb dL_law_626 (by decide) ?_
  refine lv_iadd hx hb dL_law_627 ?_
  rw [nI_add]
  refine va_sld hx hb hXs hbl (fun q => absurd q (Nat.not_le.mpr hbl)) hS (vp_in_nI (show 4 * n + 1 < L by omega) (by omega)) dL_law_628 ?_
  rw [nI_clamp (show 4 * n + 1 < 2 ^ 31 by omega)]
  refine z_backW1 (z_runV ⟨hx, hb, hml, hown, hT⟩ (rest := []) (As := [.int (xs (4 * n + 1))]) (hM H.size) k_L_105 (z_preWV hK hP (hP.at (hI.1 0 (by decide)) rfl) rfl) rfl ⟨by omega, by omega⟩ hl.1 rfl (Nat.le_of_ble_eq_true rfl) dL_law_629 ⟨by omega, by omega⟩) hS (hD.free (fun q hq => Nat.le_trans hS.1 hq)) (fun H locs hP hz2 hk2 hS => ?_)
  refine lv_istore (lv' := [(6, .int bv), (5, .int k), (4, .int (nI (4 * n))), (0, .ref b), (1, .ref (ad 13)), (2, .ref (ad 0)), (3, .ref (ad 12))]) hx hb dL_law_632 hl (by decide) rfl (fun ls hl => ?_)
  refine lv_aload_n hx hb dL_law_634 rfl (lv_at hl 5 rfl) ?_
  refine z_backR1 (z_runV ⟨hx, hb, hml, hown, hT⟩ (rest := []) (As := []) (c_X4_thrown l hI) k_L_71 (z_preRV hK hP (hP.at (hI.1 0 (by decide)) rfl) rfl) rfl ⟨by omega, by omega⟩ hl.1 rfl (Nat.le_of_ble_eq_true rfl) dL_law_635 ⟨by omega, by omega⟩) ?_
  refine lv_iload hx hb dL_law_638 (lv_at hl 1 rfl) ?_
  refine lv_icmp_eq (tgt := 645) hx hb dL_law_640 (by decide) (fun _ => ?_) (fun q => absurd hth q)
  refine lv_iload hx hb dL_law_645 (lv_at hl 1 rfl) ?_
  refine lv_if_ne (tgt := 662) hx hb dL_law_647 (by decide) (fun hk0 => ?_) (fun hk0 => ?_)
  · refine lv_goto (tgt := 1068) hx hb dL_law_662 (by decide) ?_
    exact W.widen (by omega) (by omega) (kk _ _ _ hP hS (lv_sub hl [2, 3, 4, 5, 6] rfl))
  · skip
    refine lv_aload_n hx hb dL_law_650 rfl (lv_at hl 6 rfl) ?_
    refine lv_iconst (v := nI 0) hx hb dL_law_651 (by decide) ?_
    refine z_laldN (j := 0) hx hb hK (hP.at (hI.1 12 (by decide)) rfl) (by decide) (by decide) (hout hk0) dL_law_652 ?_
    refine lv_iload hx hb dL_law_653 (lv_at hl 0 rfl) ?_
    refine lv_i2l (v := Int32.toInt64 bv) hx hb dL_law_655 rfl ?_
    refine W.lcmp hx hb dL_law_656 ?_
    rw [lg_cmp_self]
    refine lv_if_eq (tgt := 662) hx hb dL_law_657 (by decide) (fun _ => ?_) (fun q => absurd rfl q)
    refine lv_goto (tgt := 1068) hx hb dL_law_662 (by decide) ?_
    exact W.widen (by omega) (by omega) (kk _ _ _ hP hS (lv_sub hl [2, 3, 4, 5, 6] rfl))
set_option maxHeartbeats 4000000 in
set_option maxRecDepth 100000 in
theorem q_shareOf {b L n : Nat} {xs : Nat → Int32} (hF : lwF p l R s m args c D ks b L xs) (hI : zIn Rs np ng) (hD : zD (fun q => s.heap.size ≤ q) Rs ad) (hP : zP D Rs ad (gS ks ad np ng G MI MJ XI XJ) H) (hS : va_S (fun q => s.heap.size ≤ q) s.heap H locs) (hn : 4 * n + 4 ≤ L) (hl : lv_has ls 8 (lwL ad b n)) (hcs : cells + 4 ≤ R.cells ∧ slots + 13 ≤ R.slots) {k : Int32} {bv : Int32} {MI1 MI2 XI1 : Nat → Nat → Int32} {MJ1 MJ2 XJ1 : Nat → Nat → Int64} {frW loW mcW msW frM loM : Nat} (hW : zMY l yL_shareOf cL_shareOf 4 [(0, 9, 12, 21)] frW loW mcW msW D ks H.size [.ref (ad 13), .int (xs (4 * n + 1)), .ref (ad 12)] (zP D Rs ad (gS ks ad np ng G MI MJ XI XJ)) k (zP D Rs ad (gS ks ad np ng G MI1 MJ1 XI1 XJ1)) (zA Rs ad H.size)) (hM : ∀ sz, zMW l yX4_shareOf cX4_shareOf 2 (some .int) frM loM 0 0 D ks sz [.ref (ad 0), .int (xs (4 * n + 1))] (zP D Rs ad (gS ks ad np ng G MI1 MJ1 XI1 XJ1)) (some (.int bv)) (zP D Rs ad (gS ks ad np ng G MI2 MJ2 XI1 XJ1)) (zA Rs ad sz)) (hth : MI2 0 7 = k) (hout : k = 0 → MJ2 3 0 = Int32.toInt64 bv) (hr : frW + 1 ≤ 11 ∧ 8 + (4 + 11) + loW ≤ 388 ∧ mcW ≤ 4 ∧ msW ≤ 13 ∧ frM + 1 ≤ 11 ∧ 8 + (2 + 11) + loM ≤ 388)
    (kk : ∀ (H : Heap) (locs : List Loc) (ls : Array Slot), zP D Rs ad (gS ks ad np ng G MI2 MJ2 XI1 XJ1) H → va_S (fun q => s.heap.size ≤ q) s.heap H locs → lv_has ls 8 (lwL ad b n) → W p l e R s m args below meth c H locs (cells + 4) (slots + 13) Q (F0 m 1068 ls [])) : W p l e R s m args below meth c H locs cells slots Q (F0 m 665 ls []) := by
  obtain ⟨⟨hx, hb, hml, hown, hT⟩, ⟨hK, hZ, hUn⟩, ⟨hXs, hbl, hL⟩, hst, hRf, hRl⟩ := hF
  have hl : lv_has ls 8 [(4, .int (nI (4 * n))), (0, .ref b), (1, .ref (ad 13)), (2, .ref (ad 0)), (3, .ref (ad 12))] := hl
  have hAo : ∀ q, zA Rs ad H.size q → s.heap.size ≤ q := hD.free (fun q hq => Nat.le_trans hS.1 hq)
  refine lv_aload_n hx hb dL_law_665 rfl (lv_at hl 2 rfl) ?_
  refine lv_aload_n hx hb dL_law_666 rfl (lv_at hl 1 rfl) ?_
  refine lv_iload hx hb dL_law_667 (lv_at hl 0 rfl) ?_
  refine lv_iconst (v := nI 1) hx hb dL_law_669 (by decide) ?_
  refine lv_iadd hx hb dL_law_670 ?_
  rw [nI_add]
  refine va_sld hx hb hXs hbl (fun q => absurd q (Nat.not_le.mpr hbl)) hS (vp_in_nI (show 4 * n + 1 < L by omega) (by omega)) dL_law_671 ?_
  rw [nI_clamp (show 4 * n + 1 < 2 ^ 31 by omega)]
  refine lv_aload_n hx hb dL_law_672 rfl (lv_at hl 4 rfl) ?_
  refine z_backW1 (z_runY ⟨hx, hb, hml, hown, hT⟩ (rest := []) (As := [.ref (ad 13), .int (xs (4 * n + 1)), .ref (ad 12)]) (k := 3) (index := 106) hW cw_yL_shareOf ml_L_106 sm_yL_shareOf in_L ⟨by decide, by decide, by decide +kernel⟩ (z_preY hK hZ hUn hS hP) rfl ⟨by omega, by omega⟩ hl.1 rfl (Nat.le_of_ble_eq_true rfl) dL_law_673 ⟨by omega, by omega⟩) hS hAo (fun H locs hP hz hk2 hS => ?_)
  refine lv_istore (lv' := [(5, .int k), (4, .int (nI (4 * n))), (0, .ref b), (1, .ref (ad 13)), (2, .ref (ad 0)), (3, .ref (ad 12))]) hx hb dL_law_676 hl (by decide) rfl (fun ls hl => ?_)
  refine lv_aload_n hx hb dL_law_678 rfl (lv_at hl 4 rfl) ?_
  refine lv_aload_n hx hb dL_law_679 rfl (lv_at hl 2 rfl) ?_
  refine lv_iload hx hb dL_law_680 (lv_at hl 1 rfl) ?_
  refine lv_iconst (v := nI 1) hx hb dL_law_682 (by decide) ?_
  refine lv_iadd hx hb dL_law_683 ?_
  rw [nI_add]
  refine va_sld hx hb hXs hbl (fun q => absurd q (Nat.not_le.mpr hbl)) hS (vp_in_nI (show 4 * n + 1 < L by omega) (by omega)) dL_law_684 ?_
  rw [nI_clamp (show 4 * n + 1 < 2 ^ 31 by omega)]
  refine z_backW1 (z_runV ⟨hx, hb, hml, hown, hT⟩ (rest := []) (As := [.int (xs (4 * n + 1))]) (hM H.size) k_L_108 (z_preWV hK hP (hP.at (hI.1 0 (by decide)) rfl) rfl) rfl ⟨by omega, by omega⟩ hl.1 rfl (Nat.le_of_ble_eq_true rfl) dL_law_685 ⟨by omega, by omega⟩) hS (hD.free (fun q hq => Nat.le_trans hS.1 hq)) (fun H locs hP hz2 hk2 hS => ?_)
  refine lv_istore (lv' := [(6, .int bv), (5, .int k), (4, .int (nI (4 * n))), (0, .ref b), (1, .ref (ad 13)), (2, .ref (ad 0)), (3, .ref (ad 12))]) hx hb dL_law_688 hl (by decide) rfl (fun ls hl => ?_)
  refine lv_aload_n hx hb dL_law_690 rfl (lv_at hl 5 rfl) ?_
  refine z_backR1 (z_runV ⟨hx, hb, hml, hown, hT⟩ (rest := []) (As := []) (c_X4_thrown l hI) k_L_71 (z_preRV hK hP (hP.at (hI.1 0 (by decide)) rfl) rfl) rfl ⟨by omega, by omega⟩ hl.1 rfl (Nat.le_of_ble_eq_true rfl) dL_law_691 ⟨by omega, by omega⟩) ?_
  refine lv_iload hx hb dL_law_694 (lv_at hl 1 rfl) ?_
  refine lv_icmp_eq (tgt := 701) hx hb dL_law_696 (by decide) (fun _ => ?_) (fun q => absurd hth q)
  refine lv_iload hx hb dL_law_701 (lv_at hl 1 rfl) ?_
  refine lv_if_ne (tgt := 718) hx hb dL_law_703 (by decide) (fun hk0 => ?_) (fun hk0 => ?_)
  · refine lv_goto (tgt := 1068) hx hb dL_law_718 (by decide) ?_
    exact W.widen (by omega) (by omega) (kk _ _ _ hP hS (lv_sub hl [2, 3, 4, 5, 6] rfl))
  · skip
    refine lv_aload_n hx hb dL_law_706 rfl (lv_at hl 6 rfl) ?_
    refine lv_iconst (v := nI 0) hx hb dL_law_707 (by decide) ?_
    refine z_laldN (j := 0) hx hb hK (hP.at (hI.1 12 (by decide)) rfl) (by decide) (by decide) (hout hk0) dL_law_708 ?_
    refine lv_iload hx hb dL_law_709 (lv_at hl 0 rfl) ?_
    refine lv_i2l (v := Int32.toInt64 bv) hx hb dL_law_711 rfl ?_
    refine W.lcmp hx hb dL_law_712 ?_
    rw [lg_cmp_self]
    refine lv_if_eq (tgt := 718) hx hb dL_law_713 (by decide) (fun _ => ?_) (fun q => absurd rfl q)
    refine lv_goto (tgt := 1068) hx hb dL_law_718 (by decide) ?_
    exact W.widen (by omega) (by omega) (kk _ _ _ hP hS (lv_sub hl [2, 3, 4, 5, 6] rfl))
set_option maxHeartbeats 4000000 in
set_option maxRecDepth 100000 in
theorem q_shareAlone {b L n : Nat} {xs : Nat → Int32} (hF : lwF p l R s m args c D ks b L xs) (hI : zIn Rs np ng) (hD : zD (fun q => s.heap.size ≤ q) Rs ad) (hP : zP D Rs ad (gS ks ad np ng G MI MJ XI XJ) H) (hS : va_S (fun q => s.heap.size ≤ q) s.heap H locs) (hn : 4 * n + 4 ≤ L) (hl : lv_has ls 8 (lwL ad b n)) (hcs : cells + 4 ≤ R.cells ∧ slots + 13 ≤ R.slots) {k : Int32} {bv : Int32} {MI1 MI2 XI1 : Nat → Nat → Int32} {MJ1 MJ2 XJ1 : Nat → Nat → Int64} {frW loW mcW msW frM loM : Nat} (hW : zMY l yL_shareAlone cL_shareAlone 4 [(0, 9, 12, 21)] frW loW mcW msW D ks H.size [.ref (ad 13), .int (xs (4 * n + 1)), .ref (ad 12)] (zP D Rs ad (gS ks ad np ng G MI MJ XI XJ)) k (zP D Rs ad (gS ks ad np ng G MI1 MJ1 XI1 XJ1)) (zA Rs ad H.size)) (hM : ∀ sz, zMW l yX4_shareAlone cX4_shareAlone 2 (some .int) frM loM 0 0 D ks sz [.ref (ad 0), .int (xs (4 * n + 1))] (zP D Rs ad (gS ks ad np ng G MI1 MJ1 XI1 XJ1)) (some (.int bv)) (zP D Rs ad (gS ks ad np ng G MI2 MJ2 XI1 XJ1)) (zA Rs ad sz)) (hth : MI2 0 7 = k) (hout : k = 0 → MJ2 3 0 = Int32.toInt64 bv) (hr : frW + 1 ≤ 11 ∧ 8 + (4 + 11) + loW ≤ 388 ∧ mcW ≤ 4 ∧ msW ≤ 13 ∧ frM + 1 ≤ 11 ∧ 8 + (2 + 11) + loM ≤ 388)
    (kk : ∀ (H : Heap) (locs : List Loc) (ls : Array Slot), zP D Rs ad (gS ks ad np ng G MI2 MJ2 XI1 XJ1) H → va_S (fun q => s.heap.size ≤ q) s.heap H locs → lv_has ls 8 (lwL ad b n) → W p l e R s m args below meth c H locs (cells + 4) (slots + 13) Q (F0 m 1068 ls [])) : W p l e R s m args below meth c H locs cells slots Q (F0 m 721 ls []) := by
  obtain ⟨⟨hx, hb, hml, hown, hT⟩, ⟨hK, hZ, hUn⟩, ⟨hXs, hbl, hL⟩, hst, hRf, hRl⟩ := hF
  have hl : lv_has ls 8 [(4, .int (nI (4 * n))), (0, .ref b), (1, .ref (ad 13)), (2, .ref (ad 0)), (3, .ref (ad 12))] := hl
  have hAo : ∀ q, zA Rs ad H.size q → s.heap.size ≤ q := hD.free (fun q hq => Nat.le_trans hS.1 hq)
  refine lv_aload_n hx hb dL_law_721 rfl (lv_at hl 2 rfl) ?_
  refine lv_aload_n hx hb dL_law_722 rfl (lv_at hl 1 rfl) ?_
  refine lv_iload hx hb dL_law_723 (lv_at hl 0 rfl) ?_
  refine lv_iconst (v := nI 1) hx hb dL_law_725 (by decide) ?_
  refine lv_iadd hx hb dL_law_726 ?_
  rw [nI_add]
  refine va_sld hx hb hXs hbl (fun q => absurd q (Nat.not_le.mpr hbl)) hS (vp_in_nI (show 4 * n + 1 < L by omega) (by omega)) dL_law_727 ?_
  rw [nI_clamp (show 4 * n + 1 < 2 ^ 31 by omega)]
  refine lv_aload_n hx hb dL_law_728 rfl (lv_at hl 4 rfl) ?_
  refine z_backW1 (z_runY ⟨hx, hb, hml, hown, hT⟩ (rest := []) (As := [.ref (ad 13), .int (xs (4 * n + 1)), .ref (ad 12)]) (k := 3) (index := 109) hW cw_yL_shareAlone ml_L_109 sm_yL_shareAlone in_L ⟨by decide, by decide, by decide +kernel⟩ (z_preY hK hZ hUn hS hP) rfl ⟨by omega, by omega⟩ hl.1 rfl (Nat.le_of_ble_eq_true rfl) dL_law_729 ⟨by omega, by omega⟩) hS hAo (fun H locs hP hz hk2 hS => ?_)
  refine lv_istore (lv' := [(5, .int k), (4, .int (nI (4 * n))), (0, .ref b), (1, .ref (ad 13)), (2, .ref (ad 0)), (3, .ref (ad 12))]) hx hb dL_law_732 hl (by decide) rfl (fun ls hl => ?_)
  refine lv_aload_n hx hb dL_law_734 rfl (lv_at hl 4 rfl) ?_
  refine lv_aload_n hx hb dL_law_735 rfl (lv_at hl 2 rfl) ?_
  refine lv_iload hx hb dL_law_736 (lv_at hl 1 rfl) ?_
  refine lv_iconst (v := nI 1) hx hb dL_law_738 (by decide) ?_
  refine lv_iadd hx hb dL_law_739 ?_
  rw [nI_add]
  refine va_sld hx hb hXs hbl (fun q => absurd q (Nat.not_le.mpr hbl)) hS (vp_in_nI (show 4 * n + 1 < L by omega) (by omega)) dL_law_740 ?_
  rw [nI_clamp (show 4 * n + 1 < 2 ^ 31 by omega)]
  refine z_backW1 (z_runV ⟨hx, hb, hml, hown, hT⟩ (rest := []) (As := [.int (xs (4 * n + 1))]) (hM H.size) k_L_111 (z_preWV hK hP (hP.at (hI.1 0 (by decide)) rfl) rfl) rfl ⟨by omega, by omega⟩ hl.1 rfl (Nat.le_of_ble_eq_true rfl) dL_law_741 ⟨by omega, by omega⟩) hS (hD.free (fun q hq => Nat.le_trans hS.1 hq)) (fun H locs hP hz2 hk2 hS => ?_)
  refine lv_istore (lv' := [(6, .int bv), (5, .int k), (4, .int (nI (4 * n))), (0, .ref b), (1, .ref (ad 13)), (2, .ref (ad 0)), (3, .ref (ad 12))]) hx hb dL_law_744 hl (by decide) rfl (fun ls hl => ?_)
  refine lv_aload_n hx hb dL_law_746 rfl (lv_at hl 5 rfl) ?_
  refine z_backR1 (z_runV ⟨hx, hb, hml, hown, hT⟩ (rest := []) (As := []) (c_X4_thrown l hI) k_L_71 (z_preRV hK hP (hP.at (hI.1 0 (by decide)) rfl) rfl) rfl ⟨by omega, by omega⟩ hl.1 rfl (Nat.le_of_ble_eq_true rfl) dL_law_747 ⟨by omega, by omega⟩) ?_
  refine lv_iload hx hb dL_law_750 (lv_at hl 1 rfl) ?_
  refine lv_icmp_eq (tgt := 757) hx hb dL_law_752 (by decide) (fun _ => ?_) (fun q => absurd hth q)
  refine lv_iload hx hb dL_law_757 (lv_at hl 1 rfl) ?_
  refine lv_if_ne (tgt := 774) hx hb dL_law_759 (by decide) (fun hk0 => ?_) (fun hk0 => ?_)
  · refine lv_goto (tgt := 1068) hx hb dL_law_774 (by decide) ?_
    exact W.widen (by omega) (by omega) (kk _ _ _ hP hS (lv_sub hl [2, 3, 4, 5, 6] rfl))
  · skip
    refine lv_aload_n hx hb dL_law_762 rfl (lv_at hl 6 rfl) ?_
    refine lv_iconst (v := nI 0) hx hb dL_law_763 (by decide) ?_
    refine z_laldN (j := 0) hx hb hK (hP.at (hI.1 12 (by decide)) rfl) (by decide) (by decide) (hout hk0) dL_law_764 ?_
    refine lv_iload hx hb dL_law_765 (lv_at hl 0 rfl) ?_
    refine lv_i2l (v := Int32.toInt64 bv) hx hb dL_law_767 rfl ?_
    refine W.lcmp hx hb dL_law_768 ?_
    rw [lg_cmp_self]
    refine lv_if_eq (tgt := 774) hx hb dL_law_769 (by decide) (fun _ => ?_) (fun q => absurd rfl q)
    refine lv_goto (tgt := 1068) hx hb dL_law_774 (by decide) ?_
    exact W.widen (by omega) (by omega) (kk _ _ _ hP hS (lv_sub hl [2, 3, 4, 5, 6] rfl))
set_option maxHeartbeats 4000000 in
set_option maxRecDepth 100000 in
theorem q_generation {b L n : Nat} {xs : Nat → Int32} (hF : lwF p l R s m args c D ks b L xs) (hI : zIn Rs np ng) (hD : zD (fun q => s.heap.size ≤ q) Rs ad) (hP : zP D Rs ad (gS ks ad np ng G MI MJ XI XJ) H) (hS : va_S (fun q => s.heap.size ≤ q) s.heap H locs) (hn : 4 * n + 4 ≤ L) (hl : lv_has ls 8 (lwL ad b n)) (hcs : cells + 4 ≤ R.cells ∧ slots + 13 ≤ R.slots) {k : Int32} {bv : Int32} {MI1 MI2 XI1 : Nat → Nat → Int32} {MJ1 MJ2 XJ1 : Nat → Nat → Int64} {frW loW mcW msW frM loM : Nat} (hW : zMY l yL_generation cL_generation 5 [(0, 10, 13, 13)] frW loW mcW msW D ks H.size [.ref (ad 13), .int (xs (4 * n + 1)), .int (xs (4 * n + 2)), .ref (ad 12)] (zP D Rs ad (gS ks ad np ng G MI MJ XI XJ)) k (zP D Rs ad (gS ks ad np ng G MI1 MJ1 XI1 XJ1)) (zA Rs ad H.size)) (hM : ∀ sz, zMW l yX4_generation cX4_generation 4 (some .int) frM loM 0 0 D ks sz [.ref (ad 0), .int (xs (4 * n + 1)), .int (xs (4 * n + 2))] (zP D Rs ad (gS ks ad np ng G MI1 MJ1 XI1 XJ1)) (some (.int bv)) (zP D Rs ad (gS ks ad np ng G MI2 MJ2 XI1 XJ1)) (zA Rs ad sz)) (hth : MI2 0 7 = k) (hout : k = 0 → MJ2 3 0 = Int32.toInt64 bv) (hr : frW + 1 ≤ 11 ∧ 8 + (5 + 11) + loW ≤ 388 ∧ mcW ≤ 4 ∧ msW ≤ 13 ∧ frM + 1 ≤ 11 ∧ 8 + (4 + 11) + loM ≤ 388)
    (kk : ∀ (H : Heap) (locs : List Loc) (ls : Array Slot), zP D Rs ad (gS ks ad np ng G MI2 MJ2 XI1 XJ1) H → va_S (fun q => s.heap.size ≤ q) s.heap H locs → lv_has ls 8 (lwL ad b n) → W p l e R s m args below meth c H locs (cells + 4) (slots + 13) Q (F0 m 1068 ls [])) : W p l e R s m args below meth c H locs cells slots Q (F0 m 777 ls []) := by
  obtain ⟨⟨hx, hb, hml, hown, hT⟩, ⟨hK, hZ, hUn⟩, ⟨hXs, hbl, hL⟩, hst, hRf, hRl⟩ := hF
  have hl : lv_has ls 8 [(4, .int (nI (4 * n))), (0, .ref b), (1, .ref (ad 13)), (2, .ref (ad 0)), (3, .ref (ad 12))] := hl
  have hAo : ∀ q, zA Rs ad H.size q → s.heap.size ≤ q := hD.free (fun q hq => Nat.le_trans hS.1 hq)
  refine lv_aload_n hx hb dL_law_777 rfl (lv_at hl 2 rfl) ?_
  refine lv_aload_n hx hb dL_law_778 rfl (lv_at hl 1 rfl) ?_
  refine lv_iload hx hb dL_law_779 (lv_at hl 0 rfl) ?_
  refine lv_iconst (v := nI 1) hx hb dL_law_781 (by decide) ?_
  refine lv_iadd hx hb dL_law_782 ?_
  rw [nI_add]
  refine va_sld hx hb hXs hbl (fun q => absurd q (Nat.not_le.mpr hbl)) hS (vp_in_nI (show 4 * n + 1 < L by omega) (by omega)) dL_law_783 ?_
  rw [nI_clamp (show 4 * n + 1 < 2 ^ 31 by omega)]
  refine lv_aload_n hx hb dL_law_784 rfl (lv_at hl 1 rfl) ?_
  refine lv_iload hx hb dL_law_785 (lv_at hl 0 rfl) ?_
  refine lv_iconst (v := nI 2) hx hb dL_law_787 (by decide) ?_
  refine lv_iadd hx hb dL_law_788 ?_
  rw [nI_add]
  refine va_sld hx hb hXs hbl (fun q => absurd q (Nat.not_le.mpr hbl)) hS (vp_in_nI (show 4 * n + 2 < L by omega) (by omega)) dL_law_789 ?_
  rw [nI_clamp (show 4 * n + 2 < 2 ^ 31 by omega)]
  refine lv_aload_n hx hb dL_law_790 rfl (lv_at hl 4 rfl) ?_
  refine z_backW1 (z_runY ⟨hx, hb, hml, hown, hT⟩ (rest := []) (As := [.ref (ad 13), .int (xs (4 * n + 1)), .int (xs (4 * n + 2)), .ref (ad 12)]) (k := 4) (index := 112) hW cw_yL_generation ml_L_112 sm_yL_generation in_L ⟨by decide, by decide, by decide +kernel⟩ (z_preY hK hZ hUn hS hP) rfl ⟨by omega, by omega⟩ hl.1 rfl (Nat.le_of_ble_eq_true rfl) dL_law_791 ⟨by omega, by omega⟩) hS hAo (fun H locs hP hz hk2 hS => ?_)
  refine lv_istore (lv' := [(5, .int k), (4, .int (nI (4 * n))), (0, .ref b), (1, .ref (ad 13)), (2, .ref (ad 0)), (3, .ref (ad 12))]) hx hb dL_law_794 hl (by decide) rfl (fun ls hl => ?_)
  refine lv_aload_n hx hb dL_law_796 rfl (lv_at hl 4 rfl) ?_
  refine lv_aload_n hx hb dL_law_797 rfl (lv_at hl 2 rfl) ?_
  refine lv_iload hx hb dL_law_798 (lv_at hl 1 rfl) ?_
  refine lv_iconst (v := nI 1) hx hb dL_law_800 (by decide) ?_
  refine lv_iadd hx hb dL_law_801 ?_
  rw [nI_add]
  refine va_sld hx hb hXs hbl (fun q => absurd q (Nat.not_le.mpr hbl)) hS (vp_in_nI (show 4 * n + 1 < L by omega) (by omega)) dL_law_802 ?_
  rw [nI_clamp (show 4 * n + 1 < 2 ^ 31 by omega)]
  refine lv_aload_n hx hb dL_law_803 rfl (lv_at hl 2 rfl) ?_
  refine lv_iload hx hb dL_law_804 (lv_at hl 1 rfl) ?_
  refine lv_iconst (v := nI 2) hx hb dL_law_806 (by decide) ?_
  refine lv_iadd hx hb dL_law_807 ?_
  rw [nI_add]
  refine va_sld hx hb hXs hbl (fun q => absurd q (Nat.not_le.mpr hbl)) hS (vp_in_nI (show 4 * n + 2 < L by omega) (by omega)) dL_law_808 ?_
  rw [nI_clamp (show 4 * n + 2 < 2 ^ 31 by omega)]
  refine z_backW1 (z_runV ⟨hx, hb, hml, hown, hT⟩ (rest := []) (As := [.int (xs (4 * n + 1)), .int (xs (4 * n + 2))]) (hM H.size) k_L_114 (z_preWV hK hP (hP.at (hI.1 0 (by decide)) rfl) rfl) rfl ⟨by omega, by omega⟩ hl.1 rfl (Nat.le_of_ble_eq_true rfl) dL_law_809 ⟨by omega, by omega⟩) hS (hD.free (fun q hq => Nat.le_trans hS.1 hq)) (fun H locs hP hz2 hk2 hS => ?_)
  refine lv_istore (lv' := [(6, .int bv), (5, .int k), (4, .int (nI (4 * n))), (0, .ref b), (1, .ref (ad 13)), (2, .ref (ad 0)), (3, .ref (ad 12))]) hx hb dL_law_812 hl (by decide) rfl (fun ls hl => ?_)
  refine lv_aload_n hx hb dL_law_814 rfl (lv_at hl 5 rfl) ?_
  refine z_backR1 (z_runV ⟨hx, hb, hml, hown, hT⟩ (rest := []) (As := []) (c_X4_thrown l hI) k_L_71 (z_preRV hK hP (hP.at (hI.1 0 (by decide)) rfl) rfl) rfl ⟨by omega, by omega⟩ hl.1 rfl (Nat.le_of_ble_eq_true rfl) dL_law_815 ⟨by omega, by omega⟩) ?_
  refine lv_iload hx hb dL_law_818 (lv_at hl 1 rfl) ?_
  refine lv_icmp_eq (tgt := 825) hx hb dL_law_820 (by decide) (fun _ => ?_) (fun q => absurd hth q)
  refine lv_iload hx hb dL_law_825 (lv_at hl 1 rfl) ?_
  refine lv_if_ne (tgt := 842) hx hb dL_law_827 (by decide) (fun hk0 => ?_) (fun hk0 => ?_)
  · refine lv_goto (tgt := 1068) hx hb dL_law_842 (by decide) ?_
    exact W.widen (by omega) (by omega) (kk _ _ _ hP hS (lv_sub hl [2, 3, 4, 5, 6] rfl))
  · skip
    refine lv_aload_n hx hb dL_law_830 rfl (lv_at hl 6 rfl) ?_
    refine lv_iconst (v := nI 0) hx hb dL_law_831 (by decide) ?_
    refine z_laldN (j := 0) hx hb hK (hP.at (hI.1 12 (by decide)) rfl) (by decide) (by decide) (hout hk0) dL_law_832 ?_
    refine lv_iload hx hb dL_law_833 (lv_at hl 0 rfl) ?_
    refine lv_i2l (v := Int32.toInt64 bv) hx hb dL_law_835 rfl ?_
    refine W.lcmp hx hb dL_law_836 ?_
    rw [lg_cmp_self]
    refine lv_if_eq (tgt := 842) hx hb dL_law_837 (by decide) (fun _ => ?_) (fun q => absurd rfl q)
    refine lv_goto (tgt := 1068) hx hb dL_law_842 (by decide) ?_
    exact W.widen (by omega) (by omega) (kk _ _ _ hP hS (lv_sub hl [2, 3, 4, 5, 6] rfl))
set_option maxHeartbeats 4000000 in
set_option maxRecDepth 100000 in
theorem q_paid {b L n : Nat} {xs : Nat → Int32} (hF : lwF p l R s m args c D ks b L xs) (hI : zIn Rs np ng) (hD : zD (fun q => s.heap.size ≤ q) Rs ad) (hP : zP D Rs ad (gS ks ad np ng G MI MJ XI XJ) H) (hS : va_S (fun q => s.heap.size ≤ q) s.heap H locs) (hn : 4 * n + 4 ≤ L) (hl : lv_has ls 8 (lwL ad b n)) (hcs : cells + 4 ≤ R.cells ∧ slots + 13 ≤ R.slots) {k : Int32} {bv : Int32} {MI1 MI2 XI1 : Nat → Nat → Int32} {MJ1 MJ2 XJ1 : Nat → Nat → Int64} {frW loW mcW msW frM loM : Nat} (hW : zMY l yL_paid cL_paid 4 [(0, 9, 12, 21)] frW loW mcW msW D ks H.size [.ref (ad 13), .int (xs (4 * n + 1)), .ref (ad 12)] (zP D Rs ad (gS ks ad np ng G MI MJ XI XJ)) k (zP D Rs ad (gS ks ad np ng G MI1 MJ1 XI1 XJ1)) (zA Rs ad H.size)) (hM : ∀ sz, zMW l yX4_paid cX4_paid 2 (some .int) frM loM 0 0 D ks sz [.ref (ad 0), .int (xs (4 * n + 1))] (zP D Rs ad (gS ks ad np ng G MI1 MJ1 XI1 XJ1)) (some (.int bv)) (zP D Rs ad (gS ks ad np ng G MI2 MJ2 XI1 XJ1)) (zA Rs ad sz)) (hth : MI2 0 7 = k) (hout : k = 0 → MJ2 3 0 = Int32.toInt64 bv) (hr : frW + 1 ≤ 11 ∧ 8 + (4 + 11) + loW ≤ 388 ∧ mcW ≤ 4 ∧ msW ≤ 13 ∧ frM + 1 ≤ 11 ∧ 8 + (2 + 11) + loM ≤ 388)
    (kk : ∀ (H : Heap) (locs : List Loc) (ls : Array Slot), zP D Rs ad (gS ks ad np ng G MI2 MJ2 XI1 XJ1) H → va_S (fun q => s.heap.size ≤ q) s.heap H locs → lv_has ls 8 (lwL ad b n) → W p l e R s m args below meth c H locs (cells + 4) (slots + 13) Q (F0 m 1068 ls [])) : W p l e R s m args below meth c H locs cells slots Q (F0 m 845 ls []) := by
  obtain ⟨⟨hx, hb, hml, hown, hT⟩, ⟨hK, hZ, hUn⟩, ⟨hXs, hbl, hL⟩, hst, hRf, hRl⟩ := hF
  have hl : lv_has ls 8 [(4, .int (nI (4 * n))), (0, .ref b), (1, .ref (ad 13)), (2, .ref (ad 0)), (3, .ref (ad 12))] := hl
  have hAo : ∀ q, zA Rs ad H.size q → s.heap.size ≤ q := hD.free (fun q hq => Nat.le_trans hS.1 hq)
  refine lv_aload_n hx hb dL_law_845 rfl (lv_at hl 2 rfl) ?_
  refine lv_aload_n hx hb dL_law_846 rfl (lv_at hl 1 rfl) ?_
  refine lv_iload hx hb dL_law_847 (lv_at hl 0 rfl) ?_
  refine lv_iconst (v := nI 1) hx hb dL_law_849 (by decide) ?_
  refine lv_iadd hx hb dL_law_850 ?_
  rw [nI_add]
  refine va_sld hx hb hXs hbl (fun q => absurd q (Nat.not_le.mpr hbl)) hS (vp_in_nI (show 4 * n + 1 < L by omega) (by omega)) dL_law_851 ?_
  rw [nI_clamp (show 4 * n + 1 < 2 ^ 31 by omega)]
  refine lv_aload_n hx hb dL_law_852 rfl (lv_at hl 4 rfl) ?_
  refine z_backW1 (z_runY ⟨hx, hb, hml, hown, hT⟩ (rest := []) (As := [.ref (ad 13), .int (xs (4 * n + 1)), .ref (ad 12)]) (k := 3) (index := 115) hW cw_yL_paid ml_L_115 sm_yL_paid in_L ⟨by decide, by decide, by decide +kernel⟩ (z_preY hK hZ hUn hS hP) rfl ⟨by omega, by omega⟩ hl.1 rfl (Nat.le_of_ble_eq_true rfl) dL_law_853 ⟨by omega, by omega⟩) hS hAo (fun H locs hP hz hk2 hS => ?_)
  refine lv_istore (lv' := [(5, .int k), (4, .int (nI (4 * n))), (0, .ref b), (1, .ref (ad 13)), (2, .ref (ad 0)), (3, .ref (ad 12))]) hx hb dL_law_856 hl (by decide) rfl (fun ls hl => ?_)
  refine lv_aload_n hx hb dL_law_858 rfl (lv_at hl 4 rfl) ?_
  refine lv_aload_n hx hb dL_law_859 rfl (lv_at hl 2 rfl) ?_
  refine lv_iload hx hb dL_law_860 (lv_at hl 1 rfl) ?_
  refine lv_iconst (v := nI 1) hx hb dL_law_862 (by decide) ?_
  refine lv_iadd hx hb dL_law_863 ?_
  rw [nI_add]
  refine va_sld hx hb hXs hbl (fun q => absurd q (Nat.not_le.mpr hbl)) hS (vp_in_nI (show 4 * n + 1 < L by omega) (by omega)) dL_law_864 ?_
  rw [nI_clamp (show 4 * n + 1 < 2 ^ 31 by omega)]
  refine z_backW1 (z_runV ⟨hx, hb, hml, hown, hT⟩ (rest := []) (As := [.int (xs (4 * n + 1))]) (hM H.size) k_L_117 (z_preWV hK hP (hP.at (hI.1 0 (by decide)) rfl) rfl) rfl ⟨by omega, by omega⟩ hl.1 rfl (Nat.le_of_ble_eq_true rfl) dL_law_865 ⟨by omega, by omega⟩) hS (hD.free (fun q hq => Nat.le_trans hS.1 hq)) (fun H locs hP hz2 hk2 hS => ?_)
  refine lv_istore (lv' := [(6, .int bv), (5, .int k), (4, .int (nI (4 * n))), (0, .ref b), (1, .ref (ad 13)), (2, .ref (ad 0)), (3, .ref (ad 12))]) hx hb dL_law_868 hl (by decide) rfl (fun ls hl => ?_)
  refine lv_aload_n hx hb dL_law_870 rfl (lv_at hl 5 rfl) ?_
  refine z_backR1 (z_runV ⟨hx, hb, hml, hown, hT⟩ (rest := []) (As := []) (c_X4_thrown l hI) k_L_71 (z_preRV hK hP (hP.at (hI.1 0 (by decide)) rfl) rfl) rfl ⟨by omega, by omega⟩ hl.1 rfl (Nat.le_of_ble_eq_true rfl) dL_law_871 ⟨by omega, by omega⟩) ?_
  refine lv_iload hx hb dL_law_874 (lv_at hl 1 rfl) ?_
  refine lv_icmp_eq (tgt := 881) hx hb dL_law_876 (by decide) (fun _ => ?_) (fun q => absurd hth q)
  refine lv_iload hx hb dL_law_881 (lv_at hl 1 rfl) ?_
  refine lv_if_ne (tgt := 898) hx hb dL_law_883 (by decide) (fun hk0 => ?_) (fun hk0 => ?_)
  · refine lv_goto (tgt := 1068) hx hb dL_law_898 (by decide) ?_
    exact W.widen (by omega) (by omega) (kk _ _ _ hP hS (lv_sub hl [2, 3, 4, 5, 6] rfl))
  · skip
    refine lv_aload_n hx hb dL_law_886 rfl (lv_at hl 6 rfl) ?_
    refine lv_iconst (v := nI 0) hx hb dL_law_887 (by decide) ?_
    refine z_laldN (j := 0) hx hb hK (hP.at (hI.1 12 (by decide)) rfl) (by decide) (by decide) (hout hk0) dL_law_888 ?_
    refine lv_iload hx hb dL_law_889 (lv_at hl 0 rfl) ?_
    refine lv_i2l (v := Int32.toInt64 bv) hx hb dL_law_891 rfl ?_
    refine W.lcmp hx hb dL_law_892 ?_
    rw [lg_cmp_self]
    refine lv_if_eq (tgt := 898) hx hb dL_law_893 (by decide) (fun _ => ?_) (fun q => absurd rfl q)
    refine lv_goto (tgt := 1068) hx hb dL_law_898 (by decide) ?_
    exact W.widen (by omega) (by omega) (kk _ _ _ hP hS (lv_sub hl [2, 3, 4, 5, 6] rfl))
set_option maxHeartbeats 4000000 in
set_option maxRecDepth 100000 in
theorem q_worth {b L n : Nat} {xs : Nat → Int32} (hF : lwF p l R s m args c D ks b L xs) (hI : zIn Rs np ng) (hD : zD (fun q => s.heap.size ≤ q) Rs ad) (hP : zP D Rs ad (gS ks ad np ng G MI MJ XI XJ) H) (hS : va_S (fun q => s.heap.size ≤ q) s.heap H locs) (hn : 4 * n + 4 ≤ L) (hl : lv_has ls 8 (lwL ad b n)) (hcs : cells + 4 ≤ R.cells ∧ slots + 13 ≤ R.slots) {k : Int32} {bv : Int32} {MI1 MI2 XI1 : Nat → Nat → Int32} {MJ1 MJ2 XJ1 : Nat → Nat → Int64} {frW loW mcW msW frM loM : Nat} (hW : zMY l yL_worth cL_worth 4 [(0, 9, 12, 21), (0, 9, 15, 15)] frW loW mcW msW D ks H.size [.ref (ad 13), .int (xs (4 * n + 1)), .ref (ad 12)] (zP D Rs ad (gS ks ad np ng G MI MJ XI XJ)) k (zP D Rs ad (gS ks ad np ng G MI1 MJ1 XI1 XJ1)) (zA Rs ad H.size)) (hM : ∀ sz, zMW l yX4_worth cX4_worth 2 (some .int) frM loM 0 0 D ks sz [.ref (ad 0), .int (xs (4 * n + 1))] (zP D Rs ad (gS ks ad np ng G MI1 MJ1 XI1 XJ1)) (some (.int bv)) (zP D Rs ad (gS ks ad np ng G MI2 MJ2 XI1 XJ1)) (zA Rs ad sz)) (hth : MI2 0 7 = k) (hout : k = 0 → MJ2 3 0 = Int32.toInt64 bv) (hr : frW + 1 ≤ 11 ∧ 8 + (4 + 11) + loW ≤ 388 ∧ mcW ≤ 4 ∧ msW ≤ 13 ∧ frM + 1 ≤ 11 ∧ 8 + (2 + 11) + loM ≤ 388)
    (kk : ∀ (H : Heap) (locs : List Loc) (ls : Array Slot), zP D Rs ad (gS ks ad np ng G MI2 MJ2 XI1 XJ1) H → va_S (fun q => s.heap.size ≤ q) s.heap H locs → lv_has ls 8 (lwL ad b n) → W p l e R s m args below meth c H locs (cells + 4) (slots + 13) Q (F0 m 1068 ls [])) : W p l e R s m args below meth c H locs cells slots Q (F0 m 901 ls []) := by
  obtain ⟨⟨hx, hb, hml, hown, hT⟩, ⟨hK, hZ, hUn⟩, ⟨hXs, hbl, hL⟩, hst, hRf, hRl⟩ := hF
  have hl : lv_has ls 8 [(4, .int (nI (4 * n))), (0, .ref b), (1, .ref (ad 13)), (2, .ref (ad 0)), (3, .ref (ad 12))] := hl
  have hAo : ∀ q, zA Rs ad H.size q → s.heap.size ≤ q := hD.free (fun q hq => Nat.le_trans hS.1 hq)
  refine lv_aload_n hx hb dL_law_901 rfl (lv_at hl 2 rfl) ?_
  refine lv_aload_n hx hb dL_law_902 rfl (lv_at hl 1 rfl) ?_
  refine lv_iload hx hb dL_law_903 (lv_at hl 0 rfl) ?_
  refine lv_iconst (v := nI 1) hx hb dL_law_905 (by decide) ?_
  refine lv_iadd hx hb dL_law_906 ?_
  rw [nI_add]
  refine va_sld hx hb hXs hbl (fun q => absurd q (Nat.not_le.mpr hbl)) hS (vp_in_nI (show 4 * n + 1 < L by omega) (by omega)) dL_law_907 ?_
  rw [nI_clamp (show 4 * n + 1 < 2 ^ 31 by omega)]
  refine lv_aload_n hx hb dL_law_908 rfl (lv_at hl 4 rfl) ?_
  refine z_backW1 (z_runY ⟨hx, hb, hml, hown, hT⟩ (rest := []) (As := [.ref (ad 13), .int (xs (4 * n + 1)), .ref (ad 12)]) (k := 3) (index := 118) hW cw_yL_worth ml_L_118 sm_yL_worth in_L ⟨by decide, by decide, by decide +kernel⟩ (z_preY hK hZ hUn hS hP) rfl ⟨by omega, by omega⟩ hl.1 rfl (Nat.le_of_ble_eq_true rfl) dL_law_909 ⟨by omega, by omega⟩) hS hAo (fun H locs hP hz hk2 hS => ?_)
  refine lv_istore (lv' := [(5, .int k), (4, .int (nI (4 * n))), (0, .ref b), (1, .ref (ad 13)), (2, .ref (ad 0)), (3, .ref (ad 12))]) hx hb dL_law_912 hl (by decide) rfl (fun ls hl => ?_)
  refine lv_aload_n hx hb dL_law_914 rfl (lv_at hl 4 rfl) ?_
  refine lv_aload_n hx hb dL_law_915 rfl (lv_at hl 2 rfl) ?_
  refine lv_iload hx hb dL_law_916 (lv_at hl 1 rfl) ?_
  refine lv_iconst (v := nI 1) hx hb dL_law_918 (by decide) ?_
  refine lv_iadd hx hb dL_law_919 ?_
  rw [nI_add]
  refine va_sld hx hb hXs hbl (fun q => absurd q (Nat.not_le.mpr hbl)) hS (vp_in_nI (show 4 * n + 1 < L by omega) (by omega)) dL_law_920 ?_
  rw [nI_clamp (show 4 * n + 1 < 2 ^ 31 by omega)]
  refine z_backW1 (z_runV ⟨hx, hb, hml, hown, hT⟩ (rest := []) (As := [.int (xs (4 * n + 1))]) (hM H.size) k_L_120 (z_preWV hK hP (hP.at (hI.1 0 (by decide)) rfl) rfl) rfl ⟨by omega, by omega⟩ hl.1 rfl (Nat.le_of_ble_eq_true rfl) dL_law_921 ⟨by omega, by omega⟩) hS (hD.free (fun q hq => Nat.le_trans hS.1 hq)) (fun H locs hP hz2 hk2 hS => ?_)
  refine lv_istore (lv' := [(6, .int bv), (5, .int k), (4, .int (nI (4 * n))), (0, .ref b), (1, .ref (ad 13)), (2, .ref (ad 0)), (3, .ref (ad 12))]) hx hb dL_law_924 hl (by decide) rfl (fun ls hl => ?_)
  refine lv_aload_n hx hb dL_law_926 rfl (lv_at hl 5 rfl) ?_
  refine z_backR1 (z_runV ⟨hx, hb, hml, hown, hT⟩ (rest := []) (As := []) (c_X4_thrown l hI) k_L_71 (z_preRV hK hP (hP.at (hI.1 0 (by decide)) rfl) rfl) rfl ⟨by omega, by omega⟩ hl.1 rfl (Nat.le_of_ble_eq_true rfl) dL_law_927 ⟨by omega, by omega⟩) ?_
  refine lv_iload hx hb dL_law_930 (lv_at hl 1 rfl) ?_
  refine lv_icmp_eq (tgt := 937) hx hb dL_law_932 (by decide) (fun _ => ?_) (fun q => absurd hth q)
  refine lv_iload hx hb dL_law_937 (lv_at hl 1 rfl) ?_
  refine lv_if_ne (tgt := 954) hx hb dL_law_939 (by decide) (fun hk0 => ?_) (fun hk0 => ?_)
  · refine lv_goto (tgt := 1068) hx hb dL_law_954 (by decide) ?_
    exact W.widen (by omega) (by omega) (kk _ _ _ hP hS (lv_sub hl [2, 3, 4, 5, 6] rfl))
  · skip
    refine lv_aload_n hx hb dL_law_942 rfl (lv_at hl 6 rfl) ?_
    refine lv_iconst (v := nI 0) hx hb dL_law_943 (by decide) ?_
    refine z_laldN (j := 0) hx hb hK (hP.at (hI.1 12 (by decide)) rfl) (by decide) (by decide) (hout hk0) dL_law_944 ?_
    refine lv_iload hx hb dL_law_945 (lv_at hl 0 rfl) ?_
    refine lv_i2l (v := Int32.toInt64 bv) hx hb dL_law_947 rfl ?_
    refine W.lcmp hx hb dL_law_948 ?_
    rw [lg_cmp_self]
    refine lv_if_eq (tgt := 954) hx hb dL_law_949 (by decide) (fun _ => ?_) (fun q => absurd rfl q)
    refine lv_goto (tgt := 1068) hx hb dL_law_954 (by decide) ?_
    exact W.widen (by omega) (by omega) (kk _ _ _ hP hS (lv_sub hl [2, 3, 4, 5, 6] rfl))
set_option maxHeartbeats 4000000 in
set_option maxRecDepth 100000 in
theorem q_lastRatio {b L n : Nat} {xs : Nat → Int32} (hF : lwF p l R s m args c D ks b L xs) (hI : zIn Rs np ng) (hD : zD (fun q => s.heap.size ≤ q) Rs ad) (hP : zP D Rs ad (gS ks ad np ng G MI MJ XI XJ) H) (hS : va_S (fun q => s.heap.size ≤ q) s.heap H locs) (hn : 4 * n + 4 ≤ L) (hl : lv_has ls 8 (lwL ad b n)) (hcs : cells + 4 ≤ R.cells ∧ slots + 13 ≤ R.slots) {k : Int32} {bv : Int32} {MI1 MI2 XI1 : Nat → Nat → Int32} {MJ1 MJ2 XJ1 : Nat → Nat → Int64} {frW loW mcW msW frM loM : Nat} (hW : zMY l yL_lastRatio cL_lastRatio 4 [(0, 9, 12, 13)] frW loW mcW msW D ks H.size [.ref (ad 13), .int (xs (4 * n + 1)), .ref (ad 12)] (zP D Rs ad (gS ks ad np ng G MI MJ XI XJ)) k (zP D Rs ad (gS ks ad np ng G MI1 MJ1 XI1 XJ1)) (zA Rs ad H.size)) (hM : ∀ sz, zMW l yX4_lastRatio cX4_lastRatio 2 (some .int) frM loM 0 0 D ks sz [.ref (ad 0), .int (xs (4 * n + 1))] (zP D Rs ad (gS ks ad np ng G MI1 MJ1 XI1 XJ1)) (some (.int bv)) (zP D Rs ad (gS ks ad np ng G MI2 MJ2 XI1 XJ1)) (zA Rs ad sz)) (hth : MI2 0 7 = k) (hout : k = 0 → MJ2 3 0 = Int32.toInt64 bv) (hr : frW + 1 ≤ 11 ∧ 8 + (4 + 11) + loW ≤ 388 ∧ mcW ≤ 4 ∧ msW ≤ 13 ∧ frM + 1 ≤ 11 ∧ 8 + (2 + 11) + loM ≤ 388)
    (kk : ∀ (H : Heap) (locs : List Loc) (ls : Array Slot), zP D Rs ad (gS ks ad np ng G MI2 MJ2 XI1 XJ1) H → va_S (fun q => s.heap.size ≤ q) s.heap H locs → lv_has ls 8 (lwL ad b n) → W p l e R s m args below meth c H locs (cells + 4) (slots + 13) Q (F0 m 1068 ls [])) : W p l e R s m args below meth c H locs cells slots Q (F0 m 957 ls []) := by
  obtain ⟨⟨hx, hb, hml, hown, hT⟩, ⟨hK, hZ, hUn⟩, ⟨hXs, hbl, hL⟩, hst, hRf, hRl⟩ := hF
  have hl : lv_has ls 8 [(4, .int (nI (4 * n))), (0, .ref b), (1, .ref (ad 13)), (2, .ref (ad 0)), (3, .ref (ad 12))] := hl
  have hAo : ∀ q, zA Rs ad H.size q → s.heap.size ≤ q := hD.free (fun q hq => Nat.le_trans hS.1 hq)
  refine lv_aload_n hx hb dL_law_957 rfl (lv_at hl 2 rfl) ?_
  refine lv_aload_n hx hb dL_law_958 rfl (lv_at hl 1 rfl) ?_
  refine lv_iload hx hb dL_law_959 (lv_at hl 0 rfl) ?_
  refine lv_iconst (v := nI 1) hx hb dL_law_961 (by decide) ?_
  refine lv_iadd hx hb dL_law_962 ?_
  rw [nI_add]
  refine va_sld hx hb hXs hbl (fun q => absurd q (Nat.not_le.mpr hbl)) hS (vp_in_nI (show 4 * n + 1 < L by omega) (by omega)) dL_law_963 ?_
  rw [nI_clamp (show 4 * n + 1 < 2 ^ 31 by omega)]
  refine lv_aload_n hx hb dL_law_964 rfl (lv_at hl 4 rfl) ?_
  refine z_backW1 (z_runY ⟨hx, hb, hml, hown, hT⟩ (rest := []) (As := [.ref (ad 13), .int (xs (4 * n + 1)), .ref (ad 12)]) (k := 3) (index := 121) hW cw_yL_lastRatio ml_L_121 sm_yL_lastRatio in_L ⟨by decide, by decide, by decide +kernel⟩ (z_preY hK hZ hUn hS hP) rfl ⟨by omega, by omega⟩ hl.1 rfl (Nat.le_of_ble_eq_true rfl) dL_law_965 ⟨by omega, by omega⟩) hS hAo (fun H locs hP hz hk2 hS => ?_)
  refine lv_istore (lv' := [(5, .int k), (4, .int (nI (4 * n))), (0, .ref b), (1, .ref (ad 13)), (2, .ref (ad 0)), (3, .ref (ad 12))]) hx hb dL_law_968 hl (by decide) rfl (fun ls hl => ?_)
  refine lv_aload_n hx hb dL_law_970 rfl (lv_at hl 4 rfl) ?_
  refine lv_aload_n hx hb dL_law_971 rfl (lv_at hl 2 rfl) ?_
  refine lv_iload hx hb dL_law_972 (lv_at hl 1 rfl) ?_
  refine lv_iconst (v := nI 1) hx hb dL_law_974 (by decide) ?_
  refine lv_iadd hx hb dL_law_975 ?_
  rw [nI_add]
  refine va_sld hx hb hXs hbl (fun q => absurd q (Nat.not_le.mpr hbl)) hS (vp_in_nI (show 4 * n + 1 < L by omega) (by omega)) dL_law_976 ?_
  rw [nI_clamp (show 4 * n + 1 < 2 ^ 31 by omega)]
  refine z_backW1 (z_runV ⟨hx, hb, hml, hown, hT⟩ (rest := []) (As := [.int (xs (4 * n + 1))]) (hM H.size) k_L_123 (z_preWV hK hP (hP.at (hI.1 0 (by decide)) rfl) rfl) rfl ⟨by omega, by omega⟩ hl.1 rfl (Nat.le_of_ble_eq_true rfl) dL_law_977 ⟨by omega, by omega⟩) hS (hD.free (fun q hq => Nat.le_trans hS.1 hq)) (fun H locs hP hz2 hk2 hS => ?_)
  refine lv_istore (lv' := [(6, .int bv), (5, .int k), (4, .int (nI (4 * n))), (0, .ref b), (1, .ref (ad 13)), (2, .ref (ad 0)), (3, .ref (ad 12))]) hx hb dL_law_980 hl (by decide) rfl (fun ls hl => ?_)
  refine lv_aload_n hx hb dL_law_982 rfl (lv_at hl 5 rfl) ?_
  refine z_backR1 (z_runV ⟨hx, hb, hml, hown, hT⟩ (rest := []) (As := []) (c_X4_thrown l hI) k_L_71 (z_preRV hK hP (hP.at (hI.1 0 (by decide)) rfl) rfl) rfl ⟨by omega, by omega⟩ hl.1 rfl (Nat.le_of_ble_eq_true rfl) dL_law_983 ⟨by omega, by omega⟩) ?_
  refine lv_iload hx hb dL_law_986 (lv_at hl 1 rfl) ?_
  refine lv_icmp_eq (tgt := 993) hx hb dL_law_988 (by decide) (fun _ => ?_) (fun q => absurd hth q)
  refine lv_iload hx hb dL_law_993 (lv_at hl 1 rfl) ?_
  refine lv_if_ne (tgt := 1010) hx hb dL_law_995 (by decide) (fun hk0 => ?_) (fun hk0 => ?_)
  · refine lv_goto (tgt := 1068) hx hb dL_law_1010 (by decide) ?_
    exact W.widen (by omega) (by omega) (kk _ _ _ hP hS (lv_sub hl [2, 3, 4, 5, 6] rfl))
  · skip
    refine lv_aload_n hx hb dL_law_998 rfl (lv_at hl 6 rfl) ?_
    refine lv_iconst (v := nI 0) hx hb dL_law_999 (by decide) ?_
    refine z_laldN (j := 0) hx hb hK (hP.at (hI.1 12 (by decide)) rfl) (by decide) (by decide) (hout hk0) dL_law_1000 ?_
    refine lv_iload hx hb dL_law_1001 (lv_at hl 0 rfl) ?_
    refine lv_i2l (v := Int32.toInt64 bv) hx hb dL_law_1003 rfl ?_
    refine W.lcmp hx hb dL_law_1004 ?_
    rw [lg_cmp_self]
    refine lv_if_eq (tgt := 1010) hx hb dL_law_1005 (by decide) (fun _ => ?_) (fun q => absurd rfl q)
    refine lv_goto (tgt := 1068) hx hb dL_law_1010 (by decide) ?_
    exact W.widen (by omega) (by omega) (kk _ _ _ hP hS (lv_sub hl [2, 3, 4, 5, 6] rfl))
set_option maxHeartbeats 4000000 in
set_option maxRecDepth 100000 in
theorem q_estate {b L n : Nat} {xs : Nat → Int32} (hF : lwF p l R s m args c D ks b L xs) (hI : zIn Rs np ng) (hD : zD (fun q => s.heap.size ≤ q) Rs ad) (hP : zP D Rs ad (gS ks ad np ng G MI MJ XI XJ) H) (hS : va_S (fun q => s.heap.size ≤ q) s.heap H locs) (hn : 4 * n + 4 ≤ L) (hl : lv_has ls 8 (lwL ad b n)) (hcs : cells + 4 ≤ R.cells ∧ slots + 13 ≤ R.slots) {bv : Int64} {MI2 : Nat → Nat → Int32} {frW loW frM loM : Nat} (hW : zMR l yX3_estate cX3_estate 1 (some .long) frW loW D ks [.ref (ad 13)] (zP D Rs ad (gS ks ad np ng G MI MJ XI XJ)) (some (.long bv))) (hM : ∀ sz, zMW l yX4_estate cX4_estate 1 (some .long) frM loM 0 0 D ks sz [.ref (ad 0)] (zP D Rs ad (gS ks ad np ng G MI MJ XI XJ)) (some (.long bv)) (zP D Rs ad (gS ks ad np ng G MI2 MJ XI XJ)) (zA Rs ad sz)) (hr : frW + 1 ≤ 11 ∧ 8 + (1 + 11) + loW ≤ 388 ∧ frM + 1 ≤ 11 ∧ 8 + (1 + 11) + loM ≤ 388)
    (kk : ∀ (H : Heap) (locs : List Loc) (ls : Array Slot), zP D Rs ad (gS ks ad np ng G MI2 MJ XI XJ) H → va_S (fun q => s.heap.size ≤ q) s.heap H locs → lv_has ls 8 (lwL ad b n) → W p l e R s m args below meth c H locs (cells + 4) (slots + 13) Q (F0 m 1068 ls [])) : W p l e R s m args below meth c H locs cells slots Q (F0 m 1013 ls []) := by
  obtain ⟨⟨hx, hb, hml, hown, hT⟩, ⟨hK, hZ, hUn⟩, ⟨hXs, hbl, hL⟩, hst, hRf, hRl⟩ := hF
  have hl : lv_has ls 8 [(4, .int (nI (4 * n))), (0, .ref b), (1, .ref (ad 13)), (2, .ref (ad 0)), (3, .ref (ad 12))] := hl
  have hAo : ∀ q, zA Rs ad H.size q → s.heap.size ≤ q := hD.free (fun q hq => Nat.le_trans hS.1 hq)
  refine lv_aload_n hx hb dL_law_1013 rfl (lv_at hl 2 rfl) ?_
  refine z_backR1 (z_runV ⟨hx, hb, hml, hown, hT⟩ (rest := []) (As := []) hW k_L_124 (z_preRV hK hP (hP.at (hI.1 13 (by decide)) rfl) rfl) rfl ⟨by omega, by omega⟩ hl.1 rfl (Nat.le_of_ble_eq_true rfl) dL_law_1014 ⟨by omega, by omega⟩) ?_
  refine lv_aload_n hx hb dL_law_1017 rfl (lv_at hl 3 rfl) ?_
  refine z_backW1 (z_runV ⟨hx, hb, hml, hown, hT⟩ (rest := [.long bv]) (As := []) (hM H.size) k_L_128 (z_preWV hK hP (hP.at (hI.1 0 (by decide)) rfl) rfl) rfl ⟨by omega, by omega⟩ hl.1 rfl (Nat.le_of_ble_eq_true rfl) dL_law_1018 ⟨by omega, by omega⟩) hS hAo (fun H locs hP hz2 hk2 hS => ?_)
  refine W.lcmp hx hb dL_law_1021 ?_
  rw [lg_cmp_self]
  refine lv_if_eq (tgt := 1068) hx hb dL_law_1022 (by decide) (fun _ => ?_) (fun q => absurd rfl q)
  exact W.widen (by omega) (by omega) (kk _ _ _ hP hS hl)
set_option maxHeartbeats 4000000 in
set_option maxRecDepth 100000 in
theorem q_sharesAndEstate {b L n : Nat} {xs : Nat → Int32} (hF : lwF p l R s m args c D ks b L xs) (hI : zIn Rs np ng) (hD : zD (fun q => s.heap.size ≤ q) Rs ad) (hP : zP D Rs ad (gS ks ad np ng G MI MJ XI XJ) H) (hS : va_S (fun q => s.heap.size ≤ q) s.heap H locs) (hn : 4 * n + 4 ≤ L) (hl : lv_has ls 8 (lwL ad b n)) (hcs : cells + 4 ≤ R.cells ∧ slots + 13 ≤ R.slots) {bv : Int64} {MI2 : Nat → Nat → Int32} {frW loW frM loM : Nat} (hW : zMR l yX3_sharesAndEstate cX3_sharesAndEstate 5 (some .long) frW loW D ks [.ref (ad 13)] (zP D Rs ad (gS ks ad np ng G MI MJ XI XJ)) (some (.long bv))) (hM : ∀ sz, zMW l yX4_sharesAndEstate cX4_sharesAndEstate 4 (some .long) frM loM 0 0 D ks sz [.ref (ad 0)] (zP D Rs ad (gS ks ad np ng G MI MJ XI XJ)) (some (.long bv)) (zP D Rs ad (gS ks ad np ng G MI2 MJ XI XJ)) (zA Rs ad sz)) (hr : frW + 1 ≤ 11 ∧ 8 + (5 + 11) + loW ≤ 388 ∧ frM + 1 ≤ 11 ∧ 8 + (4 + 11) + loM ≤ 388)
    (kk : ∀ (H : Heap) (locs : List Loc) (ls : Array Slot), zP D Rs ad (gS ks ad np ng G MI2 MJ XI XJ) H → va_S (fun q => s.heap.size ≤ q) s.heap H locs → lv_has ls 8 (lwL ad b n) → W p l e R s m args below meth c H locs (cells + 4) (slots + 13) Q (F0 m 1068 ls [])) : W p l e R s m args below meth c H locs cells slots Q (F0 m 1027 ls []) := by
  obtain ⟨⟨hx, hb, hml, hown, hT⟩, ⟨hK, hZ, hUn⟩, ⟨hXs, hbl, hL⟩, hst, hRf, hRl⟩ := hF
  have hl : lv_has ls 8 [(4, .int (nI (4 * n))), (0, .ref b), (1, .ref (ad 13)), (2, .ref (ad 0)), (3, .ref (ad 12))] := hl
  have hAo : ∀ q, zA Rs ad H.size q → s.heap.size ≤ q := hD.free (fun q hq => Nat.le_trans hS.1 hq)
  refine lv_aload_n hx hb dL_law_1027 rfl (lv_at hl 2 rfl) ?_
  refine z_backR1 (z_runV ⟨hx, hb, hml, hown, hT⟩ (rest := []) (As := []) hW k_L_129 (z_preRV hK hP (hP.at (hI.1 13 (by decide)) rfl) rfl) rfl ⟨by omega, by omega⟩ hl.1 rfl (Nat.le_of_ble_eq_true rfl) dL_law_1028 ⟨by omega, by omega⟩) ?_
  refine lv_aload_n hx hb dL_law_1031 rfl (lv_at hl 3 rfl) ?_
  refine z_backW1 (z_runV ⟨hx, hb, hml, hown, hT⟩ (rest := [.long bv]) (As := []) (hM H.size) k_L_132 (z_preWV hK hP (hP.at (hI.1 0 (by decide)) rfl) rfl) rfl ⟨by omega, by omega⟩ hl.1 rfl (Nat.le_of_ble_eq_true rfl) dL_law_1032 ⟨by omega, by omega⟩) hS hAo (fun H locs hP hz2 hk2 hS => ?_)
  refine W.lcmp hx hb dL_law_1035 ?_
  rw [lg_cmp_self]
  refine lv_if_eq (tgt := 1068) hx hb dL_law_1036 (by decide) (fun _ => ?_) (fun q => absurd rfl q)
  exact W.widen (by omega) (by omega) (kk _ _ _ hP hS hl)
set_option maxHeartbeats 4000000 in
set_option maxRecDepth 100000 in
theorem q_assets {b L n : Nat} {xs : Nat → Int32} (hF : lwF p l R s m args c D ks b L xs) (hI : zIn Rs np ng) (hD : zD (fun q => s.heap.size ≤ q) Rs ad) (hP : zP D Rs ad (gS ks ad np ng G MI MJ XI XJ) H) (hS : va_S (fun q => s.heap.size ≤ q) s.heap H locs) (hn : 4 * n + 4 ≤ L) (hl : lv_has ls 8 (lwL ad b n)) (hcs : cells + 4 ≤ R.cells ∧ slots + 13 ≤ R.slots) {bv : Int64} {MI2 : Nat → Nat → Int32} {frW loW frM loM : Nat} (hW : zMR l yX3_assets cX3_assets 1 (some .long) frW loW D ks [.ref (ad 13)] (zP D Rs ad (gS ks ad np ng G MI MJ XI XJ)) (some (.long bv))) (hM : ∀ sz, zMW l yX4_assets cX4_assets 1 (some .long) frM loM 0 0 D ks sz [.ref (ad 0)] (zP D Rs ad (gS ks ad np ng G MI MJ XI XJ)) (some (.long bv)) (zP D Rs ad (gS ks ad np ng G MI2 MJ XI XJ)) (zA Rs ad sz)) (hr : frW + 1 ≤ 11 ∧ 8 + (1 + 11) + loW ≤ 388 ∧ frM + 1 ≤ 11 ∧ 8 + (1 + 11) + loM ≤ 388)
    (kk : ∀ (H : Heap) (locs : List Loc) (ls : Array Slot), zP D Rs ad (gS ks ad np ng G MI2 MJ XI XJ) H → va_S (fun q => s.heap.size ≤ q) s.heap H locs → lv_has ls 8 (lwL ad b n) → W p l e R s m args below meth c H locs (cells + 4) (slots + 13) Q (F0 m 1068 ls [])) : W p l e R s m args below meth c H locs cells slots Q (F0 m 1041 ls []) := by
  obtain ⟨⟨hx, hb, hml, hown, hT⟩, ⟨hK, hZ, hUn⟩, ⟨hXs, hbl, hL⟩, hst, hRf, hRl⟩ := hF
  have hl : lv_has ls 8 [(4, .int (nI (4 * n))), (0, .ref b), (1, .ref (ad 13)), (2, .ref (ad 0)), (3, .ref (ad 12))] := hl
  have hAo : ∀ q, zA Rs ad H.size q → s.heap.size ≤ q := hD.free (fun q hq => Nat.le_trans hS.1 hq)
  refine lv_aload_n hx hb dL_law_1041 rfl (lv_at hl 2 rfl) ?_
  refine z_backR1 (z_runV ⟨hx, hb, hml, hown, hT⟩ (rest := []) (As := []) hW k_L_133 (z_preRV hK hP (hP.at (hI.1 13 (by decide)) rfl) rfl) rfl ⟨by omega, by omega⟩ hl.1 rfl (Nat.le_of_ble_eq_true rfl) dL_law_1042 ⟨by omega, by omega⟩) ?_
  refine lv_aload_n hx hb dL_law_1045 rfl (lv_at hl 3 rfl) ?_
  refine z_backW1 (z_runV ⟨hx, hb, hml, hown, hT⟩ (rest := [.long bv]) (As := []) (hM H.size) k_L_136 (z_preWV hK hP (hP.at (hI.1 0 (by decide)) rfl) rfl) rfl ⟨by omega, by omega⟩ hl.1 rfl (Nat.le_of_ble_eq_true rfl) dL_law_1046 ⟨by omega, by omega⟩) hS hAo (fun H locs hP hz2 hk2 hS => ?_)
  refine W.lcmp hx hb dL_law_1049 ?_
  rw [lg_cmp_self]
  refine lv_if_eq (tgt := 1068) hx hb dL_law_1050 (by decide) (fun _ => ?_) (fun q => absurd rfl q)
  exact W.widen (by omega) (by omega) (kk _ _ _ hP hS hl)
set_option maxHeartbeats 4000000 in
set_option maxRecDepth 100000 in
theorem q_shortfall {b L n : Nat} {xs : Nat → Int32} (hF : lwF p l R s m args c D ks b L xs) (hI : zIn Rs np ng) (hD : zD (fun q => s.heap.size ≤ q) Rs ad) (hP : zP D Rs ad (gS ks ad np ng G MI MJ XI XJ) H) (hS : va_S (fun q => s.heap.size ≤ q) s.heap H locs) (hn : 4 * n + 4 ≤ L) (hl : lv_has ls 8 (lwL ad b n)) (hcs : cells + 4 ≤ R.cells ∧ slots + 13 ≤ R.slots) {bv : Int32} {MI2 : Nat → Nat → Int32} {frW loW frM loM : Nat} (hW : zMR l yX3_shortfall cX3_shortfall 5 (some .int) frW loW D ks [.ref (ad 13)] (zP D Rs ad (gS ks ad np ng G MI MJ XI XJ)) (some (.int bv))) (hM : ∀ sz, zMW l yX4_shortfall cX4_shortfall 6 (some .int) frM loM 0 0 D ks sz [.ref (ad 0)] (zP D Rs ad (gS ks ad np ng G MI MJ XI XJ)) (some (.int bv)) (zP D Rs ad (gS ks ad np ng G MI2 MJ XI XJ)) (zA Rs ad sz)) (hr : frW + 1 ≤ 11 ∧ 8 + (5 + 11) + loW ≤ 388 ∧ frM + 1 ≤ 11 ∧ 8 + (6 + 11) + loM ≤ 388)
    (kk : ∀ (H : Heap) (locs : List Loc) (ls : Array Slot), zP D Rs ad (gS ks ad np ng G MI2 MJ XI XJ) H → va_S (fun q => s.heap.size ≤ q) s.heap H locs → lv_has ls 8 (lwL ad b n) → W p l e R s m args below meth c H locs (cells + 4) (slots + 13) Q (F0 m 1068 ls [])) : W p l e R s m args below meth c H locs cells slots Q (F0 m 1055 ls []) := by
  obtain ⟨⟨hx, hb, hml, hown, hT⟩, ⟨hK, hZ, hUn⟩, ⟨hXs, hbl, hL⟩, hst, hRf, hRl⟩ := hF
  have hl : lv_has ls 8 [(4, .int (nI (4 * n))), (0, .ref b), (1, .ref (ad 13)), (2, .ref (ad 0)), (3, .ref (ad 12))] := hl
  have hAo : ∀ q, zA Rs ad H.size q → s.heap.size ≤ q := hD.free (fun q hq => Nat.le_trans hS.1 hq)
  refine lv_aload_n hx hb dL_law_1055 rfl (lv_at hl 2 rfl) ?_
  refine z_backR1 (z_runV ⟨hx, hb, hml, hown, hT⟩ (rest := []) (As := []) hW k_L_137 (z_preRV hK hP (hP.at (hI.1 13 (by decide)) rfl) rfl) rfl ⟨by omega, by omega⟩ hl.1 rfl (Nat.le_of_ble_eq_true rfl) dL_law_1056 ⟨by omega, by omega⟩) ?_
  refine lv_aload_n hx hb dL_law_1059 rfl (lv_at hl 3 rfl) ?_
  refine z_backW1 (z_runV ⟨hx, hb, hml, hown, hT⟩ (rest := [.int bv]) (As := []) (hM H.size) k_L_140 (z_preWV hK hP (hP.at (hI.1 0 (by decide)) rfl) rfl) rfl ⟨by omega, by omega⟩ hl.1 rfl (Nat.le_of_ble_eq_true rfl) dL_law_1060 ⟨by omega, by omega⟩) hS hAo (fun H locs hP hz2 hk2 hS => ?_)
  refine lv_icmp_eq (tgt := 1068) hx hb dL_law_1063 (by decide) (fun _ => ?_) (fun q => absurd rfl q)
  exact W.widen (by omega) (by omega) (kk _ _ _ hP hS hl)
end ZLB
