/-! the law's small methods -/
section ZM1
variable {D : va_G} {ks : Nat → ClassId} {ad : Nat → Nat} {np ng : Nat} {G : Nat → Nat} {MI : Nat → Nat → Int32} {MJ : Nat → Nat → Int64} {XI : Nat → Nat → Int32} {XJ : Nat → Nat → Int64} {Rs : List Nat}
def fLow (v n : Int32) : Int32 := (v &&& 2147483647) - (v &&& 2147483647) / n * n
theorem low_z {v n : Int32} (hn : 0 < n.toInt) : 0 ≤ (fLow v n).toInt ∧ (fLow v n).toInt < n.toInt := by
  have hm : 0 ≤ (v &&& 2147483647).toInt := by
    have h0 : (v &&& 2147483647).toBitVec.msb = false := by
      rw [Int32.toBitVec_and, BitVec.msb_and]
      have : (2147483647 : Int32).toBitVec.msb = false := by decide
      rw [this]; simp
    have := BitVec.msb_eq_toInt (x := (v &&& 2147483647).toBitVec)
    rw [h0] at this
    have h2 : ¬ (v &&& 2147483647).toBitVec.toInt < 0 := by simpa using this.symm
    exact Int.not_lt.mp h2
  unfold fLow
  generalize v &&& 2147483647 = m at hm ⊢
  have hd : (m / n).toInt = m.toInt.tdiv n.toInt := Int32.toInt_div_of_ne_right _ _ (fun h => by rw [h] at hn; exact absurd hn (by decide))
  rw [Int.tdiv_eq_ediv_of_nonneg hm] at hd
  have h1 : 0 ≤ m.toInt / n.toInt := Int.ediv_nonneg hm (by omega)
  have h2 := Int.emod_add_mul_ediv m.toInt n.toInt
  have h3 := Int.emod_nonneg m.toInt (b := n.toInt) (by omega)
  have h4 := Int.emod_lt_of_pos m.toInt hn
  have h5 : m.toInt < 2 ^ 31 := Int32.toInt_lt m
  have e : n.toInt * (m.toInt / n.toInt) = m.toInt / n.toInt * n.toInt := Int.mul_comm _ _
  have h6 : 0 ≤ m.toInt / n.toInt * n.toInt := Int.mul_nonneg h1 (by omega)
  have hml : (m / n * n).toInt = m.toInt / n.toInt * n.toInt := by
    rw [Int32.toInt_mul, hd]
    exact Int.bmod_eq_of_le (by omega) (by omega)
  have hs : (m - m / n * n).toInt = m.toInt - m.toInt / n.toInt * n.toInt := by
    rw [i_sub (by rw [hml]; omega) (by rw [hml]; omega), hml]
  rw [hs]
  omega
set_option maxHeartbeats 4000000 in
set_option maxRecDepth 100000 in
theorem c_L_low (l : Launch) (v n : Int32) (hn : ¬ n = 0) : zMR l yL_low cL_low 2 (some .int) 0 0 D ks [.int v, .int n] (fun _ => True) (some (.int (fLow v n))) := by
  refine zMR.of (by decide +kernel) (Nat.le_of_ble_eq_true rfl) ?_
  intro p e s m below meth c ls hx hb hr hml hown hlk hT hP hK hl
  have hl : lv_has ls 2 [(0, .int v), (1, .int n)] := hl
  refine lv_iload_n hx hb dL_low_0 rfl (lv_at hl 0 rfl) ?_
  refine lv_ldc (v := 2147483647) hx hb hown (hT _ ki_L_7) dL_low_1 ?_
  refine lv_iand hx hb dL_low_3 ?_
  refine lv_iload_n hx hb dL_low_4 rfl (lv_at hl 1 rfl) ?_
  refine lv_irem hx hb dL_low_5 hn ?_
  exact zR_i hx hb hr hlk dL_low_6 rfl
/-- the script's method -/
def zPC (b L : Nat) (xs : Nat → Int32) (As : List Value) : Array Value → State → Prop := va_Pc As (fun U => va_X b L xs U U.heap ∧ b < U.heap.size)
theorem zPC.blind {b L : Nat} {xs : Nat → Int32} {As : List Value} : FrameBlind (zPC b L xs As) := fun a U g mk q => ⟨q.1, va_X.moved (u := U) (U := U.calling g mk a) (Vm.Alike.refl U.vm) q.2.1, q.2.2⟩
def fCell (L : Nat) (xs : Nat → Int32) (n : Nat) : Int32 := if n < L then xs n else 40503 * nI n + 977
set_option maxHeartbeats 4000000 in
set_option maxRecDepth 100000 in
theorem c_L_cell (l : Launch) (b L : Nat) (xs : Nat → Int32) (n : Nat) (hL : L < 2 ^ 31) (hn : n < 2 ^ 31) : Met l yL_cell (Cond.code yL_cell cL_cell 2 (some .int) :: WS) (zRm 0 0 0 0) (zPC b L xs [.ref b, .int (nI n)]) (zQR (some (.int (fCell L xs n)))) 0 0 (fun _ => False) := by
  refine Met.ofW (cc := cL_cell) (maxL := 2) (ret := some .int) (by decide +kernel) rfl ?_
  intro p e s m args below meth c s₁ B hml hv
  obtain ⟨rfl, hXs, hbl⟩ := hv
  rw [lg_entry_eq]
  have hx := B.exec
  have hb := B.bytes
  have hr : meth.sig.returnType = some .int := B.returns
  have hown := findClass_of_methodNamed B.named
  have hlk := B.notSynchronized
  have hT : ∀ w ∈ WS, w.before ([.ref b, .int (nI n)] : List Value).toArray s = true := fun w hw => atoms_spec (ws := Cond.code yL_cell cL_cell 2 (some .int) :: WS) B.pre w (List.mem_cons_of_mem _ hw)
  have hl := lv_entry [.ref b, .int (nI n)] (n := 2) (Nat.le_of_ble_eq_true rfl)
  generalize (lg_sl ([.ref b, .int (nI n)]) ++ List.replicate (2 - (lg_sl ([.ref b, .int (nI n)])).length) Slot.unset).toArray = ls at hl ⊢
  have hl : lv_has ls 2 [(0, .ref b), (1, .int (nI n))] := hl
  have hS : va_S (fun _ => False) s.heap s.heap [] := va_S.rf
  show W p l e (zRm 0 0 0 0) s m ([.ref b, .int (nI n)] : List Value).toArray below meth c s.heap [] 0 0 (MQ below (zQR (some (.int (fCell L xs n)))) ([.ref b, .int (nI n)] : List Value).toArray s 0 0 (fun _ => False)) (F0 m 0 ls [])
  refine lv_iload_n hx hb dL_cell_0 rfl (lv_at hl 1 rfl) ?_
  refine lv_aload_n hx hb dL_cell_1 rfl (lv_at hl 0 rfl) ?_
  refine va_slen hx hb hXs hbl (fun q => q) hS dL_cell_2 ?_
  refine lv_icmp_ge (tgt := 12) hx hb dL_cell_3 (by decide) (fun q => ?_) (fun q => ?_)
  · have hge : ¬ n < L := fun h => (nI_ge (a := n) (b := L) h hL) q
    refine lv_ldc (v := 40503) hx hb hown (hT _ ki_L_8) dL_cell_12 ?_
    refine lv_iload_n hx hb dL_cell_14 rfl (lv_at hl 1 rfl) ?_
    refine lv_imul hx hb dL_cell_15 ?_
    refine lv_sipush (v := 977) hx hb dL_cell_16 (by decide) ?_
    refine lv_iadd hx hb dL_cell_19 ?_
    exact zR_i hx hb hr hlk dL_cell_20 (by unfold fCell; rw [if_neg hge])
  · have hlt : n < L := Nat.not_le.mp fun h => q (nI_le (a := L) (b := n) h hn)
    refine lv_aload_n hx hb dL_cell_6 rfl (lv_at hl 0 rfl) ?_
    refine lv_iload_n hx hb dL_cell_7 rfl (lv_at hl 1 rfl) ?_
    refine va_sld hx hb hXs hbl (fun q => q) hS (vp_in_nI hlt hL) dL_cell_8 ?_
    rw [nI_clamp hn]
    refine lv_goto (tgt := 20) hx hb dL_cell_9 (by decide) ?_
    exact zR_i hx hb hr hlk dL_cell_20 (by unfold fCell; rw [if_pos hlt])
theorem z_preC {s : State} {H : Heap} {locs : List Loc} {b L : Nat} {xs : Nat → Int32} {As : List Value} (hXs : va_X b L xs s s.heap) (hbl : b < s.heap.size) (hS : va_S (fun q => s.heap.size ≤ q) s.heap H locs) : PreS s H (zPC b L xs As) As :=
  ⟨zPC.blind, fun U hU hW => ⟨rfl, by rw [hU]; exact (hXs.moved hW.alike).kept (hS.2.1 b hbl (Nat.not_le.mpr hbl)), by rw [hU]; exact Nat.lt_of_lt_of_le hbl hS.1⟩⟩
set_option maxHeartbeats 4000000 in
set_option maxRecDepth 100000 in
theorem w_begin (l : Launch) (hI : zIn Rs np ng) {p0 p1 p2 : Int32} {v : Int32} {fr lo mc ms : Nat} {B : Heap → Prop} (sz : Nat) (hM : zMW l yX3_begin cX3_begin 5 (some .int) fr lo mc ms D ks sz [.ref (ad 13), .int p0, .int p1, .int p2] (zP D Rs ad (gS ks ad np ng G MI MJ XI XJ)) (some (.int v)) B (zA Rs ad sz)) : zMY l yL_begin cL_begin 5 [(0, 7, 8, 15)] (fr + 1) (8 + (5 + 11) + lo) mc ms D ks sz [.ref (ad 13), .int p0, .int p1, .int p2] (zP D Rs ad (gS ks ad np ng G MI MJ XI XJ)) v B (zA Rs ad sz) := by
  refine zMY.of (by decide +kernel) (Nat.le_of_ble_eq_true rfl) ?_
  intro p e s m below meth c ls hx hb hr hml hown hlk hT htb hsz hP hX hl
  have hK := hX.1
  subst hsz
  have hS : va_S (zA Rs ad s.heap.size) s.heap s.heap [] := va_S.rf
  have hl : lv_has ls 5 [(0, .ref (ad 13)), (1, .int p0), (2, .int p1), (3, .int p2)] := hl
  refine lv_aload_n hx hb dL_begin_0 rfl (lv_at hl 0 rfl) ?_
  refine lv_iload_n hx hb dL_begin_1 rfl (lv_at hl 1 rfl) ?_
  refine lv_iload_n hx hb dL_begin_2 rfl (lv_at hl 2 rfl) ?_
  refine lv_iload_n hx hb dL_begin_3 rfl (lv_at hl 3 rfl) ?_
  refine z_backW1 (z_runV ⟨hx, hb, hml, hown, hT⟩ (rest := []) (As := [.int p0, .int p1, .int p2]) hM k_L_9 (z_preWV hK hP (hP.at (hI.1 13 (by decide)) rfl) rfl) rfl ⟨Nat.le_refl _, Nat.le_refl _⟩ hl.1 rfl (Nat.le_of_ble_eq_true rfl) dL_begin_4 ⟨by simp [zRm], by simp [zRm]⟩) hS (fun _ h => h) (fun H locs hB hz hk2 hS => ?_)
  exact zW_i hx hb hr hlk hS (by simp) (by simp) dL_begin_7 rfl hB
set_option maxHeartbeats 4000000 in
set_option maxRecDepth 100000 in
theorem w_begin_x (l : Launch) (hI : zIn Rs np ng) {p0 p1 p2 : Int32} {fr lo : Nat} (hM : zMX l yX3_begin cX3_begin 5 (some .int) fr lo D ks [.ref (ad 13), .int p0, .int p1, .int p2] (zP D Rs ad (gS ks ad np ng G MI MJ XI XJ)) "java/lang/IllegalStateException") (sz : Nat) : zMY l yL_begin cL_begin 5 [(0, 7, 8, 15)] (fr + 1) (8 + (5 + 11) + lo) 1 6 D ks sz [.ref (ad 13), .int p0, .int p1, .int p2] (zP D Rs ad (gS ks ad np ng G MI MJ XI XJ)) (-3) (zP D Rs ad (gS ks ad np ng G MI MJ XI XJ)) (zA Rs ad sz) := by
  refine zMY.of (by decide +kernel) (Nat.le_of_ble_eq_true rfl) ?_
  intro p e s m below meth c ls hx hb hr hml hown hlk hT htb hsz hP hX hl
  have hK := hX.1
  subst hsz
  have hS : va_S (zA Rs ad s.heap.size) s.heap s.heap [] := va_S.rf
  have hl : lv_has ls 5 [(0, .ref (ad 13)), (1, .int p0), (2, .int p1), (3, .int p2)] := hl
  refine lv_aload_n hx hb dL_begin_0 rfl (lv_at hl 0 rfl) ?_
  refine lv_iload_n hx hb dL_begin_1 rfl (lv_at hl 1 rfl) ?_
  refine lv_iload_n hx hb dL_begin_2 rfl (lv_at hl 2 rfl) ?_
  refine lv_iload_n hx hb dL_begin_3 rfl (lv_at hl 3 rfl) ?_
  refine z_caught (E := "java/lang/IllegalStateException") (z_runXV ⟨hx, hb, hml, hown, hT⟩ (rest := []) (As := [.int p0, .int p1, .int p2]) hM k_L_9 (z_preXV hX hP (hP.at (hI.1 13 (by decide)) rfl) rfl) rfl ⟨Nat.le_refl _, Nat.le_refl _⟩ hl.1 rfl (Nat.le_of_ble_eq_true rfl) dL_begin_4 ⟨Nat.le_of_ble_eq_true rfl, Nat.le_of_ble_eq_true rfl⟩) (fun ce q9 H1 hz hk hce hcv hcl => ?_)
  refine vx_catch (name := "java/lang/IllegalStateException") hown [] ⟨0, 7, 8, 15⟩ [] (htb.trans rfl) (fun z hz => nomatch hz) rfl (by decide) (hT _ cl_L_15) (va_Nw.use rfl hX.2.1.2.1.2.1) hce hcv hcl ?_
  refine lv_astore (lv' := [(4, .ref q9), (0, .ref (ad 13)), (1, .int p0), (2, .int p1), (3, .int p2)]) hx hb dL_begin_8 hl (by decide) rfl (fun ls hl => ?_)
  refine lv_bipush (v := -3) hx hb dL_begin_10 (by decide) ?_
  exact zW_i hx hb hr hlk ⟨hz, fun q h _ => hk q h, fun _ h => nomatch h⟩ (Nat.le_of_ble_eq_true rfl) (Nat.le_of_ble_eq_true rfl) dL_begin_12 rfl (fun r hr => (hP r hr).kept (hk _ (hP.lt hr)))
set_option maxHeartbeats 4000000 in
set_option maxRecDepth 100000 in
theorem w_surrender (l : Launch) (hI : zIn Rs np ng) {p0 : Int32} {v : Int32} {fr lo mc ms : Nat} {B : Heap → Prop} (sz : Nat) (hM : zMW l yX3_surrender cX3_surrender 5 (some .int) fr lo mc ms D ks sz [.ref (ad 13), .int p0] (zP D Rs ad (gS ks ad np ng G MI MJ XI XJ)) (some (.int v)) B (zA Rs ad sz)) : zMY l yL_surrender cL_surrender 3 [(0, 5, 6, 15)] (fr + 1) (8 + (5 + 11) + lo) mc ms D ks sz [.ref (ad 13), .int p0] (zP D Rs ad (gS ks ad np ng G MI MJ XI XJ)) v B (zA Rs ad sz) := by
  refine zMY.of (by decide +kernel) (Nat.le_of_ble_eq_true rfl) ?_
  intro p e s m below meth c ls hx hb hr hml hown hlk hT htb hsz hP hX hl
  have hK := hX.1
  subst hsz
  have hS : va_S (zA Rs ad s.heap.size) s.heap s.heap [] := va_S.rf
  have hl : lv_has ls 3 [(0, .ref (ad 13)), (1, .int p0)] := hl
  refine lv_aload_n hx hb dL_surrender_0 rfl (lv_at hl 0 rfl) ?_
  refine lv_iload_n hx hb dL_surrender_1 rfl (lv_at hl 1 rfl) ?_
  refine z_backW1 (z_runV ⟨hx, hb, hml, hown, hT⟩ (rest := []) (As := [.int p0]) hM k_L_17 (z_preWV hK hP (hP.at (hI.1 13 (by decide)) rfl) rfl) rfl ⟨Nat.le_refl _, Nat.le_refl _⟩ hl.1 rfl (Nat.le_of_ble_eq_true rfl) dL_surrender_2 ⟨by simp [zRm], by simp [zRm]⟩) hS (fun _ h => h) (fun H locs hB hz hk2 hS => ?_)
  exact zW_i hx hb hr hlk hS (by simp) (by simp) dL_surrender_5 rfl hB
set_option maxHeartbeats 4000000 in
set_option maxRecDepth 100000 in
theorem w_surrender_x (l : Launch) (hI : zIn Rs np ng) {p0 : Int32} {fr lo : Nat} (hM : zMX l yX3_surrender cX3_surrender 5 (some .int) fr lo D ks [.ref (ad 13), .int p0] (zP D Rs ad (gS ks ad np ng G MI MJ XI XJ)) "java/lang/IllegalStateException") (sz : Nat) : zMY l yL_surrender cL_surrender 3 [(0, 5, 6, 15)] (fr + 1) (8 + (5 + 11) + lo) 1 6 D ks sz [.ref (ad 13), .int p0] (zP D Rs ad (gS ks ad np ng G MI MJ XI XJ)) (-3) (zP D Rs ad (gS ks ad np ng G MI MJ XI XJ)) (zA Rs ad sz) := by
  refine zMY.of (by decide +kernel) (Nat.le_of_ble_eq_true rfl) ?_
  intro p e s m below meth c ls hx hb hr hml hown hlk hT htb hsz hP hX hl
  have hK := hX.1
  subst hsz
  have hS : va_S (zA Rs ad s.heap.size) s.heap s.heap [] := va_S.rf
  have hl : lv_has ls 3 [(0, .ref (ad 13)), (1, .int p0)] := hl
  refine lv_aload_n hx hb dL_surrender_0 rfl (lv_at hl 0 rfl) ?_
  refine lv_iload_n hx hb dL_surrender_1 rfl (lv_at hl 1 rfl) ?_
  refine z_caught (E := "java/lang/IllegalStateException") (z_runXV ⟨hx, hb, hml, hown, hT⟩ (rest := []) (As := [.int p0]) hM k_L_17 (z_preXV hX hP (hP.at (hI.1 13 (by decide)) rfl) rfl) rfl ⟨Nat.le_refl _, Nat.le_refl _⟩ hl.1 rfl (Nat.le_of_ble_eq_true rfl) dL_surrender_2 ⟨Nat.le_of_ble_eq_true rfl, Nat.le_of_ble_eq_true rfl⟩) (fun ce q9 H1 hz hk hce hcv hcl => ?_)
  refine vx_catch (name := "java/lang/IllegalStateException") hown [] ⟨0, 5, 6, 15⟩ [] (htb.trans rfl) (fun z hz => nomatch hz) rfl (by decide) (hT _ cl_L_15) (va_Nw.use rfl hX.2.1.2.1.2.1) hce hcv hcl ?_
  refine lv_astore_n (lv' := [(2, .ref q9), (0, .ref (ad 13)), (1, .int p0)]) hx hb dL_surrender_6 rfl hl (by decide) rfl (fun ls hl => ?_)
  refine lv_bipush (v := -3) hx hb dL_surrender_7 (by decide) ?_
  exact zW_i hx hb hr hlk ⟨hz, fun q h _ => hk q h, fun _ h => nomatch h⟩ (Nat.le_of_ble_eq_true rfl) (Nat.le_of_ble_eq_true rfl) dL_surrender_9 rfl (fun r hr => (hP r hr).kept (hk _ (hP.lt hr)))
set_option maxHeartbeats 4000000 in
set_option maxRecDepth 100000 in
theorem w_worth (l : Launch) (hI : zIn Rs np ng) {p0 : Int32} {v : Int32} {fr lo : Nat} (hM : zMR l yX3_worth cX3_worth 3 (some .int) fr lo D ks [.ref (ad 13), .int p0] (zP D Rs ad (gS ks ad np ng G MI MJ XI XJ)) (some (.int v))) (sz : Nat) : zMY l yL_worth cL_worth 3 [(0, 5, 6, 15)] (fr + 1) (8 + (3 + 11) + lo) 0 0 D ks sz [.ref (ad 13), .int p0] (zP D Rs ad (gS ks ad np ng G MI MJ XI XJ)) v (zP D Rs ad (gS ks ad np ng G MI MJ XI XJ)) (zA Rs ad sz) := by
  refine zMY.of (by decide +kernel) (Nat.le_of_ble_eq_true rfl) ?_
  intro p e s m below meth c ls hx hb hr hml hown hlk hT htb hsz hP hX hl
  have hK := hX.1
  subst hsz
  have hS : va_S (zA Rs ad s.heap.size) s.heap s.heap [] := va_S.rf
  have hl : lv_has ls 3 [(0, .ref (ad 13)), (1, .int p0)] := hl
  refine lv_aload_n hx hb dL_worth_0 rfl (lv_at hl 0 rfl) ?_
  refine lv_iload_n hx hb dL_worth_1 rfl (lv_at hl 1 rfl) ?_
  refine z_backR1 (z_runV ⟨hx, hb, hml, hown, hT⟩ (rest := []) (As := [.int p0]) hM k_L_21 (z_preRV hK hP (hP.at (hI.1 13 (by decide)) rfl) rfl) rfl ⟨Nat.le_refl _, Nat.le_refl _⟩ hl.1 rfl (Nat.le_of_ble_eq_true rfl) dL_worth_2 ⟨Nat.le_of_ble_eq_true rfl, Nat.le_of_ble_eq_true rfl⟩) ?_
  exact zW_i hx hb hr hlk hS (Nat.le_of_ble_eq_true rfl) (Nat.le_of_ble_eq_true rfl) dL_worth_5 rfl hP
set_option maxHeartbeats 4000000 in
set_option maxRecDepth 100000 in
theorem w_worth_x (l : Launch) (hI : zIn Rs np ng) {p0 : Int32} {fr lo : Nat} (hM : zMX l yX3_worth cX3_worth 3 (some .int) fr lo D ks [.ref (ad 13), .int p0] (zP D Rs ad (gS ks ad np ng G MI MJ XI XJ)) "java/lang/IllegalStateException") (sz : Nat) : zMY l yL_worth cL_worth 3 [(0, 5, 6, 15)] (fr + 1) (8 + (3 + 11) + lo) 1 6 D ks sz [.ref (ad 13), .int p0] (zP D Rs ad (gS ks ad np ng G MI MJ XI XJ)) (-3) (zP D Rs ad (gS ks ad np ng G MI MJ XI XJ)) (zA Rs ad sz) := by
  refine zMY.of (by decide +kernel) (Nat.le_of_ble_eq_true rfl) ?_
  intro p e s m below meth c ls hx hb hr hml hown hlk hT htb hsz hP hX hl
  have hK := hX.1
  subst hsz
  have hS : va_S (zA Rs ad s.heap.size) s.heap s.heap [] := va_S.rf
  have hl : lv_has ls 3 [(0, .ref (ad 13)), (1, .int p0)] := hl
  refine lv_aload_n hx hb dL_worth_0 rfl (lv_at hl 0 rfl) ?_
  refine lv_iload_n hx hb dL_worth_1 rfl (lv_at hl 1 rfl) ?_
  refine z_caught (E := "java/lang/IllegalStateException") (z_runXV ⟨hx, hb, hml, hown, hT⟩ (rest := []) (As := [.int p0]) hM k_L_21 (z_preXV hX hP (hP.at (hI.1 13 (by decide)) rfl) rfl) rfl ⟨Nat.le_refl _, Nat.le_refl _⟩ hl.1 rfl (Nat.le_of_ble_eq_true rfl) dL_worth_2 ⟨Nat.le_of_ble_eq_true rfl, Nat.le_of_ble_eq_true rfl⟩) (fun ce q9 H1 hz hk hce hcv hcl => ?_)
  refine vx_catch (name := "java/lang/IllegalStateException") hown [] ⟨0, 5, 6, 15⟩ [] (htb.trans rfl) (fun z hz => nomatch hz) rfl (by decide) (hT _ cl_L_15) (va_Nw.use rfl hX.2.1.2.1.2.1) hce hcv hcl ?_
  refine lv_astore_n (lv' := [(2, .ref q9), (0, .ref (ad 13)), (1, .int p0)]) hx hb dL_worth_6 rfl hl (by decide) rfl (fun ls hl => ?_)
  refine lv_bipush (v := -3) hx hb dL_worth_7 (by decide) ?_
  exact zW_i hx hb hr hlk ⟨hz, fun q h _ => hk q h, fun _ h => nomatch h⟩ (Nat.le_of_ble_eq_true rfl) (Nat.le_of_ble_eq_true rfl) dL_worth_9 rfl (fun r hr => (hP r hr).kept (hk _ (hP.lt hr)))
set_option maxHeartbeats 4000000 in
set_option maxRecDepth 100000 in
theorem w_run (l : Launch) (hI : zIn Rs np ng) {p0 : Int32} {v : Int32} {fr lo mc ms : Nat} {B : Heap → Prop} (sz : Nat) (hM : zMW l yX3_run cX3_run 5 (some .int) fr lo mc ms D ks sz [.ref (ad 13), .int p0] (zP D Rs ad (gS ks ad np ng G MI MJ XI XJ)) (some (.int v)) B (zA Rs ad sz)) : zMY l yL_run cL_run 3 [(0, 5, 6, 15)] (fr + 1) (8 + (5 + 11) + lo) mc ms D ks sz [.ref (ad 13), .int p0] (zP D Rs ad (gS ks ad np ng G MI MJ XI XJ)) v B (zA Rs ad sz) := by
  refine zMY.of (by decide +kernel) (Nat.le_of_ble_eq_true rfl) ?_
  intro p e s m below meth c ls hx hb hr hml hown hlk hT htb hsz hP hX hl
  have hK := hX.1
  subst hsz
  have hS : va_S (zA Rs ad s.heap.size) s.heap s.heap [] := va_S.rf
  have hl : lv_has ls 3 [(0, .ref (ad 13)), (1, .int p0)] := hl
  refine lv_aload_n hx hb dL_run_0 rfl (lv_at hl 0 rfl) ?_
  refine lv_iload_n hx hb dL_run_1 rfl (lv_at hl 1 rfl) ?_
  refine z_backW1 (z_runV ⟨hx, hb, hml, hown, hT⟩ (rest := []) (As := [.int p0]) hM k_L_24 (z_preWV hK hP (hP.at (hI.1 13 (by decide)) rfl) rfl) rfl ⟨Nat.le_refl _, Nat.le_refl _⟩ hl.1 rfl (Nat.le_of_ble_eq_true rfl) dL_run_2 ⟨by simp [zRm], by simp [zRm]⟩) hS (fun _ h => h) (fun H locs hB hz hk2 hS => ?_)
  exact zW_i hx hb hr hlk hS (by simp) (by simp) dL_run_5 rfl hB
set_option maxHeartbeats 4000000 in
set_option maxRecDepth 100000 in
theorem w_run_x (l : Launch) (hI : zIn Rs np ng) {p0 : Int32} {fr lo : Nat} (hM : zMX l yX3_run cX3_run 5 (some .int) fr lo D ks [.ref (ad 13), .int p0] (zP D Rs ad (gS ks ad np ng G MI MJ XI XJ)) "java/lang/IllegalStateException") (sz : Nat) : zMY l yL_run cL_run 3 [(0, 5, 6, 15)] (fr + 1) (8 + (5 + 11) + lo) 1 6 D ks sz [.ref (ad 13), .int p0] (zP D Rs ad (gS ks ad np ng G MI MJ XI XJ)) (-3) (zP D Rs ad (gS ks ad np ng G MI MJ XI XJ)) (zA Rs ad sz) := by
  refine zMY.of (by decide +kernel) (Nat.le_of_ble_eq_true rfl) ?_
  intro p e s m below meth c ls hx hb hr hml hown hlk hT htb hsz hP hX hl
  have hK := hX.1
  subst hsz
  have hS : va_S (zA Rs ad s.heap.size) s.heap s.heap [] := va_S.rf
  have hl : lv_has ls 3 [(0, .ref (ad 13)), (1, .int p0)] := hl
  refine lv_aload_n hx hb dL_run_0 rfl (lv_at hl 0 rfl) ?_
  refine lv_iload_n hx hb dL_run_1 rfl (lv_at hl 1 rfl) ?_
  refine z_caught (E := "java/lang/IllegalStateException") (z_runXV ⟨hx, hb, hml, hown, hT⟩ (rest := []) (As := [.int p0]) hM k_L_24 (z_preXV hX hP (hP.at (hI.1 13 (by decide)) rfl) rfl) rfl ⟨Nat.le_refl _, Nat.le_refl _⟩ hl.1 rfl (Nat.le_of_ble_eq_true rfl) dL_run_2 ⟨Nat.le_of_ble_eq_true rfl, Nat.le_of_ble_eq_true rfl⟩) (fun ce q9 H1 hz hk hce hcv hcl => ?_)
  refine vx_catch (name := "java/lang/IllegalStateException") hown [] ⟨0, 5, 6, 15⟩ [] (htb.trans rfl) (fun z hz => nomatch hz) rfl (by decide) (hT _ cl_L_15) (va_Nw.use rfl hX.2.1.2.1.2.1) hce hcv hcl ?_
  refine lv_astore_n (lv' := [(2, .ref q9), (0, .ref (ad 13)), (1, .int p0)]) hx hb dL_run_6 rfl hl (by decide) rfl (fun ls hl => ?_)
  refine lv_bipush (v := -3) hx hb dL_run_7 (by decide) ?_
  exact zW_i hx hb hr hlk ⟨hz, fun q h _ => hk q h, fun _ h => nomatch h⟩ (Nat.le_of_ble_eq_true rfl) (Nat.le_of_ble_eq_true rfl) dL_run_9 rfl (fun r hr => (hP r hr).kept (hk _ (hP.lt hr)))
end ZM1
