/-! the static functions -/
section ZS
def fFloor (x y : Int64) : Int64 := if (x ^^^ y) < 0 then (if x / y * y = x then x / y else x / y - 1) else x / y
def fThou (a b : Int64) : Int64 := fFloor (a * b) 1000
def fParted (a d : Int64) : Int64 := if 0 < d then a / d else 0
def fIn (v lo hi : Int32) : Int32 := if lo ≤ v ∧ v ≤ hi then 1 else 0
theorem fIn_nar {v lo hi : Int32} : narrow .boolean (.int (fIn v lo hi)) = .int (fIn v lo hi) := by unfold fIn; split <;> rfl
abbrev fMax (x y : Int64) : Int64 := if y < x then x else y
abbrev fMin (x y : Int64) : Int64 := if y < x then y else x
def fPart (a b : Int64) : Int64 := if a * b < 0 then (if a * b / 1000 * 1000 = a * b then a * b / 1000 else a * b / 1000 - 1) else a * b / 1000
set_option maxHeartbeats 4000000 in
set_option maxRecDepth 100000 in
theorem c_J9_floorDiv_f86c9 (l : Launch) (D : va_G) (ks : Nat → ClassId) (x : Int64) (y : Int64) (hy : ¬ y = 0) : zMR l yJ9_floorDiv_f86c9 cJ9_floorDiv_f86c9 6 ((some .long)) 0 0 D ks [.long x, .long y] (fun _ => True) (some (.long (fFloor x y))) := by
  refine zMR.ofF (by decide +kernel) (Nat.le_of_ble_eq_true rfl) ?_
  intro p e s m below meth c ls hx hb hr hml hown hlk hT _ hK hl
  have hl : lv_has ls 6 [(0, .long x), (2, .long y)] := hl
  refine lv_lload_n hx hb dJ9_floorDiv_f86c9_0 rfl (lv_at hl 0 rfl) ?_
  refine lv_lload_n hx hb dJ9_floorDiv_f86c9_1 rfl (lv_at hl 1 rfl) ?_
  refine lv_ldiv hx hb dJ9_floorDiv_f86c9_2 (hy) ?_
  refine lv_lstore (lv' := [(4, .long (x / y)), (0, .long x), (2, .long y)]) hx hb dJ9_floorDiv_f86c9_3 hl (by decide) rfl (fun ls hl => ?_)
  refine lv_lload_n hx hb dJ9_floorDiv_f86c9_5 rfl (lv_at hl 1 rfl) ?_
  refine lv_lload_n hx hb dJ9_floorDiv_f86c9_6 rfl (lv_at hl 2 rfl) ?_
  refine lv_lxor hx hb dJ9_floorDiv_f86c9_7 ?_
  refine lv_lconst (v := 0) hx hb dJ9_floorDiv_f86c9_8 (by decide) ?_
  refine z_lcmp_ge (tgt := 27) hx hb dJ9_floorDiv_f86c9_9 dJ9_floorDiv_f86c9_10 (by decide) (fun c_1 => ?_) (fun c_1 => ?_)
  · refine lv_lload hx hb dJ9_floorDiv_f86c9_27 (lv_at hl 0 rfl) ?_
    exact zR_l hx hb hr hlk dJ9_floorDiv_f86c9_29 (by unfold fFloor; first | rfl | (simp only [c_1, if_true, if_false, and_true, true_and, and_false, false_and, not_true_eq_false, not_false_eq_true]; done) | (rw [if_pos (by assumption)]; done) | (split <;> first | rfl | (exfalso; simp_all; done) | simp_all))
  · refine lv_lload hx hb dJ9_floorDiv_f86c9_13 (lv_at hl 0 rfl) ?_
    refine lv_lload_n hx hb dJ9_floorDiv_f86c9_15 rfl (lv_at hl 2 rfl) ?_
    refine lv_lmul hx hb dJ9_floorDiv_f86c9_16 ?_
    refine lv_lload_n hx hb dJ9_floorDiv_f86c9_17 rfl (lv_at hl 1 rfl) ?_
    refine z_lcmp_eq (tgt := 27) hx hb dJ9_floorDiv_f86c9_18 dJ9_floorDiv_f86c9_19 (by decide) (fun c_2 => ?_) (fun c_2 => ?_)
    · refine lv_lload hx hb dJ9_floorDiv_f86c9_27 (lv_at hl 0 rfl) ?_
      exact zR_l hx hb hr hlk dJ9_floorDiv_f86c9_29 (by unfold fFloor; first | rfl | (simp only [c_1, c_2, if_true, if_false, and_true, true_and, and_false, false_and, not_true_eq_false, not_false_eq_true]; done) | (rw [if_pos (by assumption)]; done) | (split <;> first | rfl | (exfalso; simp_all; done) | simp_all))
    · refine lv_lload hx hb dJ9_floorDiv_f86c9_22 (lv_at hl 0 rfl) ?_
      refine lv_lconst (v := 1) hx hb dJ9_floorDiv_f86c9_24 (by decide) ?_
      refine lv_lsub hx hb dJ9_floorDiv_f86c9_25 ?_
      exact zR_l hx hb hr hlk dJ9_floorDiv_f86c9_26 (by unfold fFloor; first | rfl | (simp only [c_1, c_2, if_true, if_false, and_true, true_and, and_false, false_and, not_true_eq_false, not_false_eq_true]; done) | (rw [if_pos (by assumption)]; done) | (split <;> first | rfl | (exfalso; simp_all; done) | simp_all))
set_option maxHeartbeats 4000000 in
set_option maxRecDepth 100000 in
theorem c_X3_thousandths (l : Launch) (D : va_G) (ks : Nat → ClassId) (a : Int64) (b : Int64) : zMR l yX3_thousandths cX3_thousandths 4 ((some .long)) 1 25 D ks [.long a, .long b] (fun _ => True) (some (.long (fThou a b))) := by
  refine zMR.of (by decide +kernel) (Nat.le_of_ble_eq_true rfl) ?_
  intro p e s m below meth c ls hx hb hr hml hown hlk hT _ hK hl
  have hl : lv_has ls 4 [(0, .long a), (2, .long b)] := hl
  refine lv_lload_n hx hb dX3_thousandths_0 rfl (lv_at hl 0 rfl) ?_
  refine lv_lload_n hx hb dX3_thousandths_1 rfl (lv_at hl 1 rfl) ?_
  refine lv_lmul hx hb dX3_thousandths_2 ?_
  refine lv_ldc2 (v := 1000) hx hb hown (hT _ kl_X3_224) dX3_thousandths_3 ?_
  refine z_backR1 (z_runS ⟨hx, hb, hml, hown, hT⟩ (rest := []) (As := [.long (a * b), .long 1000]) (c_J9_floorDiv_f86c9 l D ks (a * b) 1000 (by decide)) k_X3_242 (z_preR hK trivial) rfl ⟨Nat.le_of_ble_eq_true rfl, Nat.le_of_ble_eq_true rfl⟩ hl.1 rfl (Nat.le_of_ble_eq_true rfl) dX3_thousandths_6 ⟨Nat.le_of_ble_eq_true rfl, Nat.le_of_ble_eq_true rfl⟩) ?_
  exact zR_l hx hb hr hlk dX3_thousandths_9 (rfl)
set_option maxHeartbeats 4000000 in
set_option maxRecDepth 100000 in
theorem c_X3_parted (l : Launch) (D : va_G) (ks : Nat → ClassId) (a : Int64) (d : Int64) : zMR l yX3_parted cX3_parted 4 ((some .long)) 0 0 D ks [.long a, .long d] (fun _ => True) (some (.long (fParted a d))) := by
  refine zMR.of (by decide +kernel) (Nat.le_of_ble_eq_true rfl) ?_
  intro p e s m below meth c ls hx hb hr hml hown hlk hT _ hK hl
  have hl : lv_has ls 4 [(0, .long a), (2, .long d)] := hl
  refine lv_lload_n hx hb dX3_parted_0 rfl (lv_at hl 1 rfl) ?_
  refine lv_lconst (v := 0) hx hb dX3_parted_1 (by decide) ?_
  refine z_lcmp_le (tgt := 12) hx hb dX3_parted_2 dX3_parted_3 (by decide) (fun c_1 => ?_) (fun c_1 => ?_)
  · refine lv_lconst (v := 0) hx hb dX3_parted_12 (by decide) ?_
    exact zR_l hx hb hr hlk dX3_parted_13 (by unfold fParted; first | rfl | (simp only [c_1, if_true, if_false, and_true, true_and, and_false, false_and, not_true_eq_false, not_false_eq_true]; done) | (rw [if_pos (by assumption)]; done) | (split <;> first | rfl | (exfalso; simp_all; done) | simp_all))
  · refine lv_lload_n hx hb dX3_parted_6 rfl (lv_at hl 0 rfl) ?_
    refine lv_lload_n hx hb dX3_parted_7 rfl (lv_at hl 1 rfl) ?_
    refine lv_ldiv hx hb dX3_parted_8 (fun h => by subst h; exact absurd c_1 (by decide)) ?_
    refine lv_goto (tgt := 13) hx hb dX3_parted_9 (by decide) ?_
    exact zR_l hx hb hr hlk dX3_parted_13 (by unfold fParted; first | rfl | (simp only [c_1, if_true, if_false, and_true, true_and, and_false, false_and, not_true_eq_false, not_false_eq_true]; done) | (rw [if_pos (by assumption)]; done) | (split <;> first | rfl | (exfalso; simp_all; done) | simp_all))
set_option maxHeartbeats 4000000 in
set_option maxRecDepth 100000 in
theorem c_X3_isWithin (l : Launch) (D : va_G) (ks : Nat → ClassId) (v : Int32) (lo : Int32) (hi : Int32) : zMR l yX3_isWithin cX3_isWithin 3 ((some .boolean)) 0 0 D ks [.int v, .int lo, .int hi] (fun _ => True) (some (.int (fIn v lo hi))) := by
  refine zMR.of (by decide +kernel) (Nat.le_of_ble_eq_true rfl) ?_
  intro p e s m below meth c ls hx hb hr hml hown hlk hT _ hK hl
  have hl : lv_has ls 3 [(0, .int v), (1, .int lo), (2, .int hi)] := hl
  refine lv_iload_n hx hb dX3_isWithin_0 rfl (lv_at hl 0 rfl) ?_
  refine lv_iload_n hx hb dX3_isWithin_1 rfl (lv_at hl 1 rfl) ?_
  refine lv_icmp_lt (tgt := 14) hx hb dX3_isWithin_2 (by decide) (fun c_1 => ?_) (fun c_1 => ?_)
  · refine lv_iconst (v := 0) hx hb dX3_isWithin_14 (by decide) ?_
    exact zR_z hx hb hr hlk dX3_isWithin_15 (rfl) ((if_neg (fun h => absurd h.1 (Int32.not_le.mpr c_1))).symm)
  · refine lv_iload_n hx hb dX3_isWithin_5 rfl (lv_at hl 0 rfl) ?_
    refine lv_iload_n hx hb dX3_isWithin_6 rfl (lv_at hl 2 rfl) ?_
    refine lv_icmp_gt (tgt := 14) hx hb dX3_isWithin_7 (by decide) (fun c_2 => ?_) (fun c_2 => ?_)
    · refine lv_iconst (v := 0) hx hb dX3_isWithin_14 (by decide) ?_
      exact zR_z hx hb hr hlk dX3_isWithin_15 (rfl) ((if_neg (fun h => absurd h.2 (Int32.not_le.mpr c_2))).symm)
    · refine lv_iconst (v := 1) hx hb dX3_isWithin_10 (by decide) ?_
      refine lv_goto (tgt := 15) hx hb dX3_isWithin_11 (by decide) ?_
      exact zR_z hx hb hr hlk dX3_isWithin_15 (rfl) ((if_pos ⟨Int32.not_lt.mp c_1, Int32.not_lt.mp c_2⟩).symm)
set_option maxHeartbeats 4000000 in
set_option maxRecDepth 100000 in
theorem c_X3_isTerm (l : Launch) (D : va_G) (ks : Nat → ClassId) (t : Int32) : zMR l yX3_isTerm cX3_isTerm 1 ((some .boolean)) 1 22 D ks [.int t] (fun _ => True) (some (.int (fIn t 2 20))) := by
  refine zMR.of (by decide +kernel) (Nat.le_of_ble_eq_true rfl) ?_
  intro p e s m below meth c ls hx hb hr hml hown hlk hT _ hK hl
  have hl : lv_has ls 1 [(0, .int t)] := hl
  refine lv_iload_n hx hb dX3_isTerm_0 rfl (lv_at hl 0 rfl) ?_
  refine lv_iconst (v := 2) hx hb dX3_isTerm_1 (by decide) ?_
  refine lv_bipush (v := 20) hx hb dX3_isTerm_2 (by decide) ?_
  refine z_backR1 (z_runS ⟨hx, hb, hml, hown, hT⟩ (rest := []) (As := [.int t, .int 2, .int 20]) (c_X3_isWithin l D ks t 2 20 ) k_X3_50 (z_preR hK trivial) rfl ⟨Nat.le_of_ble_eq_true rfl, Nat.le_of_ble_eq_true rfl⟩ hl.1 rfl (Nat.le_of_ble_eq_true rfl) dX3_isTerm_4 ⟨Nat.le_of_ble_eq_true rfl, Nat.le_of_ble_eq_true rfl⟩) ?_
  exact zR_z hx hb hr hlk dX3_isTerm_7 (fIn_nar) (rfl)
end ZS
