/-! what the law's loop wants besides -/
section ZLC
variable {D : va_G} {ks : Nat → ClassId} {ad : Nat → Nat} {np ng : Nat} {G : Nat → Nat} {MI : Nat → Nat → Int32} {MJ : Nat → Nat → Int64} {XI : Nat → Nat → Int32} {XJ : Nat → Nat → Int64} {Rs : List Nat}
set_option maxHeartbeats 4000000 in
set_option maxRecDepth 100000 in
theorem c_X4_begin_ok2 (l : Launch) (hD0 : zD (fun _ => True) Rs ad) (hI : zIn Rs np ng) (te : Int32) (pr : Int32) (su : Int32) {cn : Nat} (hnp : MI 0 6 = nI cn) (hN : cn < 30) (h0 : fIn te 2 20 = 1) (h1 : fIn pr 1 1000 = 1) (h2 : fIn su 0 100000 = 1) (sz : Nat) : zMW l yX4_begin cX4_begin 4 ((some .int)) 1 (22) 0 0 D ks sz [.ref (ad 0), .int te, .int pr, .int su] (zP D Rs ad (gS ks ad np ng G MI MJ XI XJ)) (some (.int (nI cn))) (zP D Rs ad (gS ks ad np ng G (u2 (u2 (u2 (u2 (u2 (u2 MI 0 7 0) 1 cn (MI 0 0)) 2 cn te) 3 cn pr) 4 cn su) 0 6 (nI (cn + 1))) MJ XI XJ)) (zA Rs ad sz) := by
  refine zMW.of (by decide +kernel) (Nat.le_of_ble_eq_true rfl) ?_
  intro p e s m below meth c ls hx hb hr hml hown hlk hT hsz hP hK hl hin
  have hl : lv_has ls 4 [(0, .ref (ad 0)), (1, .int te), (2, .int pr), (3, .int su)] := hl
  subst hsz
  have hD := hD0.self (sz := s.heap.size)
  have hA : ∀ q : Nat, s.heap.size ≤ q → zA Rs ad s.heap.size q := fun q h => Or.inr h
  have hS : va_S (zA Rs ad s.heap.size) s.heap s.heap [] := va_S.rf
  refine lv_aload_n hx hb dX4_begin_0 rfl (lv_at hl 0 rfl) ?_
  refine lv_iload_n hx hb dX4_begin_1 rfl (lv_at hl 1 rfl) ?_
  refine lv_iconst (v := 2) hx hb dX4_begin_2 (by decide) ?_
  refine lv_bipush (v := 20) hx hb dX4_begin_3 (by decide) ?_
  refine z_backR1 (z_runS ⟨hx, hb, hml, hown, hT⟩ (rest := [.ref (ad 0)]) (As := [.int te, .int 2, .int 20]) (c_X4_in l D ks te 2 20 ) k_X4_66 (z_preR hK trivial) rfl ⟨Nat.le_of_ble_eq_true rfl, Nat.le_of_ble_eq_true rfl⟩ hl.1 rfl (Nat.le_of_ble_eq_true rfl) dX4_begin_5 ⟨Nat.le_of_ble_eq_true rfl, Nat.le_of_ble_eq_true rfl⟩) ?_
  refine lv_if_eq (tgt := 32) hx hb dX4_begin_8 (by decide) (fun c_1 => ?_) (fun c_1 => ?_)
  · exact absurd ((h0).symm.trans c_1) (by decide)
  · refine lv_iload_n hx hb dX4_begin_11 rfl (lv_at hl 2 rfl) ?_
    refine lv_iconst (v := 1) hx hb dX4_begin_12 (by decide) ?_
    refine lv_sipush (v := 1000) hx hb dX4_begin_13 (by decide) ?_
    refine z_backR1 (z_runS ⟨hx, hb, hml, hown, hT⟩ (rest := [.ref (ad 0)]) (As := [.int pr, .int 1, .int 1000]) (c_X4_in l D ks pr 1 1000 ) k_X4_66 (z_preR hK trivial) rfl ⟨Nat.le_of_ble_eq_true rfl, Nat.le_of_ble_eq_true rfl⟩ hl.1 rfl (Nat.le_of_ble_eq_true rfl) dX4_begin_16 ⟨Nat.le_of_ble_eq_true rfl, Nat.le_of_ble_eq_true rfl⟩) ?_
    refine lv_if_eq (tgt := 32) hx hb dX4_begin_19 (by decide) (fun c_2 => ?_) (fun c_2 => ?_)
    · exact absurd ((h1).symm.trans c_2) (by decide)
    · refine lv_iload_n hx hb dX4_begin_22 rfl (lv_at hl 3 rfl) ?_
      refine lv_iconst (v := 0) hx hb dX4_begin_23 (by decide) ?_
      refine lv_ldc (v := 100000) hx hb hown (hT _ ki_X4_91) dX4_begin_24 ?_
      refine z_backR1 (z_runS ⟨hx, hb, hml, hown, hT⟩ (rest := [.ref (ad 0)]) (As := [.int su, .int 0, .int 100000]) (c_X4_in l D ks su 0 100000 ) k_X4_66 (z_preR hK trivial) rfl ⟨Nat.le_of_ble_eq_true rfl, Nat.le_of_ble_eq_true rfl⟩ hl.1 rfl (Nat.le_of_ble_eq_true rfl) dX4_begin_26 ⟨Nat.le_of_ble_eq_true rfl, Nat.le_of_ble_eq_true rfl⟩) ?_
      refine lv_if_ne (tgt := 36) hx hb dX4_begin_29 (by decide) (fun c_3 => ?_) (fun c_3 => ?_)
      · refine lv_aload_n hx hb dX4_begin_36 rfl (lv_at hl 0 rfl) ?_
        refine gf_X4_63 hx hb hT hown hK (hP.at (hI.1 0 (by decide)) rfl) rfl dX4_begin_37 ?_
        refine lv_bipush (v := 30) hx hb dX4_begin_40 (by decide) ?_
        refine lv_icmp_ne (tgt := 49) hx hb dX4_begin_42 (by decide) (fun c_4 => ?_) (fun c_4 => ?_)
        · refine lv_iconst (v := 0) hx hb dX4_begin_49 (by decide) ?_
          refine pf_X4_60 hx hb hT hown hK hP hD hS (hI.1 0 (by decide)) (v := 0) dX4_begin_50 (fun H locs hP hS => ?_)
          refine lv_aload_n hx hb dX4_begin_53 rfl (lv_at hl 0 rfl) ?_
          refine gf_X4_60 hx hb hT hown hK (v := .int 0) (hP.at (hI.1 0 (by decide)) rfl) rfl dX4_begin_54 ?_
          refine lv_if_le (tgt := 62) hx hb dX4_begin_57 (by decide) (fun c_5 => ?_) (fun c_5 => ?_)
          · refine lv_aload_n hx hb dX4_begin_62 rfl (lv_at hl 0 rfl) ?_
            refine gf_X4_25 hx hb hT hown hK (v := .ref (ad 1)) (hP.at (hI.1 0 (by decide)) rfl) rfl dX4_begin_63 ?_
            refine lv_aload_n hx hb dX4_begin_66 rfl (lv_at hl 0 rfl) ?_
            refine gf_X4_63 hx hb hT hown hK (v := .int (MI 0 6)) (hP.at (hI.1 0 (by decide)) rfl) rfl dX4_begin_67 ?_
            rw [hnp]
            refine lv_aload_n hx hb dX4_begin_70 rfl (lv_at hl 0 rfl) ?_
            refine gf_X4_92 hx hb hT hown hK (v := .int (MI 0 0)) (hP.at (hI.1 0 (by decide)) rfl) rfl dX4_begin_71 ?_
            refine as_1N hx hb hK hP hD hS (hI.1 1 (by decide)) (v := MI 0 0) (by omega) dX4_begin_74 (fun H locs hP hS => ?_)
            refine lv_aload_n hx hb dX4_begin_75 rfl (lv_at hl 0 rfl) ?_
            refine gf_X4_29 hx hb hT hown hK (v := .ref (ad 2)) (hP.at (hI.1 0 (by decide)) rfl) rfl dX4_begin_76 ?_
            refine lv_aload_n hx hb dX4_begin_79 rfl (lv_at hl 0 rfl) ?_
            refine gf_X4_63 hx hb hT hown hK (v := .int (MI 0 6)) (hP.at (hI.1 0 (by decide)) rfl) rfl dX4_begin_80 ?_
            rw [hnp]
            refine lv_iload_n hx hb dX4_begin_83 rfl (lv_at hl 1 rfl) ?_
            refine as_2N hx hb hK hP hD hS (hI.1 2 (by decide)) (v := te) (by omega) dX4_begin_84 (fun H locs hP hS => ?_)
            refine lv_aload_n hx hb dX4_begin_85 rfl (lv_at hl 0 rfl) ?_
            refine gf_X4_32 hx hb hT hown hK (v := .ref (ad 3)) (hP.at (hI.1 0 (by decide)) rfl) rfl dX4_begin_86 ?_
            refine lv_aload_n hx hb dX4_begin_89 rfl (lv_at hl 0 rfl) ?_
            refine gf_X4_63 hx hb hT hown hK (v := .int (MI 0 6)) (hP.at (hI.1 0 (by decide)) rfl) rfl dX4_begin_90 ?_
            rw [hnp]
            refine lv_iload_n hx hb dX4_begin_93 rfl (lv_at hl 2 rfl) ?_
            refine as_3N hx hb hK hP hD hS (hI.1 3 (by decide)) (v := pr) (by omega) dX4_begin_94 (fun H locs hP hS => ?_)
            refine lv_aload_n hx hb dX4_begin_95 rfl (lv_at hl 0 rfl) ?_
            refine gf_X4_35 hx hb hT hown hK (v := .ref (ad 4)) (hP.at (hI.1 0 (by decide)) rfl) rfl dX4_begin_96 ?_
            refine lv_aload_n hx hb dX4_begin_99 rfl (lv_at hl 0 rfl) ?_
            refine gf_X4_63 hx hb hT hown hK (v := .int (MI 0 6)) (hP.at (hI.1 0 (by decide)) rfl) rfl dX4_begin_100 ?_
            rw [hnp]
            refine lv_iload_n hx hb dX4_begin_103 rfl (lv_at hl 3 rfl) ?_
            refine as_4N hx hb hK hP hD hS (hI.1 4 (by decide)) (v := su) (by omega) dX4_begin_104 (fun H locs hP hS => ?_)
            refine lv_aload_n hx hb dX4_begin_105 rfl (lv_at hl 0 rfl) ?_
            refine lv_dup hx hb dX4_begin_106 rfl ?_
            refine gf_X4_63 hx hb hT hown hK (v := .int (MI 0 6)) (hP.at (hI.1 0 (by decide)) rfl) rfl dX4_begin_107 ?_
            rw [hnp]
            refine lv_iconst (v := 1) hx hb dX4_begin_110 (by decide) ?_
            refine lv_iadd hx hb dX4_begin_111 ?_
            rw [nI_1 cn]
            refine pf_X4_63 hx hb hT hown hK hP hD hS (hI.1 0 (by decide)) (v := nI (cn + 1)) dX4_begin_112 (fun H locs hP hS => ?_)
            refine lv_aload_n hx hb dX4_begin_115 rfl (lv_at hl 0 rfl) ?_
            refine gf_X4_63 hx hb hT hown hK (v := .int (nI (cn + 1))) (hP.at (hI.1 0 (by decide)) rfl) rfl dX4_begin_116 ?_
            refine lv_iconst (v := 1) hx hb dX4_begin_119 (by decide) ?_
            refine lv_isub hx hb dX4_begin_120 ?_
            rw [nI_pred cn]
            exact zW_i hx hb hr hlk hS (Nat.le_of_ble_eq_true rfl) (Nat.le_of_ble_eq_true rfl) dX4_begin_121 (rfl) (hP)
          · exact absurd c_5 (by decide)
        · exact absurd (show cn = 30 from (nI_eq (a := cn) (b := 30) (by omega) (by decide)).mp (hnp.symm.trans c_4)) (by omega)
      · exact absurd ((h2).symm.trans c_3) (by decide)
theorem sim.out {y : Nat} (h : sim np ng G MI MJ XI XJ y) (v : Int64) : sim np ng G MI (u2 MJ 3 0 v) XI XJ y :=
  ⟨h.1, h.2.1, h.2.2.1.cast rfl rfl rfl rfl rfl rfl rfl rfl rfl, h.2.2.2.1.cast rfl rfl rfl rfl rfl rfl rfl rfl, h.2.2.2.2.1, h.2.2.2.2.2.1, h.2.2.2.2.2.2.1, h.2.2.2.2.2.2.2⟩
theorem lvJ_3 {z : Int64} {h : Nat} {sh : Int64} {pay : Int32} : lvJ z MJ h sh pay 3 = MJ 3 := by
  unfold lvJ
  split <;> simp [u2]
theorem mGrow_3 {rt : Int32} : ∀ (k : Nat) (J : Nat → Nat → Int64), mGrow MI rt np k J 3 = J 3 := by
  intro k
  induction k with
  | zero => intro J; rfl
  | succ k ih =>
    intro J
    simp only [mGrow]
    unfold mGrow1
    split
    · rw [u2_k (by decide), u2_k (by decide), u2_k (by decide), u2_k (by decide)]; exact ih J
    · exact ih J
theorem mMtS_3 : ∀ (k : Nat) (S : mST), (mMtS np k S).2 3 = S.2 3 := by
  intro k
  induction k with
  | zero => intro S; rfl
  | succ k ih =>
    intro S
    simp only [mMtS]
    split
    · show lvJ _ _ _ _ _ 3 = _
      rw [lvJ_3]; exact ih S
    · exact ih S
theorem mRunJ_3 {rt : Int32} : mRunJ MI MJ rt np 3 = MJ 3 := by
  unfold mRunJ
  rw [mMtS_3]
  unfold mS0
  show mGrJ rt np (u2 MI 0 7 0) _ 3 = _
  rw [mGrJ_a (by decide), u2_k (by decide), u2_k (by decide), mGrow_3]
theorem mRunI_7 {rt : Int32} : mRunI MI MJ rt np 0 7 = 0 := by
  unfold mRunI
  rw [u2_n (by decide), mCpy_k (by decide), mMtS_k (by decide) (by decide) (by decide)]
  unfold mS0
  show mCpy 9 8 21 (mGrI np (u2 MI 0 7 0)) 0 7 = 0
  rw [mCpy_k (by decide), mGrI_k (by decide)]
  rfl
/-- who may leave -/
theorem leav_eq {y : Nat} (h : sim np ng G MI MJ XI XJ y) {j : Nat} (hj : j < np) : (MI 5 j = 0 ∧ MI 1 j < MI 0 0) ↔ (XI 15 j = 0 ∧ 1 ≤ XI 10 2 - XI 11 (G j)) := by
  obtain ⟨a1, a2, a3, a4, a5, a6⟩ := h.2.1.1 j hj
  obtain ⟨t1, t2, t3⟩ := h.2.2.2.2.2.1.2 j hj
  obtain ⟨ag, -⟩ := age1 h.2.2.2.2.2.1.1 ⟨t1, t2⟩
  rw [← a5, ← a1, ← h.2.2.2.2.1.1.1]
  have hone : (1 : Int32).toInt = 1 := by decide
  rw [Int32.lt_iff_toInt_lt, Int32.le_iff_toInt_le, ag, hone]
  constructor
  · rintro ⟨p1, p2⟩; exact ⟨p1, by omega⟩
  · rintro ⟨p1, p2⟩; exact ⟨p1, by omega⟩
/-- what the two start with -/
def MI0 : Nat → Nat → Int32 := fun a b => if a = 0 then (if b = 1 then 20 else if b = 2 then 5 else if b = 3 then 1000 else if b = 4 then 100 else if b = 5 then 500 else 0) else 0
def XI0 : Nat → Nat → Int32 := fun a b => if a = 10 then (if b = 3 then 20 else if b = 4 then 5 else if b = 5 then 1000 else if b = 6 then 100 else if b = 7 then 500 else 0) else 0
def XJ0 : Nat → Nat → Int64 := fun a => if a = 5 then cF 21 else fun _ => 0
theorem sim_start : sim 0 0 (fun _ => 0) MI0 (fun _ _ => 0) XI0 XJ0 0 := by
  have z : ∀ {P : Nat → Prop}, ∀ j, j < 0 → P j := fun j h => absurd h (Nat.not_lt_zero _)
  refine ⟨⟨by decide, by decide⟩, ⟨z, fun i k h => absurd h (Nat.not_lt_zero _), ⟨z, rfl⟩, ⟨rfl, by decide, z⟩, z⟩, ⟨z, fun k _ => rfl, rfl, rfl⟩, z, ⟨⟨rfl, rfl, rfl, rfl, rfl, rfl⟩, by decide, by decide, by decide, by decide, by decide⟩, ⟨by decide, z⟩, fun t ht => ?_, ⟨rfl, rfl⟩, fun m _ => ⟨rfl, rfl, rfl⟩⟩
  refine ⟨?_, by show 0 ≤ (0 : Int32).toInt; decide, by show (0 : Int32).toInt ≤ _; decide⟩
  show cF 21 t = Int32.toInt64 0 - 1
  unfold cF
  rw [if_pos ht]
  decide
end ZLC
