/-! the office: a year -/
section ZX2
variable {D : va_G} {ks : Nat → ClassId} {ad : Nat → Nat} {np ng : Nat} {G : Nat → Nat} {MI : Nat → Nat → Int32} {MJ : Nat → Nat → Int64} {XI : Nat → Nat → Int32} {XJ : Nat → Nat → Int64} {Rs : List Nat}
theorem fRat_nI {f : Nat → Int64} {t : Nat} (h : t < 21) : fRat f (nI t) = f t := by
  unfold fRat
  rw [if_pos ⟨nI_pos' (by omega), nI_lt (b := 21) h (by decide)⟩, nI_clamp (by omega)]
def xGG1 (XI : Nat → Nat → Int32) (ng : Nat) (rt : Int32) (k : Nat) (J : Nat → Nat → Int64) : Nat → Nat → Int64 :=
  if k < ng ∧ 0 < J 7 k then
    u2 (u2 (u2 (u2 (u2 (u2 J 8 k (J 8 k + J 7 k)) 4 1 (J 4 1 + J 7 k)) 8 k (J 8 k + J 7 k + fThou (J 8 k + J 7 k) (Int32.toInt64 rt))) 4 1 (J 4 1 + J 7 k + fThou (J 8 k + J 7 k) (Int32.toInt64 rt)))
      8 k (J 8 k + J 7 k + fThou (J 8 k + J 7 k) (Int32.toInt64 rt) - fChg (J 8 k + J 7 k + fThou (J 8 k + J 7 k) (Int32.toInt64 rt)) (Int32.toInt64 (XI 10 4)))) 4 0 (J 4 0 + fChg (J 8 k + J 7 k + fThou (J 8 k + J 7 k) (Int32.toInt64 rt)) (Int32.toInt64 (XI 10 4)))
  else J
def xGG (XI : Nat → Nat → Int32) (ng : Nat) (rt : Int32) : Nat → (Nat → Nat → Int64) → Nat → Nat → Int64
  | 0, J => J
  | k + 1, J => xGG1 XI ng rt k (xGG XI ng rt k J)
def xPA1 (XI : Nat → Nat → Int32) (np : Nat) (rt : Int32) (k : Nat) (J : Nat → Nat → Int64) : Nat → Nat → Int64 :=
  if k < np ∧ XI 15 k = 0 then
    u2 (u2 (u2 J 9 k (J 9 k + Int32.toInt64 (XI 13 k))) 9 k (J 9 k + Int32.toInt64 (XI 13 k) + fThou (J 9 k + Int32.toInt64 (XI 13 k)) (Int32.toInt64 rt))) 9 k
      (J 9 k + Int32.toInt64 (XI 13 k) + fThou (J 9 k + Int32.toInt64 (XI 13 k)) (Int32.toInt64 rt) - fChg (J 9 k + Int32.toInt64 (XI 13 k) + fThou (J 9 k + Int32.toInt64 (XI 13 k)) (Int32.toInt64 rt)) (Int32.toInt64 (XI 10 4)))
  else J
def xPA (XI : Nat → Nat → Int32) (np : Nat) (rt : Int32) : Nat → (Nat → Nat → Int64) → Nat → Nat → Int64
  | 0, J => J
  | k + 1, J => xPA1 XI np rt k (xPA XI np rt k J)
def xGB1 (XI : Nat → Nat → Int32) (np : Nat) (k : Nat) (J : Nat → Nat → Int64) : Nat → Nat → Int64 :=
  if k < np ∧ XI 15 k = 0 then u2 J 10 k (J 10 k + fThou (Int32.toInt64 (XI 14 k) + J 10 k) (Int32.toInt64 (XI 10 3))) else J
def xGB (XI : Nat → Nat → Int32) (np : Nat) : Nat → (Nat → Nat → Int64) → Nat → Nat → Int64
  | 0, J => J
  | k + 1, J => xGB1 XI np k (xGB XI np k J)
def xCpy : Nat → (Nat → Nat → Int64) → Nat → Nat → Int64
  | 0, J => J
  | t + 1, J => u2 (xCpy t J) 6 t (xCpy t J 5 t)
def xRat (XI : Nat → Nat → Int32) (XJ : Nat → Nat → Int64) (G : Nat → Nat) (j t : Nat) : Int64 := fSmooth (fParted (fThou (fAsset (XI 15 j) (XJ 8 (G j)) (XI 13 j) (XJ 7 (G j))) (Int32.toInt64 (XI 10 5)) * 1000) (Int32.toInt64 (nI t) * Int32.toInt64 (XI 13 j))) (XJ 6 t) (XI 10 6)
def xPay (XI : Nat → Nat → Int32) (XJ : Nat → Nat → Int64) (G : Nat → Nat) (j t : Nat) : Int64 := fMax (fThou (Int32.toInt64 (nI t) * Int32.toInt64 (XI 13 j)) (xRat XI XJ G j t)) (Int32.toInt64 (XI 14 j) + XJ 10 j)
def xCloJ (XI : Nat → Nat → Int32) (G : Nat → Nat) (j : Nat) (pay : Int64) (J : Nat → Nat → Int64) : Nat → Nat → Int64 :=
  u2 (u2 (u2 (u2 (u2 J 7 (G j) (J 7 (G j) - Int32.toInt64 (XI 13 j))) 8 (G j) (J 8 (G j) - fRel (J 8 (G j)) (XI 13 j) (J 7 (G j)))) 4 0 (J 4 0 + (fRel (J 8 (G j)) (XI 13 j) (J 7 (G j)) - pay))) 4 1 (J 4 1 - pay)) 11 j pay
def xMatJ (XI : Nat → Nat → Int32) (G : Nat → Nat) (j t : Nat) (J : Nat → Nat → Int64) : Nat → Nat → Int64 := xCloJ XI G j (xPay XI J G j t) (u2 J 5 t (xRat XI J G j t))
abbrev xTn (XI : Nat → Nat → Int32) (G : Nat → Nat) (k : Nat) : Nat := (XI 12 (G k)).toInt.toNat
abbrev xST : Type := (Nat → Nat → Int32) × (Nat → Nat → Int64)
def xMtS (np : Nat) (G : Nat → Nat) : Nat → xST → xST
  | 0, S => S
  | k + 1, S => if k < np ∧ (xMtS np G k S).1 15 k = 0 ∧ (xMtS np G k S).1 12 (G k) ≤ (xMtS np G k S).1 10 2 - (xMtS np G k S).1 11 (G k) + 1 then
      (u2 (xMtS np G k S).1 15 k 1, xMatJ (xMtS np G k S).1 G k (xTn (xMtS np G k S).1 G k) (xMtS np G k S).2) else xMtS np G k S
def xMtN (np : Nat) (G : Nat → Nat) : Nat → xST → Nat
  | 0, _ => 0
  | k + 1, S => xMtN np G k S + (if k < np ∧ (xMtS np G k S).1 15 k = 0 ∧ (xMtS np G k S).1 12 (G k) ≤ (xMtS np G k S).1 10 2 - (xMtS np G k S).1 11 (G k) + 1 then 1 else 0)
theorem xMtS_k {np : Nat} {G : Nat → Nat} {a : Nat} (h : a ≠ 15) : ∀ (n : Nat) (S : xST), (xMtS np G n S).1 a = S.1 a := by
  intro n
  induction n with
  | zero => intro S; rfl
  | succ n ih =>
    intro S
    simp only [xMtS]
    split
    · show u2 _ 15 _ _ a = _
      rw [u2_k h]
      exact ih S
    · exact ih S
/-- what the office's year rests on -/
def xOK (XI : Nat → Nat → Int32) (G : Nat → Nat) (np ng : Nat) : Prop := np ≤ 30 ∧ ng ≤ 30 ∧ (∀ j, j < np → G j < ng) ∧ ∀ i, i < ng → 2 ≤ (XI 12 i).toInt ∧ (XI 12 i).toInt ≤ 20
theorem xOK.tn {XI : Nat → Nat → Int32} {G : Nat → Nat} {np ng j : Nat} (h : xOK XI G np ng) (hj : j < np) : XI 12 (G j) = nI (xTn XI G j) ∧ xTn XI G j < 21 := by
  obtain ⟨h1, h2⟩ := h.2.2.2 (G j) (h.2.2.1 j hj)
  refine ⟨?_, by show (XI 12 (G j)).toInt.toNat < 21; omega⟩
  apply Int32.toInt_inj.mp
  show _ = (nI (XI 12 (G j)).toInt.toNat).toInt
  rw [nI_toInt (by omega)]
  omega
theorem xOK.to {XI M : Nat → Nat → Int32} {G : Nat → Nat} {np ng : Nat} (h : xOK XI G np ng) (e : M 12 = XI 12) : xOK M G np ng := ⟨h.1, h.2.1, h.2.2.1, by rw [e]; exact h.2.2.2⟩
set_option maxHeartbeats 4000000 in
set_option maxRecDepth 100000 in
theorem c_X3_growGenerations (l : Launch) (hD0 : zD (fun _ => True) Rs ad) (hI : zIn Rs np ng) (rt : Int32) (hok : xOK XI G np ng) (sz : Nat) : zMW l yX3_growGenerations cX3_growGenerations 4 ((none : Option FieldType)) 3 (71) 0 0 D ks sz [.ref (ad 13), .int rt] (zP D Rs ad (gS ks ad np ng G MI MJ XI XJ)) none (zP D Rs ad (gS ks ad np ng G MI MJ XI (xGG XI ng rt 30 XJ))) (zA Rs ad sz) := by
  refine zMW.of (by decide +kernel) (Nat.le_of_ble_eq_true rfl) ?_
  intro p e s m below meth c ls hx hb hr hml hown hlk hT hsz hP hK hl hin
  have hl : lv_has ls 4 [(0, .ref (ad 13)), (1, .int rt)] := hl
  subst hsz
  have hD := hD0.self (sz := s.heap.size)
  have hA : ∀ q : Nat, s.heap.size ≤ q → zA Rs ad s.heap.size q := fun q h => Or.inr h
  have hS : va_S (zA Rs ad s.heap.size) s.heap s.heap [] := va_S.rf
  have L : ∀ (n k : Nat) (J1 : Nat → Nat → Int64) (H : Heap) (locs : List Loc) (ls : Array Slot), k + n = 30 → J1 = xGG XI ng rt k XJ → zP D Rs ad (gS ks ad np ng G MI MJ XI J1) H → va_S (zA Rs ad s.heap.size) s.heap H locs → lv_has ls 4 [(2, .int (nI k)), (0, .ref (ad 13)), (1, .int rt)] → W p l e (zRm 3 (71) 0 0) s m ([.ref (ad 13), .int rt] : List Value).toArray below meth c H locs 0 0 (MQ below (zQW none (zP D Rs ad (gS ks ad np ng G MI MJ XI (xGG XI ng rt 30 XJ))) (zA Rs ad s.heap.size)) ([.ref (ad 13), .int rt] : List Value).toArray s 0 0 (zA Rs ad s.heap.size)) (F0 m 2 ls []) := by
    intro n
    induction n with
    | zero =>
      intro k J1 H locs ls hkn hJ hP hS hl
      have hk0 : k = 30 := by omega
      subst hk0; subst hJ
      refine lv_iload_n hx hb dX3_growGenerations_2 rfl (lv_at hl 0 rfl) ?_
      refine lv_aload_n hx hb dX3_growGenerations_3 rfl (lv_at hl 1 rfl) ?_
      refine gf_X3_17 hx hb hT hown hK (hP.at (hI.1 13 (by decide)) rfl) rfl dX3_growGenerations_4 ?_
      refine z_glen hx hb hK (hP.at (hI.1 15 (by decide)) rfl) (v := 30) rfl dX3_growGenerations_7 ?_
      refine lv_icmp_ge (tgt := 103) hx hb dX3_growGenerations_8 (by decide) (fun c_1 => ?_) (fun c_1 => ?_)
      · exact zW_v hx hb hr hlk hS (Nat.le_of_ble_eq_true rfl) (Nat.le_of_ble_eq_true rfl) dX3_growGenerations_103 (hP)
      · exact absurd (nI_le (a := 30) (b := 30) (Nat.le_refl _) (by decide)) c_1
    | succ n ih =>
      intro k J1 H locs ls hkn hJ hP hS hl
      have hk : k < 30 := by omega
      refine lv_iload_n hx hb dX3_growGenerations_2 rfl (lv_at hl 0 rfl) ?_
      refine lv_aload_n hx hb dX3_growGenerations_3 rfl (lv_at hl 1 rfl) ?_
      refine gf_X3_17 hx hb hT hown hK (hP.at (hI.1 13 (by decide)) rfl) rfl dX3_growGenerations_4 ?_
      refine z_glen hx hb hK (hP.at (hI.1 15 (by decide)) rfl) (v := 30) rfl dX3_growGenerations_7 ?_
      refine lv_icmp_ge (tgt := 103) hx hb dX3_growGenerations_8 (by decide) (fun c_2 => ?_) (fun c_2 => ?_)
      · exact absurd c_2 (nI_ge (a := k) (b := 30) hk (by decide))
      · refine lv_aload_n hx hb dX3_growGenerations_11 rfl (lv_at hl 1 rfl) ?_
        refine gf_X3_17 hx hb hT hown hK (hP.at (hI.1 13 (by decide)) rfl) rfl dX3_growGenerations_12 ?_
        refine lv_iload_n hx hb dX3_growGenerations_15 rfl (lv_at hl 0 rfl) ?_
        refine z_galdN hx hb hK (hP.at (hI.1 15 (by decide)) rfl) (hk) (by decide) rfl dX3_growGenerations_16 ?_
        rcases Nat.lt_or_ge k ng with hg | hg
        · rw [show rGen ad ng k = some (ad (20 + 4 * k)) from if_pos hg]
          show W _ _ _ _ _ _ _ _ _ _ _ _ _ _ _ (F0 m 17 ls (.ref (ad (20 + 4 * k)) :: []))
          refine lv_astore_n (lv' := [(3, .ref (ad (20 + 4 * k))), (2, .int (nI k)), (0, .ref (ad 13)), (1, .int rt)]) hx hb dX3_growGenerations_17 rfl hl (by decide) rfl (fun ls hl => ?_)
          refine lv_aload_n hx hb dX3_growGenerations_18 rfl (lv_at hl 0 rfl) ?_
          refine lv_ifnull hx hb dX3_growGenerations_19 ?_
          refine lv_aload_n hx hb dX3_growGenerations_22 rfl (lv_at hl 0 rfl) ?_
          refine gf_X3_208 hx hb hT hown hK (hP.at (hI.2.1 k hg).1 gS_0) rfl dX3_growGenerations_23 ?_
          refine lv_lconst (v := 0) hx hb dX3_growGenerations_26 (by decide) ?_
          refine z_lcmp_le (tgt := 97) hx hb dX3_growGenerations_27 dX3_growGenerations_28 (by decide) (fun c_3 => ?_) (fun c_3 => ?_)
          · refine lv_iinc (v := nI (k + 1)) (lv' := [(2, .int (nI (k + 1))), (3, .ref (ad (20 + 4 * k))), (0, .ref (ad 13)), (1, .int rt)]) hx hb dX3_growGenerations_97 hl (k := 1) rfl (nI_1 k) (by decide) rfl (fun ls hl => ?_)
            refine lv_goto (tgt := 2) hx hb dX3_growGenerations_100 (by decide) ?_
            exact ih (k + 1) (J1) H locs _ (by omega) (by simp only [xGG]; rw [← hJ]; exact (if_neg (fun h => c_3 h.2)).symm) hP hS (lv_sub hl [0, 2, 3] rfl)
          · refine lv_aload_n hx hb dX3_growGenerations_31 rfl (lv_at hl 0 rfl) ?_
            refine gf_X3_161 hx hb hT hown hK (hP.at (hI.2.1 k hg).1 gS_0) rfl dX3_growGenerations_32 ?_
            refine lv_dup hx hb dX3_growGenerations_35 rfl ?_
            refine gf_X3_151 hx hb hT hown hK (hP.at (hI.2.1 k hg).2 gS_1) rfl dX3_growGenerations_36 ?_
            refine lv_aload_n hx hb dX3_growGenerations_39 rfl (lv_at hl 0 rfl) ?_
            refine gf_X3_208 hx hb hT hown hK (hP.at (hI.2.1 k hg).1 gS_0) rfl dX3_growGenerations_40 ?_
            refine lv_ladd hx hb dX3_growGenerations_43 ?_
            refine pf_X3_151 hx hb hT hown hK hP hD hS (hI.2.1 k hg).2 (v := (J1 8 k) + (J1 7 k)) dX3_growGenerations_44 (fun H locs hP hS => ?_)
            refine lv_aload_n hx hb dX3_growGenerations_47 rfl (lv_at hl 2 rfl) ?_
            refine lv_dup hx hb dX3_growGenerations_48 rfl ?_
            refine gf_X3_105 hx hb hT hown hK (v := .long (J1 4 1)) (hP.at (hI.1 13 (by decide)) rfl) rfl dX3_growGenerations_49 ?_
            refine lv_aload_n hx hb dX3_growGenerations_52 rfl (lv_at hl 0 rfl) ?_
            refine gf_X3_208 hx hb hT hown hK (v := .long (J1 7 k)) (hP.at (hI.2.1 k hg).1 gS_0) rfl dX3_growGenerations_53 ?_
            refine lv_ladd hx hb dX3_growGenerations_56 ?_
            refine pf_X3_105 hx hb hT hown hK hP hD hS (hI.1 13 (by decide)) (v := (J1 4 1) + (J1 7 k)) dX3_growGenerations_57 (fun H locs hP hS => ?_)
            refine lv_aload_n hx hb dX3_growGenerations_60 rfl (lv_at hl 2 rfl) ?_
            refine lv_dup hx hb dX3_growGenerations_61 rfl ?_
            refine gf_X3_105 hx hb hT hown hK (v := .long ((J1 4 1) + (J1 7 k))) (hP.at (hI.1 13 (by decide)) rfl) rfl dX3_growGenerations_62 ?_
            refine lv_aload_n hx hb dX3_growGenerations_65 rfl (lv_at hl 0 rfl) ?_
            refine gf_X3_161 hx hb hT hown hK (v := .ref (ad (21 + 4 * k))) (hP.at (hI.2.1 k hg).1 gS_0) rfl dX3_growGenerations_66 ?_
            refine lv_iload_n hx hb dX3_growGenerations_69 rfl (lv_at hl 3 rfl) ?_
            refine z_backW1 (z_runVN ⟨hx, hb, hml, hown, hT⟩ hK (rest := [.long ((J1 4 1) + (J1 7 k)), .ref (ad 13)]) (As := [.int rt]) (c_X0_earn (g := gS ks ad np ng G MI MJ XI (u2 (u2 J1 8 k ((J1 8 k) + (J1 7 k))) 4 1 ((J1 4 1) + (J1 7 k)))) l hD0 (21 + 4 * k) ((hI.2.1 k hg).2) ((J1 8 k) + (J1 7 k)) (gS_1.trans (congrArg (fun z : Int64 => (Sum.inr (0, [Value.long z]) : va_E)) (u2_s (F := J1) (k := 8) (i := k) (v := (J1 8 k) + (J1 7 k))))) rt _) k_X3_211 (z_preWV hK hP (hP.at (hI.2.1 k hg).2 gS_1) rfl) rfl ⟨Nat.le_of_ble_eq_true rfl, Nat.le_of_ble_eq_true rfl⟩ hl.1 rfl (Nat.le_of_ble_eq_true rfl) dX3_growGenerations_70 ⟨Nat.le_of_ble_eq_true rfl, Nat.le_of_ble_eq_true rfl⟩) hS (hD.free (fun q hq => hA q (Nat.le_trans hS.1 hq))) (fun H locs hP hz1 hk1 hS => ?_)
            have hP : zP D Rs ad (gS ks ad np ng G MI MJ XI (u2 (u2 (u2 J1 8 k ((J1 8 k) + (J1 7 k))) 4 1 ((J1 4 1) + (J1 7 k))) 8 k (((J1 8 k) + (J1 7 k)) + fThou ((J1 8 k) + (J1 7 k)) (Int32.toInt64 rt)))) H := by rw [← gu_gamt]; exact hP
            refine lv_ladd hx hb dX3_growGenerations_73 ?_
            refine lv_topl (fun v4 ev4 => ?_)
            refine pf_X3_105 hx hb hT hown hK hP hD hS (hI.1 13 (by decide)) (v := v4) dX3_growGenerations_74 (fun H locs hP hS => ?_)
            refine lv_aload_n hx hb dX3_growGenerations_77 rfl (lv_at hl 2 rfl) ?_
            refine lv_dup hx hb dX3_growGenerations_78 rfl ?_
            refine gf_X3_101 hx hb hT hown hK (v := .long (J1 4 0)) (hP.at (hI.1 13 (by decide)) rfl) rfl dX3_growGenerations_79 ?_
            refine lv_aload_n hx hb dX3_growGenerations_82 rfl (lv_at hl 0 rfl) ?_
            refine gf_X3_161 hx hb hT hown hK (v := .ref (ad (21 + 4 * k))) (hP.at (hI.2.1 k hg).1 gS_0) rfl dX3_growGenerations_83 ?_
            refine lv_aload_n hx hb dX3_growGenerations_86 rfl (lv_at hl 2 rfl) ?_
            refine gf_X3_34 hx hb hT hown hK (v := .int (XI 10 4)) (hP.at (hI.1 13 (by decide)) rfl) rfl dX3_growGenerations_87 ?_
            refine z_backW1 (z_runVN ⟨hx, hb, hml, hown, hT⟩ hK (rest := [.long (J1 4 0), .ref (ad 13)]) (As := [.int (XI 10 4)]) (c_X0_takeCharge (g := gS ks ad np ng G MI MJ XI (u2 (u2 (u2 (u2 J1 8 k ((J1 8 k) + (J1 7 k))) 4 1 ((J1 4 1) + (J1 7 k))) 8 k (((J1 8 k) + (J1 7 k)) + fThou ((J1 8 k) + (J1 7 k)) (Int32.toInt64 rt))) 4 1 v4)) l hD0 (21 + 4 * k) ((hI.2.1 k hg).2) (((J1 8 k) + (J1 7 k)) + fThou ((J1 8 k) + (J1 7 k)) (Int32.toInt64 rt)) (gS_1.trans (congrArg (fun z : Int64 => (Sum.inr (0, [Value.long z]) : va_E)) (u2_s (F := u2 (u2 J1 8 k ((J1 8 k) + (J1 7 k))) 4 1 ((J1 4 1) + (J1 7 k))) (k := 8) (i := k) (v := ((J1 8 k) + (J1 7 k)) + fThou ((J1 8 k) + (J1 7 k)) (Int32.toInt64 rt))))) (XI 10 4) _) k_X3_215 (z_preWV hK hP (hP.at (hI.2.1 k hg).2 gS_1) rfl) rfl ⟨Nat.le_of_ble_eq_true rfl, Nat.le_of_ble_eq_true rfl⟩ hl.1 rfl (Nat.le_of_ble_eq_true rfl) dX3_growGenerations_90 ⟨Nat.le_of_ble_eq_true rfl, Nat.le_of_ble_eq_true rfl⟩) hS (hD.free (fun q hq => hA q (Nat.le_trans hS.1 hq))) (fun H locs hP hz1 hk1 hS => ?_)
            have hP : zP D Rs ad (gS ks ad np ng G MI MJ XI (u2 (u2 (u2 (u2 (u2 J1 8 k ((J1 8 k) + (J1 7 k))) 4 1 ((J1 4 1) + (J1 7 k))) 8 k (((J1 8 k) + (J1 7 k)) + fThou ((J1 8 k) + (J1 7 k)) (Int32.toInt64 rt))) 4 1 v4) 8 k ((((J1 8 k) + (J1 7 k)) + fThou ((J1 8 k) + (J1 7 k)) (Int32.toInt64 rt)) - fChg (((J1 8 k) + (J1 7 k)) + fThou ((J1 8 k) + (J1 7 k)) (Int32.toInt64 rt)) (Int32.toInt64 (XI 10 4))))) H := by rw [← gu_gamt]; exact hP
            refine lv_ladd hx hb dX3_growGenerations_93 ?_
            refine lv_topl (fun v5 ev5 => ?_)
            refine pf_X3_101 hx hb hT hown hK hP hD hS (hI.1 13 (by decide)) (v := v5) dX3_growGenerations_94 (fun H locs hP hS => ?_)
            refine lv_iinc (v := nI (k + 1)) (lv' := [(2, .int (nI (k + 1))), (3, .ref (ad (20 + 4 * k))), (0, .ref (ad 13)), (1, .int rt)]) hx hb dX3_growGenerations_97 hl (k := 1) rfl (nI_1 k) (by decide) rfl (fun ls hl => ?_)
            refine lv_goto (tgt := 2) hx hb dX3_growGenerations_100 (by decide) ?_
            exact ih (k + 1) (u2 (u2 (u2 (u2 (u2 (u2 J1 8 k ((J1 8 k) + (J1 7 k))) 4 1 ((J1 4 1) + (J1 7 k))) 8 k (((J1 8 k) + (J1 7 k)) + fThou ((J1 8 k) + (J1 7 k)) (Int32.toInt64 rt))) 4 1 v4) 8 k ((((J1 8 k) + (J1 7 k)) + fThou ((J1 8 k) + (J1 7 k)) (Int32.toInt64 rt)) - fChg (((J1 8 k) + (J1 7 k)) + fThou ((J1 8 k) + (J1 7 k)) (Int32.toInt64 rt)) (Int32.toInt64 (XI 10 4)))) 4 0 v5) H locs _ (by omega) (by subst ev5 ev4; simp only [xGG]; rw [← hJ]; exact (if_pos ⟨hg, c_3⟩).symm) hP hS (lv_sub hl [0, 2, 3] rfl)
        · have hg : ¬ k < ng := Nat.not_lt.mpr hg
          rw [show rGen ad ng k = none from if_neg hg]
          show W _ _ _ _ _ _ _ _ _ _ _ _ _ _ _ (F0 m 17 ls (.null :: []))
          refine lv_astore_nN (lv' := [(3, .null), (2, .int (nI k)), (0, .ref (ad 13)), (1, .int rt)]) hx hb dX3_growGenerations_17 rfl hl (by decide) rfl (fun ls hl => ?_)
          refine lv_aload_nN hx hb dX3_growGenerations_18 rfl (lv_at hl 0 rfl) ?_
          refine lv_ifnullN (tgt := 97) hx hb dX3_growGenerations_19 (by decide) ?_
          refine lv_iinc (v := nI (k + 1)) (lv' := [(2, .int (nI (k + 1))), (3, .null), (0, .ref (ad 13)), (1, .int rt)]) hx hb dX3_growGenerations_97 hl (k := 1) rfl (nI_1 k) (by decide) rfl (fun ls hl => ?_)
          refine lv_goto (tgt := 2) hx hb dX3_growGenerations_100 (by decide) ?_
          exact ih (k + 1) (J1) H locs _ (by omega) (by simp only [xGG]; rw [← hJ]; exact (if_neg (fun h => hg h.1)).symm) hP hS (lv_sub hl [0, 2, 3] rfl)
  refine lv_iconst (v := 0) hx hb dX3_growGenerations_0 (by decide) ?_
  refine lv_istore_n (lv' := [(2, .int 0), (0, .ref (ad 13)), (1, .int rt)]) hx hb dX3_growGenerations_1 rfl hl (by decide) rfl (fun ls hl => ?_)
  have hl := (show lv_has ls 4 [(2, .int (nI 0)), (0, .ref (ad 13)), (1, .int rt)] from (lv_sub hl [0, 1, 2] rfl))
  exact L 30 0 XJ s.heap [] _ (by omega) rfl hP hS hl
set_option maxHeartbeats 4000000 in
set_option maxRecDepth 100000 in
theorem c_X3_growPoliciesAlone (l : Launch) (hD0 : zD (fun _ => True) Rs ad) (hI : zIn Rs np ng) (rt : Int32) (hok : xOK XI G np ng) (sz : Nat) : zMW l yX3_growPoliciesAlone cX3_growPoliciesAlone 4 ((none : Option FieldType)) 3 (71) 0 0 D ks sz [.ref (ad 13), .int rt] (zP D Rs ad (gS ks ad np ng G MI MJ XI XJ)) none (zP D Rs ad (gS ks ad np ng G MI MJ XI (xPA XI np rt 30 XJ))) (zA Rs ad sz) := by
  refine zMW.of (by decide +kernel) (Nat.le_of_ble_eq_true rfl) ?_
  intro p e s m below meth c ls hx hb hr hml hown hlk hT hsz hP hK hl hin
  have hl : lv_has ls 4 [(0, .ref (ad 13)), (1, .int rt)] := hl
  subst hsz
  have hD := hD0.self (sz := s.heap.size)
  have hA : ∀ q : Nat, s.heap.size ≤ q → zA Rs ad s.heap.size q := fun q h => Or.inr h
  have hS : va_S (zA Rs ad s.heap.size) s.heap s.heap [] := va_S.rf
  have L : ∀ (n k : Nat) (J1 : Nat → Nat → Int64) (H : Heap) (locs : List Loc) (ls : Array Slot), k + n = 30 → J1 = xPA XI np rt k XJ → zP D Rs ad (gS ks ad np ng G MI MJ XI J1) H → va_S (zA Rs ad s.heap.size) s.heap H locs → lv_has ls 4 [(2, .int (nI k)), (0, .ref (ad 13)), (1, .int rt)] → W p l e (zRm 3 (71) 0 0) s m ([.ref (ad 13), .int rt] : List Value).toArray below meth c H locs 0 0 (MQ below (zQW none (zP D Rs ad (gS ks ad np ng G MI MJ XI (xPA XI np rt 30 XJ))) (zA Rs ad s.heap.size)) ([.ref (ad 13), .int rt] : List Value).toArray s 0 0 (zA Rs ad s.heap.size)) (F0 m 2 ls []) := by
    intro n
    induction n with
    | zero =>
      intro k J1 H locs ls hkn hJ hP hS hl
      have hk0 : k = 30 := by omega
      subst hk0; subst hJ
      refine lv_iload_n hx hb dX3_growPoliciesAlone_2 rfl (lv_at hl 0 rfl) ?_
      refine lv_aload_n hx hb dX3_growPoliciesAlone_3 rfl (lv_at hl 1 rfl) ?_
      refine gf_X3_11 hx hb hT hown hK (hP.at (hI.1 13 (by decide)) rfl) rfl dX3_growPoliciesAlone_4 ?_
      refine z_plen hx hb hK (hP.at (hI.1 14 (by decide)) rfl) (v := 30) rfl dX3_growPoliciesAlone_7 ?_
      refine lv_icmp_ge (tgt := 73) hx hb dX3_growPoliciesAlone_8 (by decide) (fun c_1 => ?_) (fun c_1 => ?_)
      · exact zW_v hx hb hr hlk hS (Nat.le_of_ble_eq_true rfl) (Nat.le_of_ble_eq_true rfl) dX3_growPoliciesAlone_73 (hP)
      · exact absurd (nI_le (a := 30) (b := 30) (Nat.le_refl _) (by decide)) c_1
    | succ n ih =>
      intro k J1 H locs ls hkn hJ hP hS hl
      have hk : k < 30 := by omega
      refine lv_iload_n hx hb dX3_growPoliciesAlone_2 rfl (lv_at hl 0 rfl) ?_
      refine lv_aload_n hx hb dX3_growPoliciesAlone_3 rfl (lv_at hl 1 rfl) ?_
      refine gf_X3_11 hx hb hT hown hK (hP.at (hI.1 13 (by decide)) rfl) rfl dX3_growPoliciesAlone_4 ?_
      refine z_plen hx hb hK (hP.at (hI.1 14 (by decide)) rfl) (v := 30) rfl dX3_growPoliciesAlone_7 ?_
      refine lv_icmp_ge (tgt := 73) hx hb dX3_growPoliciesAlone_8 (by decide) (fun c_2 => ?_) (fun c_2 => ?_)
      · exact absurd c_2 (nI_ge (a := k) (b := 30) hk (by decide))
      · refine lv_aload_n hx hb dX3_growPoliciesAlone_11 rfl (lv_at hl 1 rfl) ?_
        refine gf_X3_11 hx hb hT hown hK (hP.at (hI.1 13 (by decide)) rfl) rfl dX3_growPoliciesAlone_12 ?_
        refine lv_iload_n hx hb dX3_growPoliciesAlone_15 rfl (lv_at hl 0 rfl) ?_
        refine z_paldN hx hb hK (hP.at (hI.1 14 (by decide)) rfl) (hk) (by decide) rfl dX3_growPoliciesAlone_16 ?_
        rcases Nat.lt_or_ge k np with hg | hg
        · rw [show rPol ad np k = some (ad (22 + 4 * k)) from if_pos hg]
          show W _ _ _ _ _ _ _ _ _ _ _ _ _ _ _ (F0 m 17 ls (.ref (ad (22 + 4 * k)) :: []))
          refine lv_astore_n (lv' := [(3, .ref (ad (22 + 4 * k))), (2, .int (nI k)), (0, .ref (ad 13)), (1, .int rt)]) hx hb dX3_growPoliciesAlone_17 rfl hl (by decide) rfl (fun ls hl => ?_)
          refine lv_aload_n hx hb dX3_growPoliciesAlone_18 rfl (lv_at hl 0 rfl) ?_
          refine lv_ifnull hx hb dX3_growPoliciesAlone_19 ?_
          refine lv_aload_n hx hb dX3_growPoliciesAlone_22 rfl (lv_at hl 0 rfl) ?_
          refine z_backR1 (z_runVN ⟨hx, hb, hml, hown, hT⟩ hK (rest := []) (As := []) (c_X2_isInForce (MI := MI) (MJ := MJ) (XI := XI) (XJ := J1) l hI k (hg)) k_X3_143 (z_preRV hK hP (hP.at (hI.2.2 k hg).1 gS_2) rfl) rfl ⟨Nat.le_of_ble_eq_true rfl, Nat.le_of_ble_eq_true rfl⟩ hl.1 rfl (Nat.le_of_ble_eq_true rfl) dX3_growPoliciesAlone_23 ⟨Nat.le_of_ble_eq_true rfl, Nat.le_of_ble_eq_true rfl⟩) ?_
          refine lv_if_eq (tgt := 67) hx hb dX3_growPoliciesAlone_26 (by decide) (fun c_3 => ?_) (fun c_3 => ?_)
          · refine lv_iinc (v := nI (k + 1)) (lv' := [(2, .int (nI (k + 1))), (3, .ref (ad (22 + 4 * k))), (0, .ref (ad 13)), (1, .int rt)]) hx hb dX3_growPoliciesAlone_67 hl (k := 1) rfl (nI_1 k) (by decide) rfl (fun ls hl => ?_)
            refine lv_goto (tgt := 2) hx hb dX3_growPoliciesAlone_70 (by decide) ?_
            exact ih (k + 1) (J1) H locs _ (by omega) (by simp only [xPA]; rw [← hJ]; exact (if_neg (fun h => absurd ((if_pos h.2).symm.trans c_3 : (1 : Int32) = 0) (by decide))).symm) hP hS (lv_sub hl [0, 2, 3] rfl)
          · refine lv_aload_n hx hb dX3_growPoliciesAlone_29 rfl (lv_at hl 0 rfl) ?_
            refine gf_X3_147 hx hb hT hown hK (hP.at (hI.2.2 k hg).1 gS_2) rfl dX3_growPoliciesAlone_30 ?_
            refine lv_dup hx hb dX3_growPoliciesAlone_33 rfl ?_
            refine gf_X3_151 hx hb hT hown hK (hP.at (hI.2.2 k hg).2 gS_3) rfl dX3_growPoliciesAlone_34 ?_
            refine lv_aload_n hx hb dX3_growPoliciesAlone_37 rfl (lv_at hl 0 rfl) ?_
            refine gf_X3_218 hx hb hT hown hK (hP.at (hI.2.2 k hg).1 gS_2) rfl dX3_growPoliciesAlone_38 ?_
            refine lv_i2l hx hb dX3_growPoliciesAlone_41 rfl ?_
            refine lv_ladd hx hb dX3_growPoliciesAlone_42 ?_
            refine pp_X3_151 hx hb hT hown hK hP hD hS (hI.2.2 k hg).2 (v := (J1 9 k) + (Int32.toInt64 (XI 13 k))) dX3_growPoliciesAlone_43 (fun H locs hP hS => ?_)
            refine lv_aload_n hx hb dX3_growPoliciesAlone_46 rfl (lv_at hl 0 rfl) ?_
            refine gf_X3_147 hx hb hT hown hK (v := .ref (ad (23 + 4 * k))) (hP.at (hI.2.2 k hg).1 gS_2) rfl dX3_growPoliciesAlone_47 ?_
            refine lv_iload_n hx hb dX3_growPoliciesAlone_50 rfl (lv_at hl 3 rfl) ?_
            refine z_backW1 (z_runVN ⟨hx, hb, hml, hown, hT⟩ hK (rest := []) (As := [.int rt]) (c_X0_earn (g := gS ks ad np ng G MI MJ XI (u2 J1 9 k ((J1 9 k) + (Int32.toInt64 (XI 13 k))))) l hD0 (23 + 4 * k) ((hI.2.2 k hg).2) ((J1 9 k) + (Int32.toInt64 (XI 13 k))) (gS_3.trans (congrArg (fun z : Int64 => (Sum.inr (0, [Value.long z]) : va_E)) (u2_s (F := J1) (k := 9) (i := k) (v := (J1 9 k) + (Int32.toInt64 (XI 13 k)))))) rt _) k_X3_211 (z_preWV hK hP (hP.at (hI.2.2 k hg).2 gS_3) rfl) rfl ⟨Nat.le_of_ble_eq_true rfl, Nat.le_of_ble_eq_true rfl⟩ hl.1 rfl (Nat.le_of_ble_eq_true rfl) dX3_growPoliciesAlone_51 ⟨Nat.le_of_ble_eq_true rfl, Nat.le_of_ble_eq_true rfl⟩) hS (hD.free (fun q hq => hA q (Nat.le_trans hS.1 hq))) (fun H locs hP hz1 hk1 hS => ?_)
            have hP : zP D Rs ad (gS ks ad np ng G MI MJ XI (u2 (u2 J1 9 k ((J1 9 k) + (Int32.toInt64 (XI 13 k)))) 9 k (((J1 9 k) + (Int32.toInt64 (XI 13 k))) + fThou ((J1 9 k) + (Int32.toInt64 (XI 13 k))) (Int32.toInt64 rt)))) H := by rw [← gu_pamt]; exact hP
            refine lv_pop2_2 hx hb dX3_growPoliciesAlone_54 rfl ?_
            refine lv_aload_n hx hb dX3_growPoliciesAlone_55 rfl (lv_at hl 0 rfl) ?_
            refine gf_X3_147 hx hb hT hown hK (v := .ref (ad (23 + 4 * k))) (hP.at (hI.2.2 k hg).1 gS_2) rfl dX3_growPoliciesAlone_56 ?_
            refine lv_aload_n hx hb dX3_growPoliciesAlone_59 rfl (lv_at hl 2 rfl) ?_
            refine gf_X3_34 hx hb hT hown hK (v := .int (XI 10 4)) (hP.at (hI.1 13 (by decide)) rfl) rfl dX3_growPoliciesAlone_60 ?_
            refine z_backW1 (z_runVN ⟨hx, hb, hml, hown, hT⟩ hK (rest := []) (As := [.int (XI 10 4)]) (c_X0_takeCharge (g := gS ks ad np ng G MI MJ XI (u2 (u2 J1 9 k ((J1 9 k) + (Int32.toInt64 (XI 13 k)))) 9 k (((J1 9 k) + (Int32.toInt64 (XI 13 k))) + fThou ((J1 9 k) + (Int32.toInt64 (XI 13 k))) (Int32.toInt64 rt)))) l hD0 (23 + 4 * k) ((hI.2.2 k hg).2) (((J1 9 k) + (Int32.toInt64 (XI 13 k))) + fThou ((J1 9 k) + (Int32.toInt64 (XI 13 k))) (Int32.toInt64 rt)) (gS_3.trans (congrArg (fun z : Int64 => (Sum.inr (0, [Value.long z]) : va_E)) (u2_s (F := u2 J1 9 k ((J1 9 k) + (Int32.toInt64 (XI 13 k)))) (k := 9) (i := k) (v := ((J1 9 k) + (Int32.toInt64 (XI 13 k))) + fThou ((J1 9 k) + (Int32.toInt64 (XI 13 k))) (Int32.toInt64 rt))))) (XI 10 4) _) k_X3_215 (z_preWV hK hP (hP.at (hI.2.2 k hg).2 gS_3) rfl) rfl ⟨Nat.le_of_ble_eq_true rfl, Nat.le_of_ble_eq_true rfl⟩ hl.1 rfl (Nat.le_of_ble_eq_true rfl) dX3_growPoliciesAlone_63 ⟨Nat.le_of_ble_eq_true rfl, Nat.le_of_ble_eq_true rfl⟩) hS (hD.free (fun q hq => hA q (Nat.le_trans hS.1 hq))) (fun H locs hP hz1 hk1 hS => ?_)
            have hP : zP D Rs ad (gS ks ad np ng G MI MJ XI (u2 (u2 (u2 J1 9 k ((J1 9 k) + (Int32.toInt64 (XI 13 k)))) 9 k (((J1 9 k) + (Int32.toInt64 (XI 13 k))) + fThou ((J1 9 k) + (Int32.toInt64 (XI 13 k))) (Int32.toInt64 rt))) 9 k ((((J1 9 k) + (Int32.toInt64 (XI 13 k))) + fThou ((J1 9 k) + (Int32.toInt64 (XI 13 k))) (Int32.toInt64 rt)) - fChg (((J1 9 k) + (Int32.toInt64 (XI 13 k))) + fThou ((J1 9 k) + (Int32.toInt64 (XI 13 k))) (Int32.toInt64 rt)) (Int32.toInt64 (XI 10 4))))) H := by rw [← gu_pamt]; exact hP
            refine lv_pop2_2 hx hb dX3_growPoliciesAlone_66 rfl ?_
            refine lv_iinc (v := nI (k + 1)) (lv' := [(2, .int (nI (k + 1))), (3, .ref (ad (22 + 4 * k))), (0, .ref (ad 13)), (1, .int rt)]) hx hb dX3_growPoliciesAlone_67 hl (k := 1) rfl (nI_1 k) (by decide) rfl (fun ls hl => ?_)
            refine lv_goto (tgt := 2) hx hb dX3_growPoliciesAlone_70 (by decide) ?_
            exact ih (k + 1) (u2 (u2 (u2 J1 9 k ((J1 9 k) + (Int32.toInt64 (XI 13 k)))) 9 k (((J1 9 k) + (Int32.toInt64 (XI 13 k))) + fThou ((J1 9 k) + (Int32.toInt64 (XI 13 k))) (Int32.toInt64 rt))) 9 k ((((J1 9 k) + (Int32.toInt64 (XI 13 k))) + fThou ((J1 9 k) + (Int32.toInt64 (XI 13 k))) (Int32.toInt64 rt)) - fChg (((J1 9 k) + (Int32.toInt64 (XI 13 k))) + fThou ((J1 9 k) + (Int32.toInt64 (XI 13 k))) (Int32.toInt64 rt)) (Int32.toInt64 (XI 10 4)))) H locs _ (by omega) (by simp only [xPA]; rw [← hJ]; exact (if_pos ⟨hg, Decidable.byContradiction fun h9 => c_3 (if_neg h9)⟩).symm) hP hS (lv_sub hl [0, 2, 3] rfl)
        · have hg : ¬ k < np := Nat.not_lt.mpr hg
          rw [show rPol ad np k = none from if_neg hg]
          show W _ _ _ _ _ _ _ _ _ _ _ _ _ _ _ (F0 m 17 ls (.null :: []))
          refine lv_astore_nN (lv' := [(3, .null), (2, .int (nI k)), (0, .ref (ad 13)), (1, .int rt)]) hx hb dX3_growPoliciesAlone_17 rfl hl (by decide) rfl (fun ls hl => ?_)
          refine lv_aload_nN hx hb dX3_growPoliciesAlone_18 rfl (lv_at hl 0 rfl) ?_
          refine lv_ifnullN (tgt := 67) hx hb dX3_growPoliciesAlone_19 (by decide) ?_
          refine lv_iinc (v := nI (k + 1)) (lv' := [(2, .int (nI (k + 1))), (3, .null), (0, .ref (ad 13)), (1, .int rt)]) hx hb dX3_growPoliciesAlone_67 hl (k := 1) rfl (nI_1 k) (by decide) rfl (fun ls hl => ?_)
          refine lv_goto (tgt := 2) hx hb dX3_growPoliciesAlone_70 (by decide) ?_
          exact ih (k + 1) (J1) H locs _ (by omega) (by simp only [xPA]; rw [← hJ]; exact (if_neg (fun h => hg h.1)).symm) hP hS (lv_sub hl [0, 2, 3] rfl)
  refine lv_iconst (v := 0) hx hb dX3_growPoliciesAlone_0 (by decide) ?_
  refine lv_istore_n (lv' := [(2, .int 0), (0, .ref (ad 13)), (1, .int rt)]) hx hb dX3_growPoliciesAlone_1 rfl hl (by decide) rfl (fun ls hl => ?_)
  have hl := (show lv_has ls 4 [(2, .int (nI 0)), (0, .ref (ad 13)), (1, .int rt)] from (lv_sub hl [0, 1, 2] rfl))
  exact L 30 0 XJ s.heap [] _ (by omega) rfl hP hS hl
set_option maxHeartbeats 4000000 in
set_option maxRecDepth 100000 in
theorem c_X3_giveBonuses (l : Launch) (hD0 : zD (fun _ => True) Rs ad) (hI : zIn Rs np ng) (hok : xOK XI G np ng) (sz : Nat) : zMW l yX3_giveBonuses cX3_giveBonuses 3 ((none : Option FieldType)) 2 (48) 0 0 D ks sz [.ref (ad 13)] (zP D Rs ad (gS ks ad np ng G MI MJ XI XJ)) none (zP D Rs ad (gS ks ad np ng G MI MJ XI (xGB XI np 30 XJ))) (zA Rs ad sz) := by
  refine zMW.of (by decide +kernel) (Nat.le_of_ble_eq_true rfl) ?_
  intro p e s m below meth c ls hx hb hr hml hown hlk hT hsz hP hK hl hin
  have hl : lv_has ls 3 [(0, .ref (ad 13))] := hl
  subst hsz
  have hD := hD0.self (sz := s.heap.size)
  have hA : ∀ q : Nat, s.heap.size ≤ q → zA Rs ad s.heap.size q := fun q h => Or.inr h
  have hS : va_S (zA Rs ad s.heap.size) s.heap s.heap [] := va_S.rf
  have L : ∀ (n k : Nat) (J1 : Nat → Nat → Int64) (H : Heap) (locs : List Loc) (ls : Array Slot), k + n = 30 → J1 = xGB XI np k XJ → zP D Rs ad (gS ks ad np ng G MI MJ XI J1) H → va_S (zA Rs ad s.heap.size) s.heap H locs → lv_has ls 3 [(1, .int (nI k)), (0, .ref (ad 13))] → W p l e (zRm 2 (48) 0 0) s m ([.ref (ad 13)] : List Value).toArray below meth c H locs 0 0 (MQ below (zQW none (zP D Rs ad (gS ks ad np ng G MI MJ XI (xGB XI np 30 XJ))) (zA Rs ad s.heap.size)) ([.ref (ad 13)] : List Value).toArray s 0 0 (zA Rs ad s.heap.size)) (F0 m 2 ls []) := by
    intro n
    induction n with
    | zero =>
      intro k J1 H locs ls hkn hJ hP hS hl
      have hk0 : k = 30 := by omega
      subst hk0; subst hJ
      refine lv_iload_n hx hb dX3_giveBonuses_2 rfl (lv_at hl 0 rfl) ?_
      refine lv_aload_n hx hb dX3_giveBonuses_3 rfl (lv_at hl 1 rfl) ?_
      refine gf_X3_11 hx hb hT hown hK (hP.at (hI.1 13 (by decide)) rfl) rfl dX3_giveBonuses_4 ?_
      refine z_plen hx hb hK (hP.at (hI.1 14 (by decide)) rfl) (v := 30) rfl dX3_giveBonuses_7 ?_
      refine lv_icmp_ge (tgt := 56) hx hb dX3_giveBonuses_8 (by decide) (fun c_1 => ?_) (fun c_1 => ?_)
      · exact zW_v hx hb hr hlk hS (Nat.le_of_ble_eq_true rfl) (Nat.le_of_ble_eq_true rfl) dX3_giveBonuses_56 (hP)
      · exact absurd (nI_le (a := 30) (b := 30) (Nat.le_refl _) (by decide)) c_1
    | succ n ih =>
      intro k J1 H locs ls hkn hJ hP hS hl
      have hk : k < 30 := by omega
      refine lv_iload_n hx hb dX3_giveBonuses_2 rfl (lv_at hl 0 rfl) ?_
      refine lv_aload_n hx hb dX3_giveBonuses_3 rfl (lv_at hl 1 rfl) ?_
      refine gf_X3_11 hx hb hT hown hK (hP.at (hI.1 13 (by decide)) rfl) rfl dX3_giveBonuses_4 ?_
      refine z_plen hx hb hK (hP.at (hI.1 14 (by decide)) rfl) (v := 30) rfl dX3_giveBonuses_7 ?_
      refine lv_icmp_ge (tgt := 56) hx hb dX3_giveBonuses_8 (by decide) (fun c_2 => ?_) (fun c_2 => ?_)
      · exact absurd c_2 (nI_ge (a := k) (b := 30) hk (by decide))
      · refine lv_aload_n hx hb dX3_giveBonuses_11 rfl (lv_at hl 1 rfl) ?_
        refine gf_X3_11 hx hb hT hown hK (hP.at (hI.1 13 (by decide)) rfl) rfl dX3_giveBonuses_12 ?_
        refine lv_iload_n hx hb dX3_giveBonuses_15 rfl (lv_at hl 0 rfl) ?_
        refine z_paldN hx hb hK (hP.at (hI.1 14 (by decide)) rfl) (hk) (by decide) rfl dX3_giveBonuses_16 ?_
        rcases Nat.lt_or_ge k np with hg | hg
        · rw [show rPol ad np k = some (ad (22 + 4 * k)) from if_pos hg]
          show W _ _ _ _ _ _ _ _ _ _ _ _ _ _ _ (F0 m 17 ls (.ref (ad (22 + 4 * k)) :: []))
          refine lv_astore_n (lv' := [(2, .ref (ad (22 + 4 * k))), (1, .int (nI k)), (0, .ref (ad 13))]) hx hb dX3_giveBonuses_17 rfl hl (by decide) rfl (fun ls hl => ?_)
          refine lv_aload_n hx hb dX3_giveBonuses_18 rfl (lv_at hl 0 rfl) ?_
          refine lv_ifnull hx hb dX3_giveBonuses_19 ?_
          refine lv_aload_n hx hb dX3_giveBonuses_22 rfl (lv_at hl 0 rfl) ?_
          refine z_backR1 (z_runVN ⟨hx, hb, hml, hown, hT⟩ hK (rest := []) (As := []) (c_X2_isInForce (MI := MI) (MJ := MJ) (XI := XI) (XJ := J1) l hI k (hg)) k_X3_143 (z_preRV hK hP (hP.at (hI.2.2 k hg).1 gS_2) rfl) rfl ⟨Nat.le_of_ble_eq_true rfl, Nat.le_of_ble_eq_true rfl⟩ hl.1 rfl (Nat.le_of_ble_eq_true rfl) dX3_giveBonuses_23 ⟨Nat.le_of_ble_eq_true rfl, Nat.le_of_ble_eq_true rfl⟩) ?_
          refine lv_if_eq (tgt := 50) hx hb dX3_giveBonuses_26 (by decide) (fun c_3 => ?_) (fun c_3 => ?_)
          · refine lv_iinc (v := nI (k + 1)) (lv' := [(1, .int (nI (k + 1))), (2, .ref (ad (22 + 4 * k))), (0, .ref (ad 13))]) hx hb dX3_giveBonuses_50 hl (k := 1) rfl (nI_1 k) (by decide) rfl (fun ls hl => ?_)
            refine lv_goto (tgt := 2) hx hb dX3_giveBonuses_53 (by decide) ?_
            exact ih (k + 1) (J1) H locs _ (by omega) (by simp only [xGB]; rw [← hJ]; exact (if_neg (fun h => absurd ((if_pos h.2).symm.trans c_3 : (1 : Int32) = 0) (by decide))).symm) hP hS (lv_sub hl [0, 2] rfl)
          · refine lv_aload_n hx hb dX3_giveBonuses_29 rfl (lv_at hl 0 rfl) ?_
            refine lv_dup hx hb dX3_giveBonuses_30 rfl ?_
            refine gf_X3_136 hx hb hT hown hK (hP.at (hI.2.2 k hg).1 gS_2) rfl dX3_giveBonuses_31 ?_
            refine lv_aload_n hx hb dX3_giveBonuses_34 rfl (lv_at hl 0 rfl) ?_
            refine z_backR1 (z_runVN ⟨hx, hb, hml, hown, hT⟩ hK (rest := [.long (J1 10 k), .ref (ad (22 + 4 * k))]) (As := []) (c_X2_guaranteed (MI := MI) (MJ := MJ) (XI := XI) (XJ := J1) l hI k (hg)) k_X3_173 (z_preRV hK hP (hP.at (hI.2.2 k hg).1 gS_2) rfl) rfl ⟨Nat.le_of_ble_eq_true rfl, Nat.le_of_ble_eq_true rfl⟩ hl.1 rfl (Nat.le_of_ble_eq_true rfl) dX3_giveBonuses_35 ⟨Nat.le_of_ble_eq_true rfl, Nat.le_of_ble_eq_true rfl⟩) ?_
            refine lv_aload_n hx hb dX3_giveBonuses_38 rfl (lv_at hl 2 rfl) ?_
            refine gf_X3_30 hx hb hT hown hK (hP.at (hI.1 13 (by decide)) rfl) rfl dX3_giveBonuses_39 ?_
            refine lv_i2l hx hb dX3_giveBonuses_42 rfl ?_
            refine z_backR1 (z_runS ⟨hx, hb, hml, hown, hT⟩ (rest := [.long (J1 10 k), .ref (ad (22 + 4 * k))]) (As := [.long (Int32.toInt64 (XI 14 k) + J1 10 k), .long (Int32.toInt64 (XI 10 3))]) (c_X3_thousandths l D ks (Int32.toInt64 (XI 14 k) + J1 10 k) (Int32.toInt64 (XI 10 3)) ) k_X3_115 (z_preR hK trivial) rfl ⟨Nat.le_of_ble_eq_true rfl, Nat.le_of_ble_eq_true rfl⟩ hl.1 rfl (Nat.le_of_ble_eq_true rfl) dX3_giveBonuses_43 ⟨Nat.le_of_ble_eq_true rfl, Nat.le_of_ble_eq_true rfl⟩) ?_
            refine lv_ladd hx hb dX3_giveBonuses_46 ?_
            refine lv_topl (fun v4 ev4 => ?_)
            refine pf_X3_136 hx hb hT hown hK hP hD hS (hI.2.2 k hg).1 (v := v4) dX3_giveBonuses_47 (fun H locs hP hS => ?_)
            refine lv_iinc (v := nI (k + 1)) (lv' := [(1, .int (nI (k + 1))), (2, .ref (ad (22 + 4 * k))), (0, .ref (ad 13))]) hx hb dX3_giveBonuses_50 hl (k := 1) rfl (nI_1 k) (by decide) rfl (fun ls hl => ?_)
            refine lv_goto (tgt := 2) hx hb dX3_giveBonuses_53 (by decide) ?_
            exact ih (k + 1) (u2 J1 10 k v4) H locs _ (by omega) (by subst ev4; simp only [xGB]; rw [← hJ]; exact (if_pos ⟨hg, Decidable.byContradiction fun h9 => c_3 (if_neg h9)⟩).symm) hP hS (lv_sub hl [0, 2] rfl)
        · have hg : ¬ k < np := Nat.not_lt.mpr hg
          rw [show rPol ad np k = none from if_neg hg]
          show W _ _ _ _ _ _ _ _ _ _ _ _ _ _ _ (F0 m 17 ls (.null :: []))
          refine lv_astore_nN (lv' := [(2, .null), (1, .int (nI k)), (0, .ref (ad 13))]) hx hb dX3_giveBonuses_17 rfl hl (by decide) rfl (fun ls hl => ?_)
          refine lv_aload_nN hx hb dX3_giveBonuses_18 rfl (lv_at hl 0 rfl) ?_
          refine lv_ifnullN (tgt := 50) hx hb dX3_giveBonuses_19 (by decide) ?_
          refine lv_iinc (v := nI (k + 1)) (lv' := [(1, .int (nI (k + 1))), (2, .null), (0, .ref (ad 13))]) hx hb dX3_giveBonuses_50 hl (k := 1) rfl (nI_1 k) (by decide) rfl (fun ls hl => ?_)
          refine lv_goto (tgt := 2) hx hb dX3_giveBonuses_53 (by decide) ?_
          exact ih (k + 1) (J1) H locs _ (by omega) (by simp only [xGB]; rw [← hJ]; exact (if_neg (fun h => hg h.1)).symm) hP hS (lv_sub hl [0, 2] rfl)
  refine lv_iconst (v := 0) hx hb dX3_giveBonuses_0 (by decide) ?_
  refine lv_istore_n (lv' := [(1, .int 0), (0, .ref (ad 13))]) hx hb dX3_giveBonuses_1 rfl hl (by decide) rfl (fun ls hl => ?_)
  have hl := (show lv_has ls 3 [(1, .int (nI 0)), (0, .ref (ad 13))] from (lv_sub hl [0, 1] rfl))
  exact L 30 0 XJ s.heap [] _ (by omega) rfl hP hS hl
set_option maxHeartbeats 4000000 in
set_option maxRecDepth 100000 in
theorem c_X3_mature (l : Launch) (hD0 : zD (fun _ => True) Rs ad) (hI : zIn Rs np ng) (j : Nat) (t : Nat) (hj : j < np) (hG : G j < ng) (ht : XI 12 (G j) = nI t) (ht21 : t < 21) (sz : Nat) : zMW l yX3_mature cX3_mature 11 ((none : Option FieldType)) 4 (91) 0 0 D ks sz [.ref (ad 13), .ref (ad (22 + 4 * j))] (zP D Rs ad (gS ks ad np ng G MI MJ XI XJ)) none (zP D Rs ad (gS ks ad np ng G MI MJ (u2 XI 15 j 1) (xMatJ XI G j t XJ))) (zA Rs ad sz) := by
  refine zMW.of (by decide +kernel) (Nat.le_of_ble_eq_true rfl) ?_
  intro p e s m below meth c ls hx hb hr hml hown hlk hT hsz hP hK hl hin
  have hl : lv_has ls 11 [(0, .ref (ad 13)), (1, .ref (ad (22 + 4 * j)))] := hl
  subst hsz
  have hD := hD0.self (sz := s.heap.size)
  have hA : ∀ q : Nat, s.heap.size ≤ q → zA Rs ad s.heap.size q := fun q h => Or.inr h
  have hS : va_S (zA Rs ad s.heap.size) s.heap s.heap [] := va_S.rf
  refine lv_aload_n hx hb dX3_mature_0 rfl (lv_at hl 1 rfl) ?_
  refine gf_X3_192 hx hb hT hown hK (hP.at (hI.2.2 j hj).1 gS_2) rfl dX3_mature_1 ?_
  refine gf_X3_199 hx hb hT hown hK (hP.at (hI.2.1 (G j) hG).1 gS_0) rfl dX3_mature_4 ?_
  rw [show XI 12 (G j) = nI t from ht]
  refine lv_istore_n (lv' := [(2, .int (nI t)), (0, .ref (ad 13)), (1, .ref (ad (22 + 4 * j)))]) hx hb dX3_mature_7 rfl hl (by decide) rfl (fun ls hl => ?_)
  refine lv_iload_n hx hb dX3_mature_8 rfl (lv_at hl 0 rfl) ?_
  refine lv_i2l hx hb dX3_mature_9 rfl ?_
  refine lv_aload_n hx hb dX3_mature_10 rfl (lv_at hl 2 rfl) ?_
  refine gf_X3_218 hx hb hT hown hK (hP.at (hI.2.2 j hj).1 gS_2) rfl dX3_mature_11 ?_
  refine lv_i2l hx hb dX3_mature_14 rfl ?_
  refine lv_lmul hx hb dX3_mature_15 ?_
  refine lv_lstore_n (lv' := [(3, .long ((Int32.toInt64 (nI t)) * (Int32.toInt64 (XI 13 j)))), (2, .int (nI t)), (0, .ref (ad 13)), (1, .ref (ad (22 + 4 * j)))]) hx hb dX3_mature_16 rfl hl (by decide) rfl (fun ls hl => ?_)
  refine lv_aload_n hx hb dX3_mature_17 rfl (lv_at hl 3 rfl) ?_
  refine z_backR1 (z_runVN ⟨hx, hb, hml, hown, hT⟩ hK (rest := []) (As := []) (c_X2_assetShare (MI := MI) (MJ := MJ) (XI := XI) (XJ := XJ) l hI j (hj) (hG)) k_X3_139 (z_preRV hK hP (hP.at (hI.2.2 j hj).1 gS_2) rfl) rfl ⟨Nat.le_of_ble_eq_true rfl, Nat.le_of_ble_eq_true rfl⟩ hl.1 rfl (Nat.le_of_ble_eq_true rfl) dX3_mature_18 ⟨Nat.le_of_ble_eq_true rfl, Nat.le_of_ble_eq_true rfl⟩) ?_
  refine lv_aload_n hx hb dX3_mature_21 rfl (lv_at hl 2 rfl) ?_
  refine gf_X3_37 hx hb hT hown hK (hP.at (hI.1 13 (by decide)) rfl) rfl dX3_mature_22 ?_
  refine lv_i2l hx hb dX3_mature_25 rfl ?_
  refine z_backR1 (z_runS ⟨hx, hb, hml, hown, hT⟩ (rest := []) (As := [.long (fAsset (XI 15 j) (XJ 8 (G j)) (XI 13 j) (XJ 7 (G j))), .long (Int32.toInt64 (XI 10 5))]) (c_X3_thousandths l D ks (fAsset (XI 15 j) (XJ 8 (G j)) (XI 13 j) (XJ 7 (G j))) (Int32.toInt64 (XI 10 5)) ) k_X3_115 (z_preR hK trivial) rfl ⟨Nat.le_of_ble_eq_true rfl, Nat.le_of_ble_eq_true rfl⟩ hl.1 rfl (Nat.le_of_ble_eq_true rfl) dX3_mature_26 ⟨Nat.le_of_ble_eq_true rfl, Nat.le_of_ble_eq_true rfl⟩) ?_
  refine lv_topl (fun v1 ev1 => ?_)
  refine lv_lstore (lv' := [(5, .long v1), (3, .long ((Int32.toInt64 (nI t)) * (Int32.toInt64 (XI 13 j)))), (2, .int (nI t)), (0, .ref (ad 13)), (1, .ref (ad (22 + 4 * j)))]) hx hb dX3_mature_29 hl (by decide) rfl (fun ls hl => ?_)
  refine lv_aload_n hx hb dX3_mature_31 rfl (lv_at hl 3 rfl) ?_
  refine lv_lload hx hb dX3_mature_32 (lv_at hl 0 rfl) ?_
  refine lv_ldc2 (v := 1000) hx hb hown (hT _ kl_X3_224) dX3_mature_34 ?_
  refine lv_lmul hx hb dX3_mature_37 ?_
  refine lv_lload_n hx hb dX3_mature_38 rfl (lv_at hl 1 rfl) ?_
  refine z_backR1 (z_runS ⟨hx, hb, hml, hown, hT⟩ (rest := [.ref (ad 13)]) (As := [.long (v1 * 1000), .long ((Int32.toInt64 (nI t)) * (Int32.toInt64 (XI 13 j)))]) (c_X3_parted l D ks (v1 * 1000) ((Int32.toInt64 (nI t)) * (Int32.toInt64 (XI 13 j))) ) k_X3_226 (z_preR hK trivial) rfl ⟨Nat.le_of_ble_eq_true rfl, Nat.le_of_ble_eq_true rfl⟩ hl.1 rfl (Nat.le_of_ble_eq_true rfl) dX3_mature_39 ⟨Nat.le_of_ble_eq_true rfl, Nat.le_of_ble_eq_true rfl⟩) ?_
  refine lv_aload_n hx hb dX3_mature_42 rfl (lv_at hl 3 rfl) ?_
  refine gf_X3_25 hx hb hT hown hK (hP.at (hI.1 13 (by decide)) rfl) rfl dX3_mature_43 ?_
  refine lv_iload_n hx hb dX3_mature_46 rfl (lv_at hl 2 rfl) ?_
  refine z_backR1 (z_runS ⟨hx, hb, hml, hown, hT⟩ (rest := [.long (fParted (v1 * 1000) ((Int32.toInt64 (nI t)) * (Int32.toInt64 (XI 13 j)))), .ref (ad 13)]) (As := [.ref (ad 17), .int (nI t)]) (c_X3_ratioIn l 17 (hI.1 17 (by decide)) (XJ 6) rfl (nI t)) k_X3_169 (z_preR hK hP) rfl ⟨Nat.le_of_ble_eq_true rfl, Nat.le_of_ble_eq_true rfl⟩ hl.1 rfl (Nat.le_of_ble_eq_true rfl) dX3_mature_47 ⟨Nat.le_of_ble_eq_true rfl, Nat.le_of_ble_eq_true rfl⟩) ?_
  rw [show fRat (XJ 6) (nI t) = XJ 6 t from fRat_nI ht21]
  refine z_backR1 (z_runV ⟨hx, hb, hml, hown, hT⟩ (rest := []) (As := [.long (fParted (v1 * 1000) ((Int32.toInt64 (nI t)) * (Int32.toInt64 (XI 13 j)))), .long (XJ 6 t)]) (c_X3_smooth (MI := MI) (MJ := MJ) (XI := XI) (XJ := XJ) l hI (fParted (v1 * 1000) ((Int32.toInt64 (nI t)) * (Int32.toInt64 (XI 13 j)))) (XJ 6 t)) k_X3_229 (z_preRV hK hP (hP.at (hI.1 13 (by decide)) rfl) rfl) rfl ⟨Nat.le_of_ble_eq_true rfl, Nat.le_of_ble_eq_true rfl⟩ hl.1 rfl (Nat.le_of_ble_eq_true rfl) dX3_mature_50 ⟨Nat.le_of_ble_eq_true rfl, Nat.le_of_ble_eq_true rfl⟩) ?_
  refine lv_topl (fun v2 ev2 => ?_)
  refine lv_lstore (lv' := [(7, .long v2), (5, .long v1), (3, .long ((Int32.toInt64 (nI t)) * (Int32.toInt64 (XI 13 j)))), (2, .int (nI t)), (0, .ref (ad 13)), (1, .ref (ad (22 + 4 * j)))]) hx hb dX3_mature_53 hl (by decide) rfl (fun ls hl => ?_)
  refine lv_iload_n hx hb dX3_mature_55 rfl (lv_at hl 3 rfl) ?_
  refine lv_if_lt (tgt := 76) hx hb dX3_mature_56 (by decide) (fun c_3 => ?_) (fun c_3 => ?_)
  · exact absurd c_3 (nI_pos (by omega))
  · refine lv_iload_n hx hb dX3_mature_59 rfl (lv_at hl 3 rfl) ?_
    refine lv_aload_n hx hb dX3_mature_60 rfl (lv_at hl 4 rfl) ?_
    refine gf_X3_21 hx hb hT hown hK (hP.at (hI.1 13 (by decide)) rfl) rfl dX3_mature_61 ?_
    refine z_jlen hx hb hK (hP.at (hI.1 16 (by decide)) rfl) (v := 21) rfl dX3_mature_64 ?_
    refine lv_icmp_ge (tgt := 76) hx hb dX3_mature_65 (by decide) (fun c_4 => ?_) (fun c_4 => ?_)
    · exact absurd c_4 (nI_ge (a := t) (b := 21) ht21 (by decide))
    · refine lv_aload_n hx hb dX3_mature_68 rfl (lv_at hl 4 rfl) ?_
      refine gf_X3_21 hx hb hT hown hK (hP.at (hI.1 13 (by decide)) rfl) rfl dX3_mature_69 ?_
      refine lv_iload_n hx hb dX3_mature_72 rfl (lv_at hl 3 rfl) ?_
      refine lv_lload hx hb dX3_mature_73 (lv_at hl 0 rfl) ?_
      refine as_16N hx hb hK hP hD hS (hI.1 16 (by decide)) (v := v2) (ht21) dX3_mature_75 (fun H locs hP hS => ?_)
      refine lv_lload_n hx hb dX3_mature_76 rfl (lv_at hl 2 rfl) ?_
      refine lv_lload hx hb dX3_mature_77 (lv_at hl 0 rfl) ?_
      refine z_backR1 (z_runS ⟨hx, hb, hml, hown, hT⟩ (rest := []) (As := [.long ((Int32.toInt64 (nI t)) * (Int32.toInt64 (XI 13 j))), .long v2]) (c_X3_thousandths l D ks ((Int32.toInt64 (nI t)) * (Int32.toInt64 (XI 13 j))) v2 ) k_X3_115 (z_preR hK trivial) rfl ⟨Nat.le_of_ble_eq_true rfl, Nat.le_of_ble_eq_true rfl⟩ hl.1 rfl (Nat.le_of_ble_eq_true rfl) dX3_mature_79 ⟨Nat.le_of_ble_eq_true rfl, Nat.le_of_ble_eq_true rfl⟩) ?_
      refine lv_aload_n hx hb dX3_mature_82 rfl (lv_at hl 5 rfl) ?_
      refine z_backR1 (z_runVN ⟨hx, hb, hml, hown, hT⟩ hK (rest := [.long (fThou ((Int32.toInt64 (nI t)) * (Int32.toInt64 (XI 13 j))) v2)]) (As := []) (c_X2_guaranteed (MI := MI) (MJ := MJ) (XI := XI) (XJ := u2 XJ 5 t v2) l hI j (hj)) k_X3_173 (z_preRV hK hP (hP.at (hI.2.2 j hj).1 gS_2) rfl) rfl ⟨Nat.le_of_ble_eq_true rfl, Nat.le_of_ble_eq_true rfl⟩ hl.1 rfl (Nat.le_of_ble_eq_true rfl) dX3_mature_83 ⟨Nat.le_of_ble_eq_true rfl, Nat.le_of_ble_eq_true rfl⟩) ?_
      refine va_mmax_long hx hb (hml.trans hl.1.symm) hown (hT _ ml_X3_176) (hT _ sm_yJ9_max_f86c9) (hT _ in_J9) (hT _ co_yJ9_max_f86c9) (Nat.le_of_ble_eq_true rfl) (Nat.le_of_ble_eq_true rfl) (Nat.le_of_ble_eq_true rfl) (Nat.le_of_ble_eq_true rfl) dX3_mature_86 ?_
      refine lv_topl (fun v5 ev5 => ?_)
      refine lv_lstore (lv' := [(9, .long v5), (7, .long v2), (5, .long v1), (3, .long ((Int32.toInt64 (nI t)) * (Int32.toInt64 (XI 13 j)))), (2, .int (nI t)), (0, .ref (ad 13)), (1, .ref (ad (22 + 4 * j)))]) hx hb dX3_mature_89 hl (by decide) rfl (fun ls hl => ?_)
      refine lv_aload_n hx hb dX3_mature_91 rfl (lv_at hl 5 rfl) ?_
      refine lv_aload_n hx hb dX3_mature_92 rfl (lv_at hl 6 rfl) ?_
      refine lv_iconst (v := 1) hx hb dX3_mature_93 (by decide) ?_
      refine lv_lload hx hb dX3_mature_94 (lv_at hl 0 rfl) ?_
      refine z_backW0 (z_runV ⟨hx, hb, hml, hown, hT⟩ (rest := []) (As := [.ref (ad (22 + 4 * j)), .int 1, .long v5]) (c_X3_close (MI := MI) (MJ := MJ) (XI := XI) (XJ := u2 XJ 5 t v2) l hD0 hI j 1 v5 (hj) (hG) _) k_X3_89 (z_preWV hK hP (hP.at (hI.1 13 (by decide)) rfl) rfl) rfl ⟨Nat.le_of_ble_eq_true rfl, Nat.le_of_ble_eq_true rfl⟩ hl.1 rfl (Nat.le_of_ble_eq_true rfl) dX3_mature_96 ⟨Nat.le_of_ble_eq_true rfl, Nat.le_of_ble_eq_true rfl⟩) hS (hD.free (fun q hq => hA q (Nat.le_trans hS.1 hq))) (fun H locs hP hz1 hk1 hS => ?_)
      have hP : zP D Rs ad (gS ks ad np ng G MI MJ (u2 XI 15 j 1) (u2 (u2 (u2 (u2 (u2 (u2 XJ 5 t v2) 7 (G j) ((XJ 7 (G j)) - Int32.toInt64 (XI 13 j))) 8 (G j) ((XJ 8 (G j)) - fRel (XJ 8 (G j)) (XI 13 j) (XJ 7 (G j)))) 4 0 ((XJ 4 0) + (fRel (XJ 8 (G j)) (XI 13 j) (XJ 7 (G j)) - v5))) 4 1 ((XJ 4 1) - v5)) 11 j v5)) H := hP
      exact zW_v hx hb hr hlk hS (Nat.le_of_ble_eq_true rfl) (Nat.le_of_ble_eq_true rfl) dX3_mature_99 (by subst ev5 ev2 ev1; exact hP)
set_option maxHeartbeats 4000000 in
set_option maxRecDepth 100000 in
theorem c_X3_maturePolicies (l : Launch) (hD0 : zD (fun _ => True) Rs ad) (hI : zIn Rs np ng) (hok : xOK XI G np ng) (sz : Nat) : zMW l yX3_maturePolicies cX3_maturePolicies 4 ((some .int)) 5 (121) 0 0 D ks sz [.ref (ad 13)] (zP D Rs ad (gS ks ad np ng G MI MJ XI XJ)) (some (.int (nI (xMtN np G 30 (XI, xCpy 21 XJ))))) (zP D Rs ad (gS ks ad np ng G MI MJ ((xMtS np G 30 (XI, xCpy 21 XJ)).1) ((xMtS np G 30 (XI, xCpy 21 XJ)).2))) (zA Rs ad sz) := by
  refine zMW.of (by decide +kernel) (Nat.le_of_ble_eq_true rfl) ?_
  intro p e s m below meth c ls hx hb hr hml hown hlk hT hsz hP hK hl hin
  have hl : lv_has ls 4 [(0, .ref (ad 13))] := hl
  subst hsz
  have hD := hD0.self (sz := s.heap.size)
  have hA : ∀ q : Nat, s.heap.size ≤ q → zA Rs ad s.heap.size q := fun q h => Or.inr h
  have hS : va_S (zA Rs ad s.heap.size) s.heap s.heap [] := va_S.rf
  have hN30 : np ≤ 30 := hok.1
  have L2 : ∀ (n k : Nat) (I1 : Nat → Nat → Int32) (J1 : Nat → Nat → Int64) (cn : Nat) (H : Heap) (locs : List Loc) (ls : Array Slot), k + n = 30 → I1 = (xMtS np G k (XI, xCpy 21 XJ)).1 → J1 = (xMtS np G k (XI, xCpy 21 XJ)).2 → cn = xMtN np G k (XI, xCpy 21 XJ) → zP D Rs ad (gS ks ad np ng G MI MJ I1 J1) H → va_S (zA Rs ad s.heap.size) s.heap H locs → lv_has ls 4 [(2, .int (nI k)), (1, .int (nI cn)), (0, .ref (ad 13))] → W p l e (zRm 5 (121) 0 0) s m ([.ref (ad 13)] : List Value).toArray below meth c H locs 0 0 (MQ below (zQW (some (.int (nI (xMtN np G 30 (XI, xCpy 21 XJ))))) (zP D Rs ad (gS ks ad np ng G MI MJ ((xMtS np G 30 (XI, xCpy 21 XJ)).1) ((xMtS np G 30 (XI, xCpy 21 XJ)).2))) (zA Rs ad s.heap.size)) ([.ref (ad 13)] : List Value).toArray s 0 0 (zA Rs ad s.heap.size)) (F0 m 35 ls []) := by
    intro n
    induction n with
    | zero =>
      intro k I1 J1 cn H locs ls hkn hM hJ hc hP hS hl
      have hok1 : xOK I1 G np ng := by rw [hM]; exact hok.to (by rw [xMtS_k (by decide)])
      have hk0 : k = 30 := by omega
      refine lv_iload_n hx hb dX3_maturePolicies_35 rfl (lv_at hl 0 rfl) ?_
      refine lv_aload_n hx hb dX3_maturePolicies_36 rfl (lv_at hl 2 rfl) ?_
      refine gf_X3_11 hx hb hT hown hK (hP.at (hI.1 13 (by decide)) rfl) rfl dX3_maturePolicies_37 ?_
      refine z_plen hx hb hK (hP.at (hI.1 14 (by decide)) rfl) (v := 30) rfl dX3_maturePolicies_40 ?_
      refine lv_icmp_ge (tgt := 93) hx hb dX3_maturePolicies_41 (by decide) (fun c_1 => ?_) (fun c_1 => ?_)
      · refine lv_iload_n hx hb dX3_maturePolicies_93 rfl (lv_at hl 1 rfl) ?_
        exact zW_i hx hb hr hlk hS (Nat.le_of_ble_eq_true rfl) (Nat.le_of_ble_eq_true rfl) dX3_maturePolicies_94 (by rw [hc, hk0]) (by subst hk0; subst hM; subst hJ; exact hP)
      · exact absurd (nI_le (a := 30) (b := k) (by omega) (by omega)) c_1
    | succ n ih =>
      intro k I1 J1 cn H locs ls hkn hM hJ hc hP hS hl
      have hok1 : xOK I1 G np ng := by rw [hM]; exact hok.to (by rw [xMtS_k (by decide)])
      have hk : k < 30 := by omega
      refine lv_iload_n hx hb dX3_maturePolicies_35 rfl (lv_at hl 0 rfl) ?_
      refine lv_aload_n hx hb dX3_maturePolicies_36 rfl (lv_at hl 2 rfl) ?_
      refine gf_X3_11 hx hb hT hown hK (hP.at (hI.1 13 (by decide)) rfl) rfl dX3_maturePolicies_37 ?_
      refine z_plen hx hb hK (hP.at (hI.1 14 (by decide)) rfl) (v := 30) rfl dX3_maturePolicies_40 ?_
      refine lv_icmp_ge (tgt := 93) hx hb dX3_maturePolicies_41 (by decide) (fun c_2 => ?_) (fun c_2 => ?_)
      · exact absurd c_2 (nI_ge (a := k) (b := 30) hk (by decide))
      · refine lv_aload_n hx hb dX3_maturePolicies_44 rfl (lv_at hl 2 rfl) ?_
        refine gf_X3_11 hx hb hT hown hK (hP.at (hI.1 13 (by decide)) rfl) rfl dX3_maturePolicies_45 ?_
        refine lv_iload_n hx hb dX3_maturePolicies_48 rfl (lv_at hl 0 rfl) ?_
        refine z_paldN hx hb hK (hP.at (hI.1 14 (by decide)) rfl) (hk) (by decide) rfl dX3_maturePolicies_49 ?_
        rcases Nat.lt_or_ge k np with hg | hg
        · rw [show rPol ad np k = some (ad (22 + 4 * k)) from if_pos hg]
          show W _ _ _ _ _ _ _ _ _ _ _ _ _ _ _ (F0 m 50 ls (.ref (ad (22 + 4 * k)) :: []))
          obtain ⟨ht1, ht21⟩ := hok1.tn hg
          refine lv_astore_n (lv' := [(3, .ref (ad (22 + 4 * k))), (2, .int (nI k)), (1, .int (nI cn)), (0, .ref (ad 13))]) hx hb dX3_maturePolicies_50 rfl hl (by decide) rfl (fun ls hl => ?_)
          refine lv_aload_n hx hb dX3_maturePolicies_51 rfl (lv_at hl 0 rfl) ?_
          refine lv_ifnull hx hb dX3_maturePolicies_52 ?_
          refine lv_aload_n hx hb dX3_maturePolicies_55 rfl (lv_at hl 0 rfl) ?_
          refine z_backR1 (z_runVN ⟨hx, hb, hml, hown, hT⟩ hK (rest := []) (As := []) (c_X2_isInForce (MI := MI) (MJ := MJ) (XI := I1) (XJ := J1) l hI k (hg)) k_X3_143 (z_preRV hK hP (hP.at (hI.2.2 k hg).1 gS_2) rfl) rfl ⟨Nat.le_of_ble_eq_true rfl, Nat.le_of_ble_eq_true rfl⟩ hl.1 rfl (Nat.le_of_ble_eq_true rfl) dX3_maturePolicies_56 ⟨Nat.le_of_ble_eq_true rfl, Nat.le_of_ble_eq_true rfl⟩) ?_
          refine lv_if_eq (tgt := 87) hx hb dX3_maturePolicies_59 (by decide) (fun c_3 => ?_) (fun c_3 => ?_)
          · refine lv_iinc (v := nI (k + 1)) (lv' := [(2, .int (nI (k + 1))), (3, .ref (ad (22 + 4 * k))), (1, .int (nI cn)), (0, .ref (ad 13))]) hx hb dX3_maturePolicies_87 hl (k := 1) rfl (nI_1 k) (by decide) rfl (fun ls hl => ?_)
            refine lv_goto (tgt := 35) hx hb dX3_maturePolicies_90 (by decide) ?_
            have hstep : xMtS np G (k + 1) (XI, xCpy 21 XJ) = (I1, J1) := by simp only [xMtS]; rw [← hM, ← hJ]; first | exact if_neg (fun h => absurd ((if_pos h.2.1).symm.trans c_3 : (1 : Int32) = 0) (by decide)) | exact (if_neg (fun h => absurd ((if_pos h.2.1).symm.trans c_3 : (1 : Int32) = 0) (by decide))).trans (Prod.ext hM.symm hJ.symm)
            exact ih (k + 1) (I1) (J1) (cn) H locs _ (by omega) (by rw [hstep]) (by rw [hstep]) (by rw [hc]; simp only [xMtN]; rw [← hM]; rw [if_neg (fun h => absurd ((if_pos h.2.1).symm.trans c_3 : (1 : Int32) = 0) (by decide))]; try rfl) hP hS (lv_sub hl [0, 2, 3] rfl)
          · refine lv_aload_n hx hb dX3_maturePolicies_62 rfl (lv_at hl 3 rfl) ?_
            refine lv_aload_n hx hb dX3_maturePolicies_63 rfl (lv_at hl 0 rfl) ?_
            refine z_backR1 (z_runV ⟨hx, hb, hml, hown, hT⟩ (rest := []) (As := [.ref (ad (22 + 4 * k))]) (c_X3_yearsRun (MI := MI) (MJ := MJ) (XI := I1) (XJ := J1) l hI k (hg) (hok1.2.2.1 k hg)) k_X3_186 (z_preRV hK hP (hP.at (hI.1 13 (by decide)) rfl) rfl) rfl ⟨Nat.le_of_ble_eq_true rfl, Nat.le_of_ble_eq_true rfl⟩ hl.1 rfl (Nat.le_of_ble_eq_true rfl) dX3_maturePolicies_64 ⟨Nat.le_of_ble_eq_true rfl, Nat.le_of_ble_eq_true rfl⟩) ?_
            refine lv_iconst (v := 1) hx hb dX3_maturePolicies_67 (by decide) ?_
            refine lv_iadd hx hb dX3_maturePolicies_68 ?_
            refine lv_aload_n hx hb dX3_maturePolicies_69 rfl (lv_at hl 0 rfl) ?_
            refine gf_X3_192 hx hb hT hown hK (hP.at (hI.2.2 k hg).1 gS_2) rfl dX3_maturePolicies_70 ?_
            refine gf_X3_199 hx hb hT hown hK (hP.at (hI.2.1 (G k) (hok1.2.2.1 k hg)).1 gS_0) rfl dX3_maturePolicies_73 ?_
            refine lv_icmp_lt (tgt := 87) hx hb dX3_maturePolicies_76 (by decide) (fun c_4 => ?_) (fun c_4 => ?_)
            · refine lv_iinc (v := nI (k + 1)) (lv' := [(2, .int (nI (k + 1))), (3, .ref (ad (22 + 4 * k))), (1, .int (nI cn)), (0, .ref (ad 13))]) hx hb dX3_maturePolicies_87 hl (k := 1) rfl (nI_1 k) (by decide) rfl (fun ls hl => ?_)
              refine lv_goto (tgt := 35) hx hb dX3_maturePolicies_90 (by decide) ?_
              have hstep : xMtS np G (k + 1) (XI, xCpy 21 XJ) = (I1, J1) := by simp only [xMtS]; rw [← hM, ← hJ]; first | exact if_neg (fun h => absurd h.2.2 (Int32.not_le.mpr c_4)) | exact (if_neg (fun h => absurd h.2.2 (Int32.not_le.mpr c_4))).trans (Prod.ext hM.symm hJ.symm)
              exact ih (k + 1) (I1) (J1) (cn) H locs _ (by omega) (by rw [hstep]) (by rw [hstep]) (by rw [hc]; simp only [xMtN]; rw [← hM]; rw [if_neg (fun h => absurd h.2.2 (Int32.not_le.mpr c_4))]; try rfl) hP hS (lv_sub hl [0, 2, 3] rfl)
            · refine lv_aload_n hx hb dX3_maturePolicies_79 rfl (lv_at hl 3 rfl) ?_
              refine lv_aload_n hx hb dX3_maturePolicies_80 rfl (lv_at hl 0 rfl) ?_
              refine z_backW0 (z_runV ⟨hx, hb, hml, hown, hT⟩ (rest := []) (As := [.ref (ad (22 + 4 * k))]) (c_X3_mature (MI := MI) (MJ := MJ) (XI := I1) (XJ := J1) l hD0 hI k (xTn I1 G k) (hg) (hok1.2.2.1 k hg) (ht1) (ht21) _) k_X3_221 (z_preWV hK hP (hP.at (hI.1 13 (by decide)) rfl) rfl) rfl ⟨Nat.le_of_ble_eq_true rfl, Nat.le_of_ble_eq_true rfl⟩ hl.1 rfl (Nat.le_of_ble_eq_true rfl) dX3_maturePolicies_81 ⟨Nat.le_of_ble_eq_true rfl, Nat.le_of_ble_eq_true rfl⟩) hS (hD.free (fun q hq => hA q (Nat.le_trans hS.1 hq))) (fun H locs hP hz1 hk1 hS => ?_)
              have hP : zP D Rs ad (gS ks ad np ng G MI MJ (u2 I1 15 k 1) (xMatJ I1 G k (xTn I1 G k) J1)) H := hP
              refine lv_iinc (v := nI (cn + 1)) (lv' := [(1, .int (nI (cn + 1))), (3, .ref (ad (22 + 4 * k))), (2, .int (nI k)), (0, .ref (ad 13))]) hx hb dX3_maturePolicies_84 hl (k := 2) rfl (nI_1 cn) (by decide) rfl (fun ls hl => ?_)
              refine lv_iinc (v := nI (k + 1)) (lv' := [(2, .int (nI (k + 1))), (1, .int (nI (cn + 1))), (3, .ref (ad (22 + 4 * k))), (0, .ref (ad 13))]) hx hb dX3_maturePolicies_87 hl (k := 2) rfl (nI_1 k) (by decide) rfl (fun ls hl => ?_)
              refine lv_goto (tgt := 35) hx hb dX3_maturePolicies_90 (by decide) ?_
              have hstep : xMtS np G (k + 1) (XI, xCpy 21 XJ) = (u2 I1 15 k 1, (xMatJ I1 G k (xTn I1 G k) J1)) := by simp only [xMtS]; rw [← hM, ← hJ]; first | exact if_pos ⟨hg, Decidable.byContradiction (fun h9 => c_3 (if_neg h9)), Int32.not_lt.mp c_4⟩ | exact (if_pos ⟨hg, Decidable.byContradiction (fun h9 => c_3 (if_neg h9)), Int32.not_lt.mp c_4⟩).trans (Prod.ext hM.symm hJ.symm)
              exact ih (k + 1) (u2 I1 15 k 1) ((xMatJ I1 G k (xTn I1 G k) J1)) (cn + 1) H locs _ (by omega) (by rw [hstep]) (by rw [hstep]) (by rw [hc]; simp only [xMtN]; rw [← hM]; rw [if_pos ⟨hg, Decidable.byContradiction (fun h9 => c_3 (if_neg h9)), Int32.not_lt.mp c_4⟩]; try rfl) hP hS (lv_sub hl [0, 1, 3] rfl)
        · have hg : ¬ k < np := Nat.not_lt.mpr hg
          rw [show rPol ad np k = none from if_neg hg]
          show W _ _ _ _ _ _ _ _ _ _ _ _ _ _ _ (F0 m 50 ls (.null :: []))
          refine lv_astore_nN (lv' := [(3, .null), (2, .int (nI k)), (1, .int (nI cn)), (0, .ref (ad 13))]) hx hb dX3_maturePolicies_50 rfl hl (by decide) rfl (fun ls hl => ?_)
          refine lv_aload_nN hx hb dX3_maturePolicies_51 rfl (lv_at hl 0 rfl) ?_
          refine lv_ifnullN (tgt := 87) hx hb dX3_maturePolicies_52 (by decide) ?_
          refine lv_iinc (v := nI (k + 1)) (lv' := [(2, .int (nI (k + 1))), (3, .null), (1, .int (nI cn)), (0, .ref (ad 13))]) hx hb dX3_maturePolicies_87 hl (k := 1) rfl (nI_1 k) (by decide) rfl (fun ls hl => ?_)
          refine lv_goto (tgt := 35) hx hb dX3_maturePolicies_90 (by decide) ?_
          have hstep : xMtS np G (k + 1) (XI, xCpy 21 XJ) = (I1, J1) := by simp only [xMtS]; rw [← hM, ← hJ]; first | exact if_neg (fun h => hg h.1) | exact (if_neg (fun h => hg h.1)).trans (Prod.ext hM.symm hJ.symm)
          exact ih (k + 1) (I1) (J1) (cn) H locs _ (by omega) (by rw [hstep]) (by rw [hstep]) (by rw [hc]; simp only [xMtN]; rw [← hM]; rw [if_neg (fun h => hg h.1)]; try rfl) hP hS (lv_sub hl [0, 2, 3] rfl)
  have L1 : ∀ (n k : Nat) (J1 : Nat → Nat → Int64) (H : Heap) (locs : List Loc) (ls : Array Slot), k + n = 21 → J1 = xCpy k XJ → zP D Rs ad (gS ks ad np ng G MI MJ XI J1) H → va_S (zA Rs ad s.heap.size) s.heap H locs → lv_has ls 4 [(1, .int (nI k)), (0, .ref (ad 13))] → W p l e (zRm 5 (121) 0 0) s m ([.ref (ad 13)] : List Value).toArray below meth c H locs 0 0 (MQ below (zQW (some (.int (nI (xMtN np G 30 (XI, xCpy 21 XJ))))) (zP D Rs ad (gS ks ad np ng G MI MJ ((xMtS np G 30 (XI, xCpy 21 XJ)).1) ((xMtS np G 30 (XI, xCpy 21 XJ)).2))) (zA Rs ad s.heap.size)) ([.ref (ad 13)] : List Value).toArray s 0 0 (zA Rs ad s.heap.size)) (F0 m 2 ls []) := by
    intro n
    induction n with
    | zero =>
      intro k J1 H locs ls hkn hJ hP hS hl
      have hk0 : k = 21 := by omega
      refine lv_iload_n hx hb dX3_maturePolicies_2 rfl (lv_at hl 0 rfl) ?_
      refine lv_aload_n hx hb dX3_maturePolicies_3 rfl (lv_at hl 1 rfl) ?_
      refine gf_X3_25 hx hb hT hown hK (hP.at (hI.1 13 (by decide)) rfl) rfl dX3_maturePolicies_4 ?_
      refine z_jlen hx hb hK (hP.at (hI.1 17 (by decide)) rfl) (v := 21) rfl dX3_maturePolicies_7 ?_
      refine lv_icmp_ge (tgt := 31) hx hb dX3_maturePolicies_8 (by decide) (fun c_5 => ?_) (fun c_5 => ?_)
      · refine lv_iconst (v := 0) hx hb dX3_maturePolicies_31 (by decide) ?_
        refine lv_istore_n (lv' := [(1, .int 0), (0, .ref (ad 13))]) hx hb dX3_maturePolicies_32 rfl hl (by decide) rfl (fun ls hl => ?_)
        refine lv_iconst (v := 0) hx hb dX3_maturePolicies_33 (by decide) ?_
        refine lv_istore_n (lv' := [(2, .int 0), (1, .int 0), (0, .ref (ad 13))]) hx hb dX3_maturePolicies_34 rfl hl (by decide) rfl (fun ls hl => ?_)
        have eJ : J1 = xCpy 21 XJ := by rw [hJ, hk0]
        rw [eJ] at hP
        have hl := (show lv_has ls 4 [(2, .int (nI 0)), (1, .int (nI 0)), (0, .ref (ad 13))] from (lv_sub hl [0, 1, 2] rfl))
        exact L2 30 0 XI (xCpy 21 XJ) 0 H locs _ (by omega) rfl rfl rfl hP hS hl
      · exact absurd (nI_le (a := 21) (b := k) (by omega) (by omega)) c_5
    | succ n ih =>
      intro k J1 H locs ls hkn hJ hP hS hl
      have hk : k < 21 := by omega
      refine lv_iload_n hx hb dX3_maturePolicies_2 rfl (lv_at hl 0 rfl) ?_
      refine lv_aload_n hx hb dX3_maturePolicies_3 rfl (lv_at hl 1 rfl) ?_
      refine gf_X3_25 hx hb hT hown hK (hP.at (hI.1 13 (by decide)) rfl) rfl dX3_maturePolicies_4 ?_
      refine z_jlen hx hb hK (hP.at (hI.1 17 (by decide)) rfl) (v := 21) rfl dX3_maturePolicies_7 ?_
      refine lv_icmp_ge (tgt := 31) hx hb dX3_maturePolicies_8 (by decide) (fun c_6 => ?_) (fun c_6 => ?_)
      · exact absurd c_6 (nI_ge (a := k) (b := 21) hk (by decide))
      · refine lv_aload_n hx hb dX3_maturePolicies_11 rfl (lv_at hl 1 rfl) ?_
        refine gf_X3_25 hx hb hT hown hK (hP.at (hI.1 13 (by decide)) rfl) rfl dX3_maturePolicies_12 ?_
        refine lv_iload_n hx hb dX3_maturePolicies_15 rfl (lv_at hl 0 rfl) ?_
        refine lv_aload_n hx hb dX3_maturePolicies_16 rfl (lv_at hl 1 rfl) ?_
        refine gf_X3_21 hx hb hT hown hK (hP.at (hI.1 13 (by decide)) rfl) rfl dX3_maturePolicies_17 ?_
        refine lv_iload_n hx hb dX3_maturePolicies_20 rfl (lv_at hl 0 rfl) ?_
        refine z_backR1 (z_runS ⟨hx, hb, hml, hown, hT⟩ (rest := [.int (nI k), .ref (ad 17)]) (As := [.ref (ad 16), .int (nI k)]) (c_X3_ratioIn l 16 (hI.1 16 (by decide)) (J1 5) rfl (nI k)) k_X3_169 (z_preR hK hP) rfl ⟨Nat.le_of_ble_eq_true rfl, Nat.le_of_ble_eq_true rfl⟩ hl.1 rfl (Nat.le_of_ble_eq_true rfl) dX3_maturePolicies_21 ⟨Nat.le_of_ble_eq_true rfl, Nat.le_of_ble_eq_true rfl⟩) ?_
        rw [show fRat (J1 5) (nI k) = J1 5 k from fRat_nI hk]
        refine as_17N hx hb hK hP hD hS (hI.1 17 (by decide)) (v := J1 5 k) (hk) dX3_maturePolicies_24 (fun H locs hP hS => ?_)
        refine lv_iinc (v := nI (k + 1)) (lv' := [(1, .int (nI (k + 1))), (0, .ref (ad 13))]) hx hb dX3_maturePolicies_25 hl (k := 0) rfl (nI_1 k) (by decide) rfl (fun ls hl => ?_)
        refine lv_goto (tgt := 2) hx hb dX3_maturePolicies_28 (by decide) ?_
        exact ih (k + 1) (u2 J1 6 k (J1 5 k)) H locs _ (by omega) (by rw [hJ]; rfl) hP hS (lv_sub hl [0, 1] rfl)
  refine lv_iconst (v := 0) hx hb dX3_maturePolicies_0 (by decide) ?_
  refine lv_istore_n (lv' := [(1, .int 0), (0, .ref (ad 13))]) hx hb dX3_maturePolicies_1 rfl hl (by decide) rfl (fun ls hl => ?_)
  have hl := (show lv_has ls 4 [(1, .int (nI 0)), (0, .ref (ad 13))] from (lv_sub hl [0, 1] rfl))
  exact L1 21 0 XJ s.heap [] _ (by omega) rfl hP hS hl
end ZX2
