/-! the reference: the year and the sums -/
section ZM3
variable {D : va_G} {ks : Nat → ClassId} {ad : Nat → Nat} {np ng : Nat} {G : Nat → Nat} {MI : Nat → Nat → Int32} {MJ : Nat → Nat → Int64} {XI : Nat → Nat → Int32} {XJ : Nat → Nat → Int64} {Rs : List Nat}
theorem l_add {a b : Int64} (h1 : -(2 ^ 63) ≤ a.toInt + b.toInt) (h2 : a.toInt + b.toInt < 2 ^ 63) : (a + b).toInt = a.toInt + b.toInt := by
  rw [Int64.toInt_add]
  exact Int.bmod_eq_of_le (by omega) (by omega)
/-- the sum of premiums, as an integer -/
def iP (b t st pr : Nat → Int32) (y te : Int32) : Nat → Int
  | 0 => 0
  | k + 1 => iP b t st pr y te k + (if b k = y ∧ t k = te ∧ st k = 0 then (pr k).toInt else 0)
theorem mP_iP {b t st pr : Nat → Int32} {y te : Int32} : ∀ (n : Nat), n ≤ 30 → (∀ k, k < n → 1 ≤ (pr k).toInt ∧ (pr k).toInt ≤ 1000) → (mP b t st pr y te n).toInt = iP b t st pr y te n ∧ 0 ≤ iP b t st pr y te n ∧ iP b t st pr y te n ≤ 1000 * n := by
  intro n
  induction n with
  | zero => intro _ _; exact ⟨rfl, Int.le_refl _, Int.le_refl _⟩
  | succ n ih =>
    intro hn h
    obtain ⟨h1, h2, h3⟩ := ih (by omega) (fun k hk => h k (by omega))
    obtain ⟨h4, h5⟩ := h n (by omega)
    simp only [mP, iP]
    split
    · rw [l_add (by rw [Int32.toInt_toInt64]; omega) (by rw [Int32.toInt_toInt64]; omega), Int32.toInt_toInt64, h1]
      exact ⟨rfl, by omega, by omega⟩
    · rw [Int64.add_zero, h1]
      exact ⟨by omega, by omega, by omega⟩
theorem iP_in {b t st pr : Nat → Int32} {y te : Int32} : ∀ (n : Nat) (j : Nat), j < n → (∀ k, k < n → 1 ≤ (pr k).toInt ∧ (pr k).toInt ≤ 1000) → b j = y → t j = te → st j = 0 → (pr j).toInt ≤ iP b t st pr y te n := by
  intro n
  induction n with
  | zero => intro j h; exact absurd h (Nat.not_lt_zero _)
  | succ n ih =>
    intro j hj h hb ht hs
    have h4 := h n (by omega)
    simp only [iP]
    by_cases e : j = n
    · subst e
      rw [if_pos ⟨hb, ht, hs⟩]
      have : 0 ≤ iP b t st pr y te j := by
        clear ih hj
        have key : ∀ m, m ≤ j → 0 ≤ iP b t st pr y te m := by
          intro m
          induction m with
          | zero => intro _; exact Int.le_refl _
          | succ m ihm =>
            intro hm
            have := ihm (by omega)
            have h9 := h m (by omega)
            simp only [iP]
            split <;> omega
        exact key j (Nat.le_refl _)
      omega
    · have := ih j (by omega) (fun k hk => h k (by omega)) hb ht hs
      split <;> omega
def mOK (MI : Nat → Nat → Int32) (np : Nat) : Prop := MI 0 6 = nI np ∧ np ≤ 30 ∧ ∀ k, k < np → (2 ≤ (MI 2 k).toInt ∧ (MI 2 k).toInt ≤ 20) ∧ 1 ≤ (MI 3 k).toInt ∧ (MI 3 k).toInt ≤ 1000
theorem mOK.pr {MI : Nat → Nat → Int32} {np : Nat} (h : mOK MI np) : ∀ k, k < np → 1 ≤ (MI 3 k).toInt ∧ (MI 3 k).toInt ≤ 1000 := fun k hk => (h.2.2 k hk).2
theorem mOK.to {MI M : Nat → Nat → Int32} {np : Nat} (h : mOK MI np) (h0 : M 0 6 = MI 0 6) (h2 : M 2 = MI 2) (h3 : M 3 = MI 3) : mOK M np := by
  refine ⟨h0.trans h.1, h.2.1, ?_⟩
  rw [h2, h3]
  exact h.2.2
theorem mOK.pos {MI : Nat → Nat → Int32} {np j : Nat} (h : mOK MI np) (hj : j < np) (hs : MI 5 j = 0) : 1 ≤ (mPr MI np j).toInt := by
  obtain ⟨h1, h2, h3⟩ := mP_iP (b := MI 1) (t := MI 2) (st := MI 5) (pr := MI 3) (y := MI 1 j) (te := MI 2 j) np h.2.1 h.pr
  have := iP_in (b := MI 1) (t := MI 2) (st := MI 5) (pr := MI 3) (y := MI 1 j) (te := MI 2 j) np j hj h.pr rfl rfl hs
  have h5 := (h.pr j hj).1
  show 1 ≤ (mP (MI 1) (MI 2) (MI 5) (MI 3) (MI 1 j) (MI 2 j) np).toInt
  omega
theorem mOK.hd {MI : Nat → Nat → Int32} {np j : Nat} (h : mOK MI np) (hj : j < np) : MI 5 j = 0 → ¬ mPr MI np j = 0 := fun hs e => by
  have := h.pos hj hs
  rw [e] at this
  exact absurd this (by decide)
theorem mOK.ht {MI : Nat → Nat → Int32} {np j : Nat} (h : mOK MI np) (hj : j < np) : ¬ Int32.toInt64 (MI 2 j) = 0 := fun e => by
  have h1 := (h.2.2 j hj).1.1
  have h2 : (Int32.toInt64 (MI 2 j)).toInt = 0 := by rw [e]; rfl
  rw [Int32.toInt_toInt64] at h2
  omega
theorem l_mul {a b : Int64} (h1 : -(2 ^ 63) ≤ a.toInt * b.toInt) (h2 : a.toInt * b.toInt < 2 ^ 63) : (a * b).toInt = a.toInt * b.toInt := by
  rw [Int64.toInt_mul]
  exact Int.bmod_eq_of_le (by omega) (by omega)
theorem i_mulb {a b A B : Int} (h0 : 0 ≤ a) (h1 : a ≤ A) (h2 : 0 ≤ b) (h3 : b ≤ B) : 0 ≤ a * b ∧ a * b ≤ A * B := ⟨Int.mul_nonneg h0 h2, Int.le_trans (Int.mul_le_mul_of_nonneg_right h1 h2) (Int.mul_le_mul_of_nonneg_left h3 (Int.le_trans h0 h1))⟩
theorem mOK.all {MI : Nat → Nat → Int32} {np j : Nat} (h : mOK MI np) (hj : j < np) : (Int32.toInt64 (MI 2 j) * Int32.toInt64 (MI 3 j)).toInt = (MI 2 j).toInt * (MI 3 j).toInt ∧ 2 ≤ (MI 2 j).toInt * (MI 3 j).toInt ∧ (MI 2 j).toInt * (MI 3 j).toInt ≤ 20000 := by
  obtain ⟨⟨h1, h2⟩, h3, h4⟩ := h.2.2 j hj
  have h5 := i_mulb (a := (MI 2 j).toInt) (b := (MI 3 j).toInt) (A := 20) (B := 1000) (by omega) h2 (by omega) h4
  have h6 : 2 ≤ (MI 2 j).toInt * (MI 3 j).toInt := Int.le_trans (by omega : (2 : Int) ≤ 2 * (MI 3 j).toInt) (Int.mul_le_mul_of_nonneg_right h1 (by omega))
  refine ⟨?_, h6, h5.2⟩
  rw [l_mul, Int32.toInt_toInt64, Int32.toInt_toInt64]
  · rw [Int32.toInt_toInt64, Int32.toInt_toInt64]; omega
  · rw [Int32.toInt_toInt64, Int32.toInt_toInt64]; omega
theorem mOK.hall {MI : Nat → Nat → Int32} {np j : Nat} (h : mOK MI np) (hj : j < np) : ¬ Int32.toInt64 (MI 2 j) * Int32.toInt64 (MI 3 j) = 0 := fun e => by
  have h1 := h.all hj
  rw [e] at h1
  have h2 : (0 : Int64).toInt = 0 := rfl
  omega
theorem mOK.term {MI : Nat → Nat → Int32} {np j : Nat} (h : mOK MI np) (hj : j < np) : ∃ t, t < 21 ∧ MI 2 j = nI t := by
  obtain ⟨⟨h1, h2⟩, -⟩ := h.2.2 j hj
  refine ⟨(MI 2 j).toInt.toNat, by omega, ?_⟩
  apply Int32.toInt_inj.mp
  rw [nI_toInt (by omega)]
  omega
def mGrow1 (MI : Nat → Nat → Int32) (rt : Int32) (np k : Nat) (J : Nat → Nat → Int64) : Nat → Nat → Int64 :=
  if hm MI np k = k ∧ 0 < mPr MI np k then
    u2 (u2 (u2 (u2 J 2 k (J 2 k + (mPr MI np k + fPart (J 2 k + mPr MI np k) (Int32.toInt64 rt)))) 0 1 (J 0 1 + (mPr MI np k + fPart (J 2 k + mPr MI np k) (Int32.toInt64 rt)))) 2 k
      (J 2 k + (mPr MI np k + fPart (J 2 k + mPr MI np k) (Int32.toInt64 rt)) - fPart (J 2 k + (mPr MI np k + fPart (J 2 k + mPr MI np k) (Int32.toInt64 rt))) (Int32.toInt64 (MI 0 2)))) 0 0
      (J 0 0 + fPart (J 2 k + (mPr MI np k + fPart (J 2 k + mPr MI np k) (Int32.toInt64 rt))) (Int32.toInt64 (MI 0 2)))
  else J
def mGrow (MI : Nat → Nat → Int32) (rt : Int32) (np : Nat) : Nat → (Nat → Nat → Int64) → Nat → Nat → Int64
  | 0, J => J
  | k + 1, J => mGrow1 MI rt np k (mGrow MI rt np k J)
def mGr1I (k : Nat) (M : Nat → Nat → Int32) : Nat → Nat → Int32 := if M 5 k = 0 then u2 M 6 k (M 6 k + Int64.toInt32 (fPart (Int32.toInt64 (M 4 k + M 6 k)) (Int32.toInt64 (M 0 1)))) else M
def mGr1J (rt : Int32) (k : Nat) (M : Nat → Nat → Int32) (J : Nat → Nat → Int64) : Nat → Nat → Int64 := if M 5 k = 0 then u2 J 1 k (J 1 k + Int32.toInt64 (M 3 k) + fPart (J 1 k + Int32.toInt64 (M 3 k)) (Int32.toInt64 rt) - fPart (J 1 k + Int32.toInt64 (M 3 k) + fPart (J 1 k + Int32.toInt64 (M 3 k)) (Int32.toInt64 rt)) (Int32.toInt64 (M 0 2))) else J
def mGrI : Nat → (Nat → Nat → Int32) → Nat → Nat → Int32
  | 0, M => M
  | k + 1, M => mGr1I k (mGrI k M)
def mGrJ (rt : Int32) : Nat → (Nat → Nat → Int32) → (Nat → Nat → Int64) → Nat → Nat → Int64
  | 0, _, J => J
  | k + 1, M, J => mGr1J rt k (mGrI k M) (mGrJ rt k M J)
theorem mGrI_k {a : Nat} (h : a ≠ 6) : ∀ (n : Nat) (M : Nat → Nat → Int32), mGrI n M a = M a := by
  intro n
  induction n with
  | zero => intro M; rfl
  | succ n ih =>
    intro M
    simp only [mGrI, mGr1I]
    split
    · rw [u2_k h, ih]
    · exact ih M
/-- the ratio of a policy that matures -/
def fClamp (r la m : Int64) : Int64 := if r < la - m then la - m else if la + m < r then la + m else r
def mRat (MI : Nat → Nat → Int32) (MJ : Nat → Nat → Int64) (np j t : Nat) : Int64 :=
  if MI 8 t ≤ 0 then fPart (mShare MI MJ np j) (Int32.toInt64 (MI 0 3)) * 1000 / (Int32.toInt64 (nI t) * Int32.toInt64 (MI 3 j))
  else fClamp (fPart (mShare MI MJ np j) (Int32.toInt64 (MI 0 3)) * 1000 / (Int32.toInt64 (nI t) * Int32.toInt64 (MI 3 j))) (Int32.toInt64 (MI 8 t) - 1) (fPart (Int32.toInt64 (MI 8 t) - 1) (Int32.toInt64 (MI 0 4)))
def mPay (MI : Nat → Nat → Int32) (MJ : Nat → Nat → Int64) (np j t : Nat) : Int32 := Int64.toInt32 (fMore (fPart (Int32.toInt64 (nI t) * Int32.toInt64 (MI 3 j)) (mRat MI MJ np j t)) (Int32.toInt64 (MI 4 j) + Int32.toInt64 (MI 6 j)))
def mMatI (np j t : Nat) (M : Nat → Nat → Int32) (J : Nat → Nat → Int64) : Nat → Nat → Int32 := u2 (u2 (u2 M 9 t (Int64.toInt32 (mRat M J np j t) + 1)) 5 j 1) 7 j (mPay M J np j t)
def mMatJ (np j t : Nat) (M : Nat → Nat → Int32) (J : Nat → Nat → Int64) : Nat → Nat → Int64 := lvJ (mPr (mMatI np j t M J) np j) J (hm M np j) (mShare M J np j) (mPay M J np j t)
set_option maxHeartbeats 4000000 in
set_option maxRecDepth 100000 in
theorem c_X4_grows (l : Launch) (hD0 : zD (fun _ => True) Rs ad) (hI : zIn Rs np ng) (rt : Int32) (hnp : MI 0 6 = nI np) (hN : np ≤ 30) (sz : Nat) : zMW l yX4_grows cX4_grows 11 ((none : Option FieldType)) 2 (45) 0 0 D ks sz [.ref (ad 0), .int rt] (zP D Rs ad (gS ks ad np ng G MI MJ XI XJ)) none (zP D Rs ad (gS ks ad np ng G MI (u2 (u2 (mGrow MI rt np np MJ) 0 0 ((mGrow MI rt np np MJ) 0 0 + fPart (MJ 0 0) (Int32.toInt64 rt))) 0 1 ((mGrow MI rt np np MJ) 0 1 + fPart (MJ 0 0) (Int32.toInt64 rt))) XI XJ)) (zA Rs ad sz) := by
  refine zMW.of (by decide +kernel) (Nat.le_of_ble_eq_true rfl) ?_
  intro p e s m below meth c ls hx hb hr hml hown hlk hT hsz hP hK hl hin
  have hl : lv_has ls 11 [(0, .ref (ad 0)), (1, .int rt)] := hl
  subst hsz
  have hD := hD0.self (sz := s.heap.size)
  have hA : ∀ q : Nat, s.heap.size ≤ q → zA Rs ad s.heap.size q := fun q h => Or.inr h
  have hS : va_S (zA Rs ad s.heap.size) s.heap s.heap [] := va_S.rf
  have L : ∀ (n k : Nat) (MJ1 : Nat → Nat → Int64) (H : Heap) (locs : List Loc) (ls : Array Slot), k + n = np → MJ1 = mGrow MI rt np k MJ → zP D Rs ad (gS ks ad np ng G MI MJ1 XI XJ) H → va_S (zA Rs ad s.heap.size) s.heap H locs → lv_has ls 11 [(4, .int (nI k)), (2, .long (MJ 0 0)), (0, .ref (ad 0)), (1, .int rt)] → W p l e (zRm 2 (45) 0 0) s m ([.ref (ad 0), .int rt] : List Value).toArray below meth c H locs 0 0 (MQ below (zQW none (zP D Rs ad (gS ks ad np ng G MI (u2 (u2 (mGrow MI rt np np MJ) 0 0 ((mGrow MI rt np np MJ) 0 0 + fPart (MJ 0 0) (Int32.toInt64 rt))) 0 1 ((mGrow MI rt np np MJ) 0 1 + fPart (MJ 0 0) (Int32.toInt64 rt))) XI XJ)) (zA Rs ad s.heap.size)) ([.ref (ad 0), .int rt] : List Value).toArray s 0 0 (zA Rs ad s.heap.size)) (F0 m 8 ls []) := by
    intro n
    induction n with
    | zero =>
      intro k MJ1 H locs ls hkn hJ hP hS hl
      have hk0 : k = np := by omega
      subst hk0
      refine lv_iload hx hb dX4_grows_8 (lv_at hl 0 rfl) ?_
      refine lv_aload_n hx hb dX4_grows_10 rfl (lv_at hl 2 rfl) ?_
      refine gf_X4_63 hx hb hT hown hK (hP.at (hI.1 0 (by decide)) rfl) rfl dX4_grows_11 ?_
      rw [hnp]
      refine lv_icmp_ge (tgt := 147) hx hb dX4_grows_14 (by decide) (fun c_1 => ?_) (fun c_1 => ?_)
      · refine lv_aload_n hx hb dX4_grows_147 rfl (lv_at hl 2 rfl) ?_
        refine lv_dup hx hb dX4_grows_148 rfl ?_
        refine gf_X4_84 hx hb hT hown hK (hP.at (hI.1 0 (by decide)) rfl) rfl dX4_grows_149 ?_
        refine lv_lload_n hx hb dX4_grows_152 rfl (lv_at hl 1 rfl) ?_
        refine lv_iload_n hx hb dX4_grows_153 rfl (lv_at hl 3 rfl) ?_
        refine lv_i2l hx hb dX4_grows_154 rfl ?_
        refine z_backR1 (z_runS ⟨hx, hb, hml, hown, hT⟩ (rest := [.long (MJ1 0 0), .ref (ad 0)]) (As := [.long (MJ 0 0), .long (Int32.toInt64 rt)]) (c_X4_part l D ks (MJ 0 0) (Int32.toInt64 rt) ) k_X4_103 (z_preR hK trivial) rfl ⟨Nat.le_of_ble_eq_true rfl, Nat.le_of_ble_eq_true rfl⟩ hl.1 rfl (Nat.le_of_ble_eq_true rfl) dX4_grows_155 ⟨Nat.le_of_ble_eq_true rfl, Nat.le_of_ble_eq_true rfl⟩) ?_
        refine lv_ladd hx hb dX4_grows_158 ?_
        refine lv_topl (fun v2 ev2 => ?_)
        refine pf_X4_84 hx hb hT hown hK hP hD hS (hI.1 0 (by decide)) (v := v2) dX4_grows_159 (fun H locs hP hS => ?_)
        refine lv_aload_n hx hb dX4_grows_162 rfl (lv_at hl 2 rfl) ?_
        refine lv_dup hx hb dX4_grows_163 rfl ?_
        refine gf_X4_88 hx hb hT hown hK (v := .long (MJ1 0 1)) (hP.at (hI.1 0 (by decide)) rfl) rfl dX4_grows_164 ?_
        refine lv_lload_n hx hb dX4_grows_167 rfl (lv_at hl 1 rfl) ?_
        refine lv_iload_n hx hb dX4_grows_168 rfl (lv_at hl 3 rfl) ?_
        refine lv_i2l hx hb dX4_grows_169 rfl ?_
        refine z_backR1 (z_runS ⟨hx, hb, hml, hown, hT⟩ (rest := [.long (MJ1 0 1), .ref (ad 0)]) (As := [.long (MJ 0 0), .long (Int32.toInt64 rt)]) (c_X4_part l D ks (MJ 0 0) (Int32.toInt64 rt) ) k_X4_103 (z_preR hK trivial) rfl ⟨Nat.le_of_ble_eq_true rfl, Nat.le_of_ble_eq_true rfl⟩ hl.1 rfl (Nat.le_of_ble_eq_true rfl) dX4_grows_170 ⟨Nat.le_of_ble_eq_true rfl, Nat.le_of_ble_eq_true rfl⟩) ?_
        refine lv_ladd hx hb dX4_grows_173 ?_
        refine lv_topl (fun v3 ev3 => ?_)
        refine pf_X4_88 hx hb hT hown hK hP hD hS (hI.1 0 (by decide)) (v := v3) dX4_grows_174 (fun H locs hP hS => ?_)
        exact zW_v hx hb hr hlk hS (Nat.le_of_ble_eq_true rfl) (Nat.le_of_ble_eq_true rfl) dX4_grows_177 (by subst ev3 ev2; subst hJ; exact hP)
      · exact absurd (nI_le (Nat.le_refl _) (by omega)) c_1
    | succ n ih =>
      intro k MJ1 H locs ls hkn hJ hP hS hl
      have hk : k < np := by omega
      refine lv_iload hx hb dX4_grows_8 (lv_at hl 0 rfl) ?_
      refine lv_aload_n hx hb dX4_grows_10 rfl (lv_at hl 2 rfl) ?_
      refine gf_X4_63 hx hb hT hown hK (hP.at (hI.1 0 (by decide)) rfl) rfl dX4_grows_11 ?_
      rw [show MI 0 6 = nI np from hnp]
      refine lv_icmp_ge (tgt := 147) hx hb dX4_grows_14 (by decide) (fun c_4 => ?_) (fun c_4 => ?_)
      · exact absurd c_4 (nI_ge hk (by omega))
      · refine lv_aload_n hx hb dX4_grows_17 rfl (lv_at hl 2 rfl) ?_
        refine lv_aload_n hx hb dX4_grows_18 rfl (lv_at hl 2 rfl) ?_
        refine gf_X4_25 hx hb hT hown hK (hP.at (hI.1 0 (by decide)) rfl) rfl dX4_grows_19 ?_
        refine lv_iload hx hb dX4_grows_22 (lv_at hl 0 rfl) ?_
        refine z_ialdN hx hb hK (hP.at (hI.1 1 (by decide)) rfl) (by omega) (by decide) (v := MI 1 k) (rfl) dX4_grows_24 ?_
        refine lv_aload_n hx hb dX4_grows_25 rfl (lv_at hl 2 rfl) ?_
        refine gf_X4_29 hx hb hT hown hK (hP.at (hI.1 0 (by decide)) rfl) rfl dX4_grows_26 ?_
        refine lv_iload hx hb dX4_grows_29 (lv_at hl 0 rfl) ?_
        refine z_ialdN hx hb hK (hP.at (hI.1 2 (by decide)) rfl) (by omega) (by decide) (v := MI 2 k) (rfl) dX4_grows_31 ?_
        refine z_backR1 (z_runV ⟨hx, hb, hml, hown, hT⟩ (rest := []) (As := [.int (MI 1 k), .int (MI 2 k)]) (c_X4_premiumsOf (MI := MI) (MJ := MJ1) (XI := XI) (XJ := XJ) l hI (MI 1 k) (MI 2 k) (hnp) (hN)) k_X4_80 (z_preRV hK hP (hP.at (hI.1 0 (by decide)) rfl) rfl) rfl ⟨Nat.le_of_ble_eq_true rfl, Nat.le_of_ble_eq_true rfl⟩ hl.1 rfl (Nat.le_of_ble_eq_true rfl) dX4_grows_32 ⟨Nat.le_of_ble_eq_true rfl, Nat.le_of_ble_eq_true rfl⟩) ?_
        refine lv_lstore (lv' := [(5, .long (mP (MI 1) (MI 2) (MI 5) (MI 3) (MI 1 k) (MI 2 k) np)), (4, .int (nI k)), (2, .long (MJ 0 0)), (0, .ref (ad 0)), (1, .int rt)]) hx hb dX4_grows_35 hl (by decide) rfl (fun ls hl => ?_)
        refine lv_aload_n hx hb dX4_grows_37 rfl (lv_at hl 3 rfl) ?_
        refine lv_iload hx hb dX4_grows_38 (lv_at hl 1 rfl) ?_
        refine z_backR1 (z_runV ⟨hx, hb, hml, hown, hT⟩ (rest := []) (As := [.int (nI k)]) (c_X4_home (MI := MI) (MJ := MJ1) (XI := XI) (XJ := XJ) l hI k (hk) (hnp) (hN)) k_X4_76 (z_preRV hK hP (hP.at (hI.1 0 (by decide)) rfl) rfl) rfl ⟨Nat.le_of_ble_eq_true rfl, Nat.le_of_ble_eq_true rfl⟩ hl.1 rfl (Nat.le_of_ble_eq_true rfl) dX4_grows_40 ⟨Nat.le_of_ble_eq_true rfl, Nat.le_of_ble_eq_true rfl⟩) ?_
        refine lv_iload hx hb dX4_grows_43 (lv_at hl 1 rfl) ?_
        refine lv_icmp_ne (tgt := 141) hx hb dX4_grows_45 (by decide) (fun c_5 => ?_) (fun c_5 => ?_)
        · refine lv_iinc (v := nI (k + 1)) (lv' := [(4, .int (nI (k + 1))), (5, .long (mP (MI 1) (MI 2) (MI 5) (MI 3) (MI 1 k) (MI 2 k) np)), (2, .long (MJ 0 0)), (0, .ref (ad 0)), (1, .int rt)]) hx hb dX4_grows_141 hl (k := 1) rfl (nI_1 k) (by decide) rfl (fun ls hl => ?_)
          refine lv_goto (tgt := 8) hx hb dX4_grows_144 (by decide) ?_
          exact ih (k + 1) (MJ1) H locs _ (by omega) (by simp only [mGrow]; rw [← hJ]; exact (if_neg (fun h => c_5 (congrArg nI h.1))).symm) hP hS (lv_sub hl [0, 2, 3, 4] rfl)
        · refine lv_lload hx hb dX4_grows_48 (lv_at hl 0 rfl) ?_
          refine lv_lconst (v := 0) hx hb dX4_grows_50 (by decide) ?_
          refine z_lcmp_le (tgt := 141) hx hb dX4_grows_51 dX4_grows_52 (by decide) (fun c_6 => ?_) (fun c_6 => ?_)
          · refine lv_iinc (v := nI (k + 1)) (lv' := [(4, .int (nI (k + 1))), (5, .long (mP (MI 1) (MI 2) (MI 5) (MI 3) (MI 1 k) (MI 2 k) np)), (2, .long (MJ 0 0)), (0, .ref (ad 0)), (1, .int rt)]) hx hb dX4_grows_141 hl (k := 1) rfl (nI_1 k) (by decide) rfl (fun ls hl => ?_)
            refine lv_goto (tgt := 8) hx hb dX4_grows_144 (by decide) ?_
            exact ih (k + 1) (MJ1) H locs _ (by omega) (by simp only [mGrow]; rw [← hJ]; exact (if_neg (fun h => c_6 h.2)).symm) hP hS (lv_sub hl [0, 2, 3, 4] rfl)
          · refine lv_aload_n hx hb dX4_grows_55 rfl (lv_at hl 3 rfl) ?_
            refine gf_X4_51 hx hb hT hown hK (hP.at (hI.1 0 (by decide)) rfl) rfl dX4_grows_56 ?_
            refine lv_iload hx hb dX4_grows_59 (lv_at hl 1 rfl) ?_
            refine z_laldN hx hb hK (hP.at (hI.1 9 (by decide)) rfl) (by omega) (by decide) (v := MJ1 2 k) (rfl) dX4_grows_61 ?_
            refine lv_lload hx hb dX4_grows_62 (lv_at hl 0 rfl) ?_
            refine lv_ladd hx hb dX4_grows_64 ?_
            refine lv_iload_n hx hb dX4_grows_65 rfl (lv_at hl 4 rfl) ?_
            refine lv_i2l hx hb dX4_grows_66 rfl ?_
            refine z_backR1 (z_runS ⟨hx, hb, hml, hown, hT⟩ (rest := []) (As := [.long ((MJ1 2 k) + (mP (MI 1) (MI 2) (MI 5) (MI 3) (MI 1 k) (MI 2 k) np)), .long (Int32.toInt64 rt)]) (c_X4_part l D ks ((MJ1 2 k) + (mP (MI 1) (MI 2) (MI 5) (MI 3) (MI 1 k) (MI 2 k) np)) (Int32.toInt64 rt) ) k_X4_103 (z_preR hK trivial) rfl ⟨Nat.le_of_ble_eq_true rfl, Nat.le_of_ble_eq_true rfl⟩ hl.1 rfl (Nat.le_of_ble_eq_true rfl) dX4_grows_67 ⟨Nat.le_of_ble_eq_true rfl, Nat.le_of_ble_eq_true rfl⟩) ?_
            refine lv_topl (fun v7 ev7 => ?_)
            refine lv_lstore (lv' := [(7, .long v7), (5, .long (mP (MI 1) (MI 2) (MI 5) (MI 3) (MI 1 k) (MI 2 k) np)), (4, .int (nI k)), (2, .long (MJ 0 0)), (0, .ref (ad 0)), (1, .int rt)]) hx hb dX4_grows_70 hl (by decide) rfl (fun ls hl => ?_)
            refine lv_aload_n hx hb dX4_grows_72 rfl (lv_at hl 4 rfl) ?_
            refine gf_X4_51 hx hb hT hown hK (hP.at (hI.1 0 (by decide)) rfl) rfl dX4_grows_73 ?_
            refine lv_iload hx hb dX4_grows_76 (lv_at hl 2 rfl) ?_
            refine lv_dup2_11 hx hb dX4_grows_78 rfl rfl ?_
            refine z_laldN hx hb hK (hP.at (hI.1 9 (by decide)) rfl) (by omega) (by decide) (v := MJ1 2 k) (rfl) dX4_grows_79 ?_
            refine lv_lload hx hb dX4_grows_80 (lv_at hl 1 rfl) ?_
            refine lv_lload hx hb dX4_grows_82 (lv_at hl 0 rfl) ?_
            refine lv_ladd hx hb dX4_grows_84 ?_
            refine lv_ladd hx hb dX4_grows_85 ?_
            refine lv_topl (fun v8 ev8 => ?_)
            refine as_9N hx hb hK hP hD hS (hI.1 9 (by decide)) (v := v8) (by omega) dX4_grows_86 (fun H locs hP hS => ?_)
            refine lv_aload_n hx hb dX4_grows_87 rfl (lv_at hl 4 rfl) ?_
            refine lv_dup hx hb dX4_grows_88 rfl ?_
            refine gf_X4_88 hx hb hT hown hK (v := .long (MJ1 0 1)) (hP.at (hI.1 0 (by decide)) rfl) rfl dX4_grows_89 ?_
            refine lv_lload hx hb dX4_grows_92 (lv_at hl 1 rfl) ?_
            refine lv_lload hx hb dX4_grows_94 (lv_at hl 0 rfl) ?_
            refine lv_ladd hx hb dX4_grows_96 ?_
            refine lv_ladd hx hb dX4_grows_97 ?_
            refine lv_topl (fun v9 ev9 => ?_)
            refine pf_X4_88 hx hb hT hown hK hP hD hS (hI.1 0 (by decide)) (v := v9) dX4_grows_98 (fun H locs hP hS => ?_)
            refine lv_aload_n hx hb dX4_grows_101 rfl (lv_at hl 4 rfl) ?_
            refine gf_X4_51 hx hb hT hown hK (v := .ref (ad 9)) (hP.at (hI.1 0 (by decide)) rfl) rfl dX4_grows_102 ?_
            refine lv_iload hx hb dX4_grows_105 (lv_at hl 2 rfl) ?_
            refine z_laldN hx hb hK (hP.at (hI.1 9 (by decide)) rfl) (by omega) (by decide) (v := v8) (u2_s (F := MJ1) (k := 2) (i := k) (v := v8)) dX4_grows_107 ?_
            refine lv_aload_n hx hb dX4_grows_108 rfl (lv_at hl 4 rfl) ?_
            refine gf_X4_13 hx hb hT hown hK (v := .int (MI 0 2)) (hP.at (hI.1 0 (by decide)) rfl) rfl dX4_grows_109 ?_
            refine lv_i2l hx hb dX4_grows_112 rfl ?_
            refine z_backR1 (z_runS ⟨hx, hb, hml, hown, hT⟩ (rest := []) (As := [.long v8, .long (Int32.toInt64 (MI 0 2))]) (c_X4_part l D ks v8 (Int32.toInt64 (MI 0 2)) ) k_X4_103 (z_preR hK trivial) rfl ⟨Nat.le_of_ble_eq_true rfl, Nat.le_of_ble_eq_true rfl⟩ hl.1 rfl (Nat.le_of_ble_eq_true rfl) dX4_grows_113 ⟨Nat.le_of_ble_eq_true rfl, Nat.le_of_ble_eq_true rfl⟩) ?_
            refine lv_lstore (lv' := [(9, .long (fPart v8 (Int32.toInt64 (MI 0 2)))), (7, .long v7), (5, .long (mP (MI 1) (MI 2) (MI 5) (MI 3) (MI 1 k) (MI 2 k) np)), (4, .int (nI k)), (2, .long (MJ 0 0)), (0, .ref (ad 0)), (1, .int rt)]) hx hb dX4_grows_116 hl (by decide) rfl (fun ls hl => ?_)
            refine lv_aload_n hx hb dX4_grows_118 rfl (lv_at hl 5 rfl) ?_
            refine gf_X4_51 hx hb hT hown hK (v := .ref (ad 9)) (hP.at (hI.1 0 (by decide)) rfl) rfl dX4_grows_119 ?_
            refine lv_iload hx hb dX4_grows_122 (lv_at hl 3 rfl) ?_
            refine lv_dup2_11 hx hb dX4_grows_124 rfl rfl ?_
            refine z_laldN hx hb hK (hP.at (hI.1 9 (by decide)) rfl) (by omega) (by decide) (v := v8) (u2_s (F := MJ1) (k := 2) (i := k) (v := v8)) dX4_grows_125 ?_
            refine lv_lload hx hb dX4_grows_126 (lv_at hl 0 rfl) ?_
            refine lv_lsub hx hb dX4_grows_128 ?_
            refine as_9N hx hb hK hP hD hS (hI.1 9 (by decide)) (v := v8 - (fPart v8 (Int32.toInt64 (MI 0 2)))) (by omega) dX4_grows_129 (fun H locs hP hS => ?_)
            refine lv_aload_n hx hb dX4_grows_130 rfl (lv_at hl 5 rfl) ?_
            refine lv_dup hx hb dX4_grows_131 rfl ?_
            refine gf_X4_84 hx hb hT hown hK (v := .long (MJ1 0 0)) (hP.at (hI.1 0 (by decide)) rfl) rfl dX4_grows_132 ?_
            refine lv_lload hx hb dX4_grows_135 (lv_at hl 0 rfl) ?_
            refine lv_ladd hx hb dX4_grows_137 ?_
            refine lv_topl (fun v10 ev10 => ?_)
            refine pf_X4_84 hx hb hT hown hK hP hD hS (hI.1 0 (by decide)) (v := v10) dX4_grows_138 (fun H locs hP hS => ?_)
            refine lv_iinc (v := nI (k + 1)) (lv' := [(4, .int (nI (k + 1))), (9, .long (fPart v8 (Int32.toInt64 (MI 0 2)))), (7, .long v7), (5, .long (mP (MI 1) (MI 2) (MI 5) (MI 3) (MI 1 k) (MI 2 k) np)), (2, .long (MJ 0 0)), (0, .ref (ad 0)), (1, .int rt)]) hx hb dX4_grows_141 hl (k := 3) rfl (nI_1 k) (by decide) rfl (fun ls hl => ?_)
            refine lv_goto (tgt := 8) hx hb dX4_grows_144 (by decide) ?_
            exact ih (k + 1) (u2 (u2 (u2 (u2 MJ1 2 k v8) 0 1 v9) 2 k (v8 - (fPart v8 (Int32.toInt64 (MI 0 2))))) 0 0 v10) H locs _ (by omega) (by subst ev10 ev9 ev8 ev7; simp only [mGrow]; rw [← hJ]; exact (if_pos ⟨(nI_eq (Nat.lt_of_le_of_lt (hm_le hk) (by omega)) (by omega)).mp c_5, c_6⟩).symm) hP hS (lv_sub hl [0, 4, 5, 6] rfl)
  refine lv_aload_n hx hb dX4_grows_0 rfl (lv_at hl 0 rfl) ?_
  refine gf_X4_84 hx hb hT hown hK (hP.at (hI.1 0 (by decide)) rfl) rfl dX4_grows_1 ?_
  refine lv_lstore_n (lv' := [(2, .long (MJ 0 0)), (0, .ref (ad 0)), (1, .int rt)]) hx hb dX4_grows_4 rfl hl (by decide) rfl (fun ls hl => ?_)
  refine lv_iconst (v := 0) hx hb dX4_grows_5 (by decide) ?_
  refine lv_istore (lv' := [(4, .int 0), (2, .long (MJ 0 0)), (0, .ref (ad 0)), (1, .int rt)]) hx hb dX4_grows_6 hl (by decide) rfl (fun ls hl => ?_)
  exact L np 0 MJ s.heap [] _ (by omega) rfl hP hS (lv_sub hl [0, 1, 2, 3] rfl)
set_option maxHeartbeats 4000000 in
set_option maxRecDepth 100000 in
theorem c_X4_grants (l : Launch) (hD0 : zD (fun _ => True) Rs ad) (hI : zIn Rs np ng) (rt : Int32) (hnp : MI 0 6 = nI np) (hN : np ≤ 30) (sz : Nat) : zMW l yX4_grants cX4_grants 5 ((none : Option FieldType)) 1 (27) 0 0 D ks sz [.ref (ad 0), .int rt] (zP D Rs ad (gS ks ad np ng G MI MJ XI XJ)) none (zP D Rs ad (gS ks ad np ng G (mGrI np MI) (mGrJ rt np MI MJ) XI XJ)) (zA Rs ad sz) := by
  refine zMW.of (by decide +kernel) (Nat.le_of_ble_eq_true rfl) ?_
  intro p e s m below meth c ls hx hb hr hml hown hlk hT hsz hP hK hl hin
  have hl : lv_has ls 5 [(0, .ref (ad 0)), (1, .int rt)] := hl
  subst hsz
  have hD := hD0.self (sz := s.heap.size)
  have hA : ∀ q : Nat, s.heap.size ≤ q → zA Rs ad s.heap.size q := fun q h => Or.inr h
  have hS : va_S (zA Rs ad s.heap.size) s.heap s.heap [] := va_S.rf
  have L : ∀ (n k : Nat) (MI1 : Nat → Nat → Int32) (MJ1 : Nat → Nat → Int64) (H : Heap) (locs : List Loc) (ls : Array Slot), k + n = np → MI1 = mGrI k MI → MJ1 = mGrJ rt k MI MJ → zP D Rs ad (gS ks ad np ng G MI1 MJ1 XI XJ) H → va_S (zA Rs ad s.heap.size) s.heap H locs → lv_has ls 5 [(2, .int (nI k)), (0, .ref (ad 0)), (1, .int rt)] → W p l e (zRm 1 (27) 0 0) s m ([.ref (ad 0), .int rt] : List Value).toArray below meth c H locs 0 0 (MQ below (zQW none (zP D Rs ad (gS ks ad np ng G (mGrI np MI) (mGrJ rt np MI MJ) XI XJ)) (zA Rs ad s.heap.size)) ([.ref (ad 0), .int rt] : List Value).toArray s 0 0 (zA Rs ad s.heap.size)) (F0 m 2 ls []) := by
    intro n
    induction n with
    | zero =>
      intro k MI1 MJ1 H locs ls hkn hM hJ hP hS hl
      have hnp1 : MI1 0 6 = nI np := by rw [hM, mGrI_k (by decide)]; exact hnp
      have hk0 : k = np := by omega
      refine lv_iload_n hx hb dX4_grants_2 rfl (lv_at hl 0 rfl) ?_
      refine lv_aload_n hx hb dX4_grants_3 rfl (lv_at hl 1 rfl) ?_
      refine gf_X4_63 hx hb hT hown hK (hP.at (hI.1 0 (by decide)) rfl) rfl dX4_grants_4 ?_
      rw [show MI1 0 6 = nI np from hnp1]
      refine lv_icmp_ge (tgt := 98) hx hb dX4_grants_7 (by decide) (fun c_1 => ?_) (fun c_1 => ?_)
      · exact zW_v hx hb hr hlk hS (Nat.le_of_ble_eq_true rfl) (Nat.le_of_ble_eq_true rfl) dX4_grants_98 (by subst hk0; subst hM; subst hJ; exact hP)
      · exact absurd (nI_le (by omega) (by omega)) c_1
    | succ n ih =>
      intro k MI1 MJ1 H locs ls hkn hM hJ hP hS hl
      have hk : k < np := by omega
      have hnp1 : MI1 0 6 = nI np := by rw [hM, mGrI_k (by decide)]; exact hnp
      refine lv_iload_n hx hb dX4_grants_2 rfl (lv_at hl 0 rfl) ?_
      refine lv_aload_n hx hb dX4_grants_3 rfl (lv_at hl 1 rfl) ?_
      refine gf_X4_63 hx hb hT hown hK (hP.at (hI.1 0 (by decide)) rfl) rfl dX4_grants_4 ?_
      rw [show MI1 0 6 = nI np from hnp1]
      refine lv_icmp_ge (tgt := 98) hx hb dX4_grants_7 (by decide) (fun c_2 => ?_) (fun c_2 => ?_)
      · exact absurd c_2 (nI_ge hk (by omega))
      · refine lv_aload_n hx hb dX4_grants_10 rfl (lv_at hl 1 rfl) ?_
        refine gf_X4_38 hx hb hT hown hK (hP.at (hI.1 0 (by decide)) rfl) rfl dX4_grants_11 ?_
        refine lv_iload_n hx hb dX4_grants_14 rfl (lv_at hl 0 rfl) ?_
        refine z_ialdN hx hb hK (hP.at (hI.1 5 (by decide)) rfl) (by omega) (by decide) (v := MI1 5 k) (rfl) dX4_grants_15 ?_
        refine lv_if_ne (tgt := 92) hx hb dX4_grants_16 (by decide) (fun c_3 => ?_) (fun c_3 => ?_)
        · refine lv_iinc (v := nI (k + 1)) (lv' := [(2, .int (nI (k + 1))), (0, .ref (ad 0)), (1, .int rt)]) hx hb dX4_grants_92 hl (k := 0) rfl (nI_1 k) (by decide) rfl (fun ls hl => ?_)
          refine lv_goto (tgt := 2) hx hb dX4_grants_95 (by decide) ?_
          exact ih (k + 1) (MI1) (MJ1) H locs _ (by omega) (by simp only [mGrI]; rw [← hM]; exact (if_neg c_3).symm) (by simp only [mGrJ]; rw [← hM, ← hJ]; exact (if_neg c_3).symm) hP hS (lv_sub hl [0, 1, 2] rfl)
        · refine lv_aload_n hx hb dX4_grants_19 rfl (lv_at hl 1 rfl) ?_
          refine gf_X4_47 hx hb hT hown hK (hP.at (hI.1 0 (by decide)) rfl) rfl dX4_grants_20 ?_
          refine lv_iload_n hx hb dX4_grants_23 rfl (lv_at hl 0 rfl) ?_
          refine z_laldN hx hb hK (hP.at (hI.1 8 (by decide)) rfl) (by omega) (by decide) (v := MJ1 1 k) (rfl) dX4_grants_24 ?_
          refine lv_aload_n hx hb dX4_grants_25 rfl (lv_at hl 1 rfl) ?_
          refine gf_X4_32 hx hb hT hown hK (hP.at (hI.1 0 (by decide)) rfl) rfl dX4_grants_26 ?_
          refine lv_iload_n hx hb dX4_grants_29 rfl (lv_at hl 0 rfl) ?_
          refine z_ialdN hx hb hK (hP.at (hI.1 3 (by decide)) rfl) (by omega) (by decide) (v := MI1 3 k) (rfl) dX4_grants_30 ?_
          refine lv_i2l hx hb dX4_grants_31 rfl ?_
          refine lv_ladd hx hb dX4_grants_32 ?_
          refine lv_lstore_n (lv' := [(3, .long ((MJ1 1 k) + (Int32.toInt64 (MI1 3 k)))), (2, .int (nI k)), (0, .ref (ad 0)), (1, .int rt)]) hx hb dX4_grants_33 rfl hl (by decide) rfl (fun ls hl => ?_)
          refine lv_lload_n hx hb dX4_grants_34 rfl (lv_at hl 0 rfl) ?_
          refine lv_lload_n hx hb dX4_grants_35 rfl (lv_at hl 0 rfl) ?_
          refine lv_iload_n hx hb dX4_grants_36 rfl (lv_at hl 3 rfl) ?_
          refine lv_i2l hx hb dX4_grants_37 rfl ?_
          refine z_backR1 (z_runS ⟨hx, hb, hml, hown, hT⟩ (rest := [.long ((MJ1 1 k) + (Int32.toInt64 (MI1 3 k)))]) (As := [.long ((MJ1 1 k) + (Int32.toInt64 (MI1 3 k))), .long (Int32.toInt64 rt)]) (c_X4_part l D ks ((MJ1 1 k) + (Int32.toInt64 (MI1 3 k))) (Int32.toInt64 rt) ) k_X4_103 (z_preR hK trivial) rfl ⟨Nat.le_of_ble_eq_true rfl, Nat.le_of_ble_eq_true rfl⟩ hl.1 rfl (Nat.le_of_ble_eq_true rfl) dX4_grants_38 ⟨Nat.le_of_ble_eq_true rfl, Nat.le_of_ble_eq_true rfl⟩) ?_
          refine lv_ladd hx hb dX4_grants_41 ?_
          refine lv_topl (fun v4 ev4 => ?_)
          refine lv_lstore_n (lv' := [(3, .long v4), (2, .int (nI k)), (0, .ref (ad 0)), (1, .int rt)]) hx hb dX4_grants_42 rfl hl (by decide) rfl (fun ls hl => ?_)
          refine lv_aload_n hx hb dX4_grants_43 rfl (lv_at hl 2 rfl) ?_
          refine gf_X4_47 hx hb hT hown hK (hP.at (hI.1 0 (by decide)) rfl) rfl dX4_grants_44 ?_
          refine lv_iload_n hx hb dX4_grants_47 rfl (lv_at hl 1 rfl) ?_
          refine lv_lload_n hx hb dX4_grants_48 rfl (lv_at hl 0 rfl) ?_
          refine lv_lload_n hx hb dX4_grants_49 rfl (lv_at hl 0 rfl) ?_
          refine lv_aload_n hx hb dX4_grants_50 rfl (lv_at hl 2 rfl) ?_
          refine gf_X4_13 hx hb hT hown hK (hP.at (hI.1 0 (by decide)) rfl) rfl dX4_grants_51 ?_
          refine lv_i2l hx hb dX4_grants_54 rfl ?_
          refine z_backR1 (z_runS ⟨hx, hb, hml, hown, hT⟩ (rest := [.long v4, .int (nI k), .ref (ad 8)]) (As := [.long v4, .long (Int32.toInt64 (MI1 0 2))]) (c_X4_part l D ks v4 (Int32.toInt64 (MI1 0 2)) ) k_X4_103 (z_preR hK trivial) rfl ⟨Nat.le_of_ble_eq_true rfl, Nat.le_of_ble_eq_true rfl⟩ hl.1 rfl (Nat.le_of_ble_eq_true rfl) dX4_grants_55 ⟨Nat.le_of_ble_eq_true rfl, Nat.le_of_ble_eq_true rfl⟩) ?_
          refine lv_lsub hx hb dX4_grants_58 ?_
          refine lv_topl (fun v5 ev5 => ?_)
          refine as_8N hx hb hK hP hD hS (hI.1 8 (by decide)) (v := v5) (by omega) dX4_grants_59 (fun H locs hP hS => ?_)
          refine lv_aload_n hx hb dX4_grants_60 rfl (lv_at hl 2 rfl) ?_
          refine gf_X4_41 hx hb hT hown hK (v := .ref (ad 6)) (hP.at (hI.1 0 (by decide)) rfl) rfl dX4_grants_61 ?_
          refine lv_iload_n hx hb dX4_grants_64 rfl (lv_at hl 1 rfl) ?_
          refine lv_dup2_11 hx hb dX4_grants_65 rfl rfl ?_
          refine z_ialdN hx hb hK (hP.at (hI.1 6 (by decide)) rfl) (by omega) (by decide) (v := MI1 6 k) (rfl) dX4_grants_66 ?_
          refine lv_aload_n hx hb dX4_grants_67 rfl (lv_at hl 2 rfl) ?_
          refine gf_X4_35 hx hb hT hown hK (v := .ref (ad 4)) (hP.at (hI.1 0 (by decide)) rfl) rfl dX4_grants_68 ?_
          refine lv_iload_n hx hb dX4_grants_71 rfl (lv_at hl 1 rfl) ?_
          refine z_ialdN hx hb hK (hP.at (hI.1 4 (by decide)) rfl) (by omega) (by decide) (v := MI1 4 k) (rfl) dX4_grants_72 ?_
          refine lv_aload_n hx hb dX4_grants_73 rfl (lv_at hl 2 rfl) ?_
          refine gf_X4_41 hx hb hT hown hK (v := .ref (ad 6)) (hP.at (hI.1 0 (by decide)) rfl) rfl dX4_grants_74 ?_
          refine lv_iload_n hx hb dX4_grants_77 rfl (lv_at hl 1 rfl) ?_
          refine z_ialdN hx hb hK (hP.at (hI.1 6 (by decide)) rfl) (by omega) (by decide) (v := MI1 6 k) (rfl) dX4_grants_78 ?_
          refine lv_iadd hx hb dX4_grants_79 ?_
          refine lv_i2l hx hb dX4_grants_80 rfl ?_
          refine lv_aload_n hx hb dX4_grants_81 rfl (lv_at hl 2 rfl) ?_
          refine gf_X4_7 hx hb hT hown hK (v := .int (MI1 0 1)) (hP.at (hI.1 0 (by decide)) rfl) rfl dX4_grants_82 ?_
          refine lv_i2l hx hb dX4_grants_85 rfl ?_
          refine z_backR1 (z_runS ⟨hx, hb, hml, hown, hT⟩ (rest := [.int (MI1 6 k), .int (nI k), .ref (ad 6)]) (As := [.long (Int32.toInt64 ((MI1 4 k) + (MI1 6 k))), .long (Int32.toInt64 (MI1 0 1))]) (c_X4_part l D ks (Int32.toInt64 ((MI1 4 k) + (MI1 6 k))) (Int32.toInt64 (MI1 0 1)) ) k_X4_103 (z_preR hK trivial) rfl ⟨Nat.le_of_ble_eq_true rfl, Nat.le_of_ble_eq_true rfl⟩ hl.1 rfl (Nat.le_of_ble_eq_true rfl) dX4_grants_86 ⟨Nat.le_of_ble_eq_true rfl, Nat.le_of_ble_eq_true rfl⟩) ?_
          refine lv_l2i hx hb dX4_grants_89 rfl ?_
          refine lv_iadd hx hb dX4_grants_90 ?_
          refine lv_topi (fun v6 ev6 => ?_)
          refine as_6N hx hb hK hP hD hS (hI.1 6 (by decide)) (v := v6) (by omega) dX4_grants_91 (fun H locs hP hS => ?_)
          refine lv_iinc (v := nI (k + 1)) (lv' := [(2, .int (nI (k + 1))), (3, .long v4), (0, .ref (ad 0)), (1, .int rt)]) hx hb dX4_grants_92 hl (k := 1) rfl (nI_1 k) (by decide) rfl (fun ls hl => ?_)
          refine lv_goto (tgt := 2) hx hb dX4_grants_95 (by decide) ?_
          exact ih (k + 1) (u2 MI1 6 k v6) (u2 MJ1 1 k v5) H locs _ (by omega) (by subst ev6 ev5 ev4; simp only [mGrI]; rw [← hM]; exact (if_pos c_3).symm) (by subst ev6 ev5 ev4; simp only [mGrJ]; rw [← hM, ← hJ]; exact (if_pos c_3).symm) hP hS (lv_sub hl [0, 2, 3] rfl)
  refine lv_iconst (v := 0) hx hb dX4_grants_0 (by decide) ?_
  refine lv_istore_n (lv' := [(2, .int 0), (0, .ref (ad 0)), (1, .int rt)]) hx hb dX4_grants_1 rfl hl (by decide) rfl (fun ls hl => ?_)
  exact L np 0 MI MJ s.heap [] _ (by omega) rfl rfl hP hS (lv_sub hl [0, 1, 2] rfl)
set_option maxHeartbeats 4000000 in
set_option maxRecDepth 100000 in
theorem c_X4_matures (l : Launch) (hD0 : zD (fun _ => True) Rs ad) (hI : zIn Rs np ng) (j : Nat) (t : Nat) (hj : j < np) (hok : mOK MI np) (ht : MI 2 j = nI t) (ht21 : t < 21) (sz : Nat) : zMW l yX4_matures cX4_matures 13 ((none : Option FieldType)) 3 (71) 0 0 D ks sz [.ref (ad 0), .int (nI j)] (zP D Rs ad (gS ks ad np ng G MI MJ XI XJ)) none (zP D Rs ad (gS ks ad np ng G (mMatI np j t MI MJ) (mMatJ np j t MI MJ) XI XJ)) (zA Rs ad sz) := by
  refine zMW.of (by decide +kernel) (Nat.le_of_ble_eq_true rfl) ?_
  intro p e s m below meth c ls hx hb hr hml hown hlk hT hsz hP hK hl hin
  have hl : lv_has ls 13 [(0, .ref (ad 0)), (1, .int (nI j))] := hl
  subst hsz
  have hD := hD0.self (sz := s.heap.size)
  have hA : ∀ q : Nat, s.heap.size ≤ q → zA Rs ad s.heap.size q := fun q h => Or.inr h
  have hS : va_S (zA Rs ad s.heap.size) s.heap s.heap [] := va_S.rf
  have L : ∀ (ls : Array Slot), lv_has ls 13 [(6, .long (mRat MI MJ np j t)), (8, .int (nI t)), (4, .long (Int32.toInt64 (nI t) * Int32.toInt64 (MI 3 j))), (2, .long (mShare MI MJ np j)), (0, .ref (ad 0)), (1, .int (nI j))] → W p l e (zRm 3 (71) 0 0) s m ([.ref (ad 0), .int (nI j)] : List Value).toArray below meth c s.heap [] 0 0 (MQ below (zQW none (zP D Rs ad (gS ks ad np ng G (mMatI np j t MI MJ) (mMatJ np j t MI MJ) XI XJ)) (zA Rs ad s.heap.size)) ([.ref (ad 0), .int (nI j)] : List Value).toArray s 0 0 (zA Rs ad s.heap.size)) (F0 m 125 ls []) := by
    intro ls hl
    refine lv_aload_n hx hb dX4_matures_125 rfl (lv_at hl 4 rfl) ?_
    refine gf_X4_57 hx hb hT hown hK (hP.at (hI.1 0 (by decide)) rfl) rfl dX4_matures_126 ?_
    refine lv_iload hx hb dX4_matures_129 (lv_at hl 1 rfl) ?_
    refine lv_lload hx hb dX4_matures_131 (lv_at hl 0 rfl) ?_
    refine lv_l2i hx hb dX4_matures_133 rfl ?_
    refine lv_iconst (v := 1) hx hb dX4_matures_134 (by decide) ?_
    refine lv_iadd hx hb dX4_matures_135 ?_
    refine as_11N hx hb hK hP hD hS (hI.1 11 (by decide)) (v := (Int64.toInt32 (mRat MI MJ np j t)) + 1) (ht21) dX4_matures_136 (fun H locs hP hS => ?_)
    refine lv_lload hx hb dX4_matures_137 (lv_at hl 2 rfl) ?_
    refine lv_lload hx hb dX4_matures_139 (lv_at hl 0 rfl) ?_
    refine z_backR1 (z_runS ⟨hx, hb, hml, hown, hT⟩ (rest := []) (As := [.long (Int32.toInt64 (nI t) * Int32.toInt64 (MI 3 j)), .long (mRat MI MJ np j t)]) (c_X4_part l D ks (Int32.toInt64 (nI t) * Int32.toInt64 (MI 3 j)) (mRat MI MJ np j t) ) k_X4_103 (z_preR hK trivial) rfl ⟨Nat.le_of_ble_eq_true rfl, Nat.le_of_ble_eq_true rfl⟩ hl.1 rfl (Nat.le_of_ble_eq_true rfl) dX4_matures_141 ⟨Nat.le_of_ble_eq_true rfl, Nat.le_of_ble_eq_true rfl⟩) ?_
    refine lv_topl (fun v1 ev1 => ?_)
    refine lv_lstore (lv' := [(9, .long v1), (6, .long (mRat MI MJ np j t)), (8, .int (nI t)), (4, .long (Int32.toInt64 (nI t) * Int32.toInt64 (MI 3 j))), (2, .long (mShare MI MJ np j)), (0, .ref (ad 0)), (1, .int (nI j))]) hx hb dX4_matures_144 hl (by decide) rfl (fun ls hl => ?_)
    refine lv_aload_n hx hb dX4_matures_146 rfl (lv_at hl 5 rfl) ?_
    refine gf_X4_35 hx hb hT hown hK (v := .ref (ad 4)) (hP.at (hI.1 0 (by decide)) rfl) rfl dX4_matures_147 ?_
    refine lv_iload_n hx hb dX4_matures_150 rfl (lv_at hl 6 rfl) ?_
    refine z_ialdN hx hb hK (hP.at (hI.1 4 (by decide)) rfl) (Nat.lt_of_lt_of_le hj hok.2.1) (by decide) (v := MI 4 j) (rfl) dX4_matures_151 ?_
    refine lv_i2l hx hb dX4_matures_152 rfl ?_
    refine lv_aload_n hx hb dX4_matures_153 rfl (lv_at hl 5 rfl) ?_
    refine gf_X4_41 hx hb hT hown hK (v := .ref (ad 6)) (hP.at (hI.1 0 (by decide)) rfl) rfl dX4_matures_154 ?_
    refine lv_iload_n hx hb dX4_matures_157 rfl (lv_at hl 6 rfl) ?_
    refine z_ialdN hx hb hK (hP.at (hI.1 6 (by decide)) rfl) (Nat.lt_of_lt_of_le hj hok.2.1) (by decide) (v := MI 6 j) (rfl) dX4_matures_158 ?_
    refine lv_i2l hx hb dX4_matures_159 rfl ?_
    refine lv_ladd hx hb dX4_matures_160 ?_
    refine lv_lstore (lv' := [(11, .long ((Int32.toInt64 (MI 4 j)) + (Int32.toInt64 (MI 6 j)))), (9, .long v1), (6, .long (mRat MI MJ np j t)), (8, .int (nI t)), (4, .long (Int32.toInt64 (nI t) * Int32.toInt64 (MI 3 j))), (2, .long (mShare MI MJ np j)), (0, .ref (ad 0)), (1, .int (nI j))]) hx hb dX4_matures_161 hl (by decide) rfl (fun ls hl => ?_)
    refine lv_aload_n hx hb dX4_matures_163 rfl (lv_at hl 6 rfl) ?_
    refine lv_iload_n hx hb dX4_matures_164 rfl (lv_at hl 7 rfl) ?_
    refine lv_iconst (v := 1) hx hb dX4_matures_165 (by decide) ?_
    refine lv_lload_n hx hb dX4_matures_166 rfl (lv_at hl 5 rfl) ?_
    refine lv_lload hx hb dX4_matures_167 (lv_at hl 1 rfl) ?_
    refine lv_lload hx hb dX4_matures_169 (lv_at hl 0 rfl) ?_
    refine z_lcmp_le (tgt := 180) hx hb dX4_matures_171 dX4_matures_172 (by decide) (fun c_2 => ?_) (fun c_2 => ?_)
    · refine lv_lload hx hb dX4_matures_180 (lv_at hl 0 rfl) ?_
      refine lv_l2i hx hb dX4_matures_182 rfl ?_
      refine z_backW0 (z_runV ⟨hx, hb, hml, hown, hT⟩ (rest := []) (As := [.int (nI j), .int 1, .long (mShare MI MJ np j), .int (Int64.toInt32 ((Int32.toInt64 (MI 4 j)) + (Int32.toInt64 (MI 6 j))))]) (c_X4_leaves (MI := u2 MI 9 t ((Int64.toInt32 (mRat MI MJ np j t)) + 1)) (MJ := MJ) (XI := XI) (XJ := XJ) l hD0 hI j 1 (mShare MI MJ np j) (Int64.toInt32 ((Int32.toInt64 (MI 4 j)) + (Int32.toInt64 (MI 6 j)))) (hj) (hok.1) (hok.2.1) _) k_X4_117 (z_preWV hK hP (hP.at (hI.1 0 (by decide)) rfl) rfl) rfl ⟨Nat.le_of_ble_eq_true rfl, Nat.le_of_ble_eq_true rfl⟩ hl.1 rfl (Nat.le_of_ble_eq_true rfl) dX4_matures_183 ⟨Nat.le_of_ble_eq_true rfl, Nat.le_of_ble_eq_true rfl⟩) hS (hD.free (fun q hq => hA q (Nat.le_trans hS.1 hq))) (fun H locs hP hz1 hk1 hS => ?_)
      have hP : zP D Rs ad (gS ks ad np ng G (u2 (u2 (u2 MI 9 t ((Int64.toInt32 (mRat MI MJ np j t)) + 1)) 5 j 1) 7 j (Int64.toInt32 ((Int32.toInt64 (MI 4 j)) + (Int32.toInt64 (MI 6 j))))) (lvJ (mPr (u2 (u2 (u2 MI 9 t ((Int64.toInt32 (mRat MI MJ np j t)) + 1)) 5 j 1) 7 j (Int64.toInt32 ((Int32.toInt64 (MI 4 j)) + (Int32.toInt64 (MI 6 j))))) np j) MJ (hm (u2 MI 9 t ((Int64.toInt32 (mRat MI MJ np j t)) + 1)) np j) (mShare MI MJ np j) (Int64.toInt32 ((Int32.toInt64 (MI 4 j)) + (Int32.toInt64 (MI 6 j))))) XI XJ) H := hP
      exact zW_v hx hb hr hlk hS (Nat.le_of_ble_eq_true rfl) (Nat.le_of_ble_eq_true rfl) dX4_matures_186 (by subst ev1; have hpay : mPay MI MJ np j t = _ := congrArg Int64.toInt32 (if_neg c_2); unfold mMatI mMatJ mMatI; rw [hpay]; exact hP)
    · refine lv_lload hx hb dX4_matures_175 (lv_at hl 1 rfl) ?_
      refine lv_goto (tgt := 182) hx hb dX4_matures_177 (by decide) ?_
      refine lv_l2i hx hb dX4_matures_182 rfl ?_
      refine z_backW0 (z_runV ⟨hx, hb, hml, hown, hT⟩ (rest := []) (As := [.int (nI j), .int 1, .long (mShare MI MJ np j), .int (Int64.toInt32 v1)]) (c_X4_leaves (MI := u2 MI 9 t ((Int64.toInt32 (mRat MI MJ np j t)) + 1)) (MJ := MJ) (XI := XI) (XJ := XJ) l hD0 hI j 1 (mShare MI MJ np j) (Int64.toInt32 v1) (hj) (hok.1) (hok.2.1) _) k_X4_117 (z_preWV hK hP (hP.at (hI.1 0 (by decide)) rfl) rfl) rfl ⟨Nat.le_of_ble_eq_true rfl, Nat.le_of_ble_eq_true rfl⟩ hl.1 rfl (Nat.le_of_ble_eq_true rfl) dX4_matures_183 ⟨Nat.le_of_ble_eq_true rfl, Nat.le_of_ble_eq_true rfl⟩) hS (hD.free (fun q hq => hA q (Nat.le_trans hS.1 hq))) (fun H locs hP hz1 hk1 hS => ?_)
      have hP : zP D Rs ad (gS ks ad np ng G (u2 (u2 (u2 MI 9 t ((Int64.toInt32 (mRat MI MJ np j t)) + 1)) 5 j 1) 7 j (Int64.toInt32 v1)) (lvJ (mPr (u2 (u2 (u2 MI 9 t ((Int64.toInt32 (mRat MI MJ np j t)) + 1)) 5 j 1) 7 j (Int64.toInt32 v1)) np j) MJ (hm (u2 MI 9 t ((Int64.toInt32 (mRat MI MJ np j t)) + 1)) np j) (mShare MI MJ np j) (Int64.toInt32 v1)) XI XJ) H := hP
      exact zW_v hx hb hr hlk hS (Nat.le_of_ble_eq_true rfl) (Nat.le_of_ble_eq_true rfl) dX4_matures_186 (by subst ev1; have hpay : mPay MI MJ np j t = _ := congrArg Int64.toInt32 (if_pos c_2); unfold mMatI mMatJ mMatI; rw [hpay]; exact hP)
  refine lv_aload_n hx hb dX4_matures_0 rfl (lv_at hl 0 rfl) ?_
  refine lv_iload_n hx hb dX4_matures_1 rfl (lv_at hl 1 rfl) ?_
  refine z_backR1 (z_runV ⟨hx, hb, hml, hown, hT⟩ (rest := []) (As := [.int (nI j)]) (c_X4_share (MI := MI) (MJ := MJ) (XI := XI) (XJ := XJ) l hI j (hj) (hok.1) (hok.2.1) (hok.hd hj)) k_X4_95 (z_preRV hK hP (hP.at (hI.1 0 (by decide)) rfl) rfl) rfl ⟨Nat.le_of_ble_eq_true rfl, Nat.le_of_ble_eq_true rfl⟩ hl.1 rfl (Nat.le_of_ble_eq_true rfl) dX4_matures_2 ⟨Nat.le_of_ble_eq_true rfl, Nat.le_of_ble_eq_true rfl⟩) ?_
  refine lv_lstore_n (lv' := [(2, .long (mShare MI MJ np j)), (0, .ref (ad 0)), (1, .int (nI j))]) hx hb dX4_matures_5 rfl hl (by decide) rfl (fun ls hl => ?_)
  refine lv_aload_n hx hb dX4_matures_6 rfl (lv_at hl 1 rfl) ?_
  refine gf_X4_29 hx hb hT hown hK (hP.at (hI.1 0 (by decide)) rfl) rfl dX4_matures_7 ?_
  refine lv_iload_n hx hb dX4_matures_10 rfl (lv_at hl 2 rfl) ?_
  refine z_ialdN hx hb hK (hP.at (hI.1 2 (by decide)) rfl) (Nat.lt_of_lt_of_le hj hok.2.1) (by decide) (v := MI 2 j) (rfl) dX4_matures_11 ?_
  rw [show MI 2 j = nI t from ht]
  refine lv_i2l hx hb dX4_matures_12 rfl ?_
  refine lv_aload_n hx hb dX4_matures_13 rfl (lv_at hl 1 rfl) ?_
  refine gf_X4_32 hx hb hT hown hK (hP.at (hI.1 0 (by decide)) rfl) rfl dX4_matures_14 ?_
  refine lv_iload_n hx hb dX4_matures_17 rfl (lv_at hl 2 rfl) ?_
  refine z_ialdN hx hb hK (hP.at (hI.1 3 (by decide)) rfl) (Nat.lt_of_lt_of_le hj hok.2.1) (by decide) (v := MI 3 j) (rfl) dX4_matures_18 ?_
  refine lv_i2l hx hb dX4_matures_19 rfl ?_
  refine lv_lmul hx hb dX4_matures_20 ?_
  refine lv_lstore (lv' := [(4, .long ((Int32.toInt64 (nI t)) * (Int32.toInt64 (MI 3 j)))), (2, .long (mShare MI MJ np j)), (0, .ref (ad 0)), (1, .int (nI j))]) hx hb dX4_matures_21 hl (by decide) rfl (fun ls hl => ?_)
  refine lv_lload_n hx hb dX4_matures_23 rfl (lv_at hl 1 rfl) ?_
  refine lv_aload_n hx hb dX4_matures_24 rfl (lv_at hl 2 rfl) ?_
  refine gf_X4_16 hx hb hT hown hK (hP.at (hI.1 0 (by decide)) rfl) rfl dX4_matures_25 ?_
  refine lv_i2l hx hb dX4_matures_28 rfl ?_
  refine z_backR1 (z_runS ⟨hx, hb, hml, hown, hT⟩ (rest := []) (As := [.long (mShare MI MJ np j), .long (Int32.toInt64 (MI 0 3))]) (c_X4_part l D ks (mShare MI MJ np j) (Int32.toInt64 (MI 0 3)) ) k_X4_103 (z_preR hK trivial) rfl ⟨Nat.le_of_ble_eq_true rfl, Nat.le_of_ble_eq_true rfl⟩ hl.1 rfl (Nat.le_of_ble_eq_true rfl) dX4_matures_29 ⟨Nat.le_of_ble_eq_true rfl, Nat.le_of_ble_eq_true rfl⟩) ?_
  refine lv_ldc2 (v := 1000) hx hb hown (hT _ kl_X4_70) dX4_matures_32 ?_
  refine lv_lmul hx hb dX4_matures_35 ?_
  refine lv_lload hx hb dX4_matures_36 (lv_at hl 0 rfl) ?_
  refine lv_ldiv hx hb dX4_matures_38 (by rw [← ht]; exact hok.hall hj) ?_
  refine lv_topl (fun v3 ev3 => ?_)
  refine lv_lstore (lv' := [(6, .long v3), (4, .long ((Int32.toInt64 (nI t)) * (Int32.toInt64 (MI 3 j)))), (2, .long (mShare MI MJ np j)), (0, .ref (ad 0)), (1, .int (nI j))]) hx hb dX4_matures_39 hl (by decide) rfl (fun ls hl => ?_)
  refine lv_aload_n hx hb dX4_matures_41 rfl (lv_at hl 3 rfl) ?_
  refine gf_X4_29 hx hb hT hown hK (hP.at (hI.1 0 (by decide)) rfl) rfl dX4_matures_42 ?_
  refine lv_iload_n hx hb dX4_matures_45 rfl (lv_at hl 4 rfl) ?_
  refine z_ialdN hx hb hK (hP.at (hI.1 2 (by decide)) rfl) (Nat.lt_of_lt_of_le hj hok.2.1) (by decide) (v := MI 2 j) (rfl) dX4_matures_46 ?_
  rw [show MI 2 j = nI t from ht]
  refine lv_istore (lv' := [(8, .int (nI t)), (6, .long v3), (4, .long ((Int32.toInt64 (nI t)) * (Int32.toInt64 (MI 3 j)))), (2, .long (mShare MI MJ np j)), (0, .ref (ad 0)), (1, .int (nI j))]) hx hb dX4_matures_47 hl (by decide) rfl (fun ls hl => ?_)
  refine lv_aload_n hx hb dX4_matures_49 rfl (lv_at hl 4 rfl) ?_
  refine gf_X4_54 hx hb hT hown hK (hP.at (hI.1 0 (by decide)) rfl) rfl dX4_matures_50 ?_
  refine lv_iload hx hb dX4_matures_53 (lv_at hl 0 rfl) ?_
  refine z_ialdN hx hb hK (hP.at (hI.1 10 (by decide)) rfl) (ht21) (by decide) (v := MI 8 t) (rfl) dX4_matures_55 ?_
  refine lv_if_le (tgt := 125) hx hb dX4_matures_56 (by decide) (fun c_4 => ?_) (fun c_4 => ?_)
  · have hrat : mRat MI MJ np j t = v3 := by subst ev3; exact if_pos c_4
    exact L _ (by rw [hrat]; exact (lv_sub hl [1, 0, 2, 3, 4, 5] rfl))
  · refine lv_aload_n hx hb dX4_matures_59 rfl (lv_at hl 4 rfl) ?_
    refine gf_X4_54 hx hb hT hown hK (hP.at (hI.1 0 (by decide)) rfl) rfl dX4_matures_60 ?_
    refine lv_iload hx hb dX4_matures_63 (lv_at hl 0 rfl) ?_
    refine z_ialdN hx hb hK (hP.at (hI.1 10 (by decide)) rfl) (ht21) (by decide) (v := MI 8 t) (rfl) dX4_matures_65 ?_
    refine lv_i2l hx hb dX4_matures_66 rfl ?_
    refine lv_lconst (v := 1) hx hb dX4_matures_67 (by decide) ?_
    refine lv_lsub hx hb dX4_matures_68 ?_
    refine lv_lstore (lv' := [(9, .long ((Int32.toInt64 (MI 8 t)) - 1)), (8, .int (nI t)), (6, .long v3), (4, .long ((Int32.toInt64 (nI t)) * (Int32.toInt64 (MI 3 j)))), (2, .long (mShare MI MJ np j)), (0, .ref (ad 0)), (1, .int (nI j))]) hx hb dX4_matures_69 hl (by decide) rfl (fun ls hl => ?_)
    refine lv_lload hx hb dX4_matures_71 (lv_at hl 0 rfl) ?_
    refine lv_aload_n hx hb dX4_matures_73 rfl (lv_at hl 5 rfl) ?_
    refine gf_X4_19 hx hb hT hown hK (hP.at (hI.1 0 (by decide)) rfl) rfl dX4_matures_74 ?_
    refine lv_i2l hx hb dX4_matures_77 rfl ?_
    refine z_backR1 (z_runS ⟨hx, hb, hml, hown, hT⟩ (rest := []) (As := [.long ((Int32.toInt64 (MI 8 t)) - 1), .long (Int32.toInt64 (MI 0 4))]) (c_X4_part l D ks ((Int32.toInt64 (MI 8 t)) - 1) (Int32.toInt64 (MI 0 4)) ) k_X4_103 (z_preR hK trivial) rfl ⟨Nat.le_of_ble_eq_true rfl, Nat.le_of_ble_eq_true rfl⟩ hl.1 rfl (Nat.le_of_ble_eq_true rfl) dX4_matures_78 ⟨Nat.le_of_ble_eq_true rfl, Nat.le_of_ble_eq_true rfl⟩) ?_
    refine lv_topl (fun v5 ev5 => ?_)
    refine lv_lstore (lv' := [(11, .long v5), (9, .long ((Int32.toInt64 (MI 8 t)) - 1)), (8, .int (nI t)), (6, .long v3), (4, .long ((Int32.toInt64 (nI t)) * (Int32.toInt64 (MI 3 j)))), (2, .long (mShare MI MJ np j)), (0, .ref (ad 0)), (1, .int (nI j))]) hx hb dX4_matures_81 hl (by decide) rfl (fun ls hl => ?_)
    refine lv_lload hx hb dX4_matures_83 (lv_at hl 3 rfl) ?_
    refine lv_lload hx hb dX4_matures_85 (lv_at hl 1 rfl) ?_
    refine lv_lload hx hb dX4_matures_87 (lv_at hl 0 rfl) ?_
    refine lv_lsub hx hb dX4_matures_89 ?_
    refine z_lcmp_ge (tgt := 102) hx hb dX4_matures_90 dX4_matures_91 (by decide) (fun c_6 => ?_) (fun c_6 => ?_)
    · refine lv_lload hx hb dX4_matures_102 (lv_at hl 3 rfl) ?_
      refine lv_lload hx hb dX4_matures_104 (lv_at hl 1 rfl) ?_
      refine lv_lload hx hb dX4_matures_106 (lv_at hl 0 rfl) ?_
      refine lv_ladd hx hb dX4_matures_108 ?_
      refine z_lcmp_le (tgt := 121) hx hb dX4_matures_109 dX4_matures_110 (by decide) (fun c_7 => ?_) (fun c_7 => ?_)
      · refine lv_lload hx hb dX4_matures_121 (lv_at hl 3 rfl) ?_
        refine lv_lstore (lv' := [(6, .long v3), (11, .long v5), (9, .long ((Int32.toInt64 (MI 8 t)) - 1)), (8, .int (nI t)), (4, .long ((Int32.toInt64 (nI t)) * (Int32.toInt64 (MI 3 j)))), (2, .long (mShare MI MJ np j)), (0, .ref (ad 0)), (1, .int (nI j))]) hx hb dX4_matures_123 hl (by decide) rfl (fun ls hl => ?_)
        have hrat : mRat MI MJ np j t = v3 := by subst ev5 ev3; exact (if_neg c_4).trans ((if_neg c_6).trans (if_neg c_7))
        exact L _ (by rw [hrat]; exact (lv_sub hl [0, 3, 4, 5, 6, 7] rfl))
      · refine lv_lload hx hb dX4_matures_113 (lv_at hl 1 rfl) ?_
        refine lv_lload hx hb dX4_matures_115 (lv_at hl 0 rfl) ?_
        refine lv_ladd hx hb dX4_matures_117 ?_
        refine lv_goto (tgt := 123) hx hb dX4_matures_118 (by decide) ?_
        refine lv_lstore (lv' := [(6, .long (((Int32.toInt64 (MI 8 t)) - 1) + v5)), (11, .long v5), (9, .long ((Int32.toInt64 (MI 8 t)) - 1)), (8, .int (nI t)), (4, .long ((Int32.toInt64 (nI t)) * (Int32.toInt64 (MI 3 j)))), (2, .long (mShare MI MJ np j)), (0, .ref (ad 0)), (1, .int (nI j))]) hx hb dX4_matures_123 hl (by decide) rfl (fun ls hl => ?_)
        have hrat : mRat MI MJ np j t = ((Int32.toInt64 (MI 8 t)) - 1) + v5 := by subst ev5 ev3; exact (if_neg c_4).trans ((if_neg c_6).trans (if_pos c_7))
        exact L _ (by rw [hrat]; exact (lv_sub hl [0, 3, 4, 5, 6, 7] rfl))
    · refine lv_lload hx hb dX4_matures_94 (lv_at hl 1 rfl) ?_
      refine lv_lload hx hb dX4_matures_96 (lv_at hl 0 rfl) ?_
      refine lv_lsub hx hb dX4_matures_98 ?_
      refine lv_goto (tgt := 123) hx hb dX4_matures_99 (by decide) ?_
      refine lv_lstore (lv' := [(6, .long (((Int32.toInt64 (MI 8 t)) - 1) - v5)), (11, .long v5), (9, .long ((Int32.toInt64 (MI 8 t)) - 1)), (8, .int (nI t)), (4, .long ((Int32.toInt64 (nI t)) * (Int32.toInt64 (MI 3 j)))), (2, .long (mShare MI MJ np j)), (0, .ref (ad 0)), (1, .int (nI j))]) hx hb dX4_matures_123 hl (by decide) rfl (fun ls hl => ?_)
      have hrat : mRat MI MJ np j t = ((Int32.toInt64 (MI 8 t)) - 1) - v5 := by subst ev5 ev3; exact (if_neg c_4).trans (if_pos c_6)
      exact L _ (by rw [hrat]; exact (lv_sub hl [0, 3, 4, 5, 6, 7] rfl))
end ZM3
