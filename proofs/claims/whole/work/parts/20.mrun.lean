/-! the reference: a year run, sums over all -/
section ZM4
variable {D : va_G} {ks : Nat → ClassId} {ad : Nat → Nat} {np ng : Nat} {G : Nat → Nat} {MI : Nat → Nat → Int32} {MJ : Nat → Nat → Int64} {XI : Nat → Nat → Int32} {XJ : Nat → Nat → Int64} {Rs : List Nat}
theorem mOK.tn {MI : Nat → Nat → Int32} {np j : Nat} (h : mOK MI np) (hj : j < np) : MI 2 j = nI (MI 2 j).toInt.toNat ∧ (MI 2 j).toInt.toNat < 21 := by
  obtain ⟨⟨h1, h2⟩, -⟩ := h.2.2 j hj
  refine ⟨?_, by omega⟩
  apply Int32.toInt_inj.mp
  rw [nI_toInt (by omega)]
  omega
def mCpy (a b : Nat) : Nat → (Nat → Nat → Int32) → Nat → Nat → Int32
  | 0, M => M
  | t + 1, M => u2 (mCpy a b t M) a t (mCpy a b t M b t)
theorem mCpy_k {a b c : Nat} (h : c ≠ a) : ∀ (n : Nat) (M : Nat → Nat → Int32), mCpy a b n M c = M c := by
  intro n
  induction n with
  | zero => intro M; rfl
  | succ n ih => intro M; simp only [mCpy]; rw [u2_k h]; exact ih M
abbrev mST : Type := (Nat → Nat → Int32) × (Nat → Nat → Int64)
def mDue (M : Nat → Nat → Int32) (k : Nat) : Prop := M 5 k = 0 ∧ M 0 0 - M 1 k + 1 = M 2 k
abbrev mTn (M : Nat → Nat → Int32) (k : Nat) : Nat := (M 2 k).toInt.toNat
def mMtS (np : Nat) : Nat → mST → mST
  | 0, S => S
  | k + 1, S => if (mMtS np k S).1 5 k = 0 ∧ (mMtS np k S).1 0 0 - (mMtS np k S).1 1 k + 1 = (mMtS np k S).1 2 k then
      (mMatI np k (mTn (mMtS np k S).1 k) (mMtS np k S).1 (mMtS np k S).2, mMatJ np k (mTn (mMtS np k S).1 k) (mMtS np k S).1 (mMtS np k S).2) else mMtS np k S
def mMtN (np : Nat) : Nat → mST → Nat
  | 0, _ => 0
  | k + 1, S => mMtN np k S + (if (mMtS np k S).1 5 k = 0 ∧ (mMtS np k S).1 0 0 - (mMtS np k S).1 1 k + 1 = (mMtS np k S).1 2 k then 1 else 0)
theorem mMtS_k {np a : Nat} (h5 : a ≠ 5) (h7 : a ≠ 7) (h9 : a ≠ 9) : ∀ (n : Nat) (S : mST), (mMtS np n S).1 a = S.1 a := by
  intro n
  induction n with
  | zero => intro S; rfl
  | succ n ih =>
    intro S
    simp only [mMtS]
    split
    · show mMatI _ _ _ _ _ a = _
      unfold mMatI
      rw [u2_k h7, u2_k h5, u2_k h9]
      exact ih S
    · exact ih S
def mS0 (MI : Nat → Nat → Int32) (MJ : Nat → Nat → Int64) (rt : Int32) (np : Nat) : mST :=
  (mCpy 9 8 21 (mGrI np (u2 MI 0 7 0)), mGrJ rt np (u2 MI 0 7 0) (u2 (u2 (mGrow (u2 MI 0 7 0) rt np np MJ) 0 0 (mGrow (u2 MI 0 7 0) rt np np MJ 0 0 + fPart (MJ 0 0) (Int32.toInt64 rt))) 0 1 (mGrow (u2 MI 0 7 0) rt np np MJ 0 1 + fPart (MJ 0 0) (Int32.toInt64 rt))))
def mRunI (MI : Nat → Nat → Int32) (MJ : Nat → Nat → Int64) (rt : Int32) (np : Nat) : Nat → Nat → Int32 := u2 (mCpy 8 9 21 (mMtS np np (mS0 MI MJ rt np)).1) 0 0 (mCpy 8 9 21 (mMtS np np (mS0 MI MJ rt np)).1 0 0 + 1)
def mRunJ (MI : Nat → Nat → Int32) (MJ : Nat → Nat → Int64) (rt : Int32) (np : Nat) : Nat → Nat → Int64 := (mMtS np np (mS0 MI MJ rt np)).2
def mSf1 (M : Nat → Nat → Int32) (J : Nat → Nat → Int64) (np k : Nat) : Int64 := if M 5 k = 0 then Int32.toInt64 (M 4 k + M 6 k) - mShare M J np k else 0
def mSf (M : Nat → Nat → Int32) (J : Nat → Nat → Int64) (np : Nat) : Nat → Int64
  | 0 => 0
  | k + 1 => mSf M J np k + (if 0 < mSf1 M J np k then mSf1 M J np k else 0)
def mSh (J : Nat → Nat → Int64) : Nat → Int64
  | 0 => J 0 0
  | k + 1 => mSh J k + J 2 k
set_option maxHeartbeats 4000000 in
set_option maxRecDepth 100000 in
theorem c_X4_run_ok (l : Launch) (hD0 : zD (fun _ => True) Rs ad) (hI : zIn Rs np ng) (rt : Int32) (hok : mOK MI np) (h0 : fIn rt (-200) 200 = 1) (hy : ¬ MI 0 0 = 40) (sz : Nat) : zMW l yX4_run cX4_run 4 ((some .int)) 4 (103) 0 0 D ks sz [.ref (ad 0), .int rt] (zP D Rs ad (gS ks ad np ng G MI MJ XI XJ)) (some (.int (nI (mMtN np np (mS0 MI MJ rt np))))) (zP D Rs ad (gS ks ad np ng G (mRunI MI MJ rt np) (mRunJ MI MJ rt np) XI XJ)) (zA Rs ad sz) := by
  refine zMW.of (by decide +kernel) (Nat.le_of_ble_eq_true rfl) ?_
  intro p e s m below meth c ls hx hb hr hml hown hlk hT hsz hP hK hl hin
  have hl : lv_has ls 4 [(0, .ref (ad 0)), (1, .int rt)] := hl
  subst hsz
  have hD := hD0.self (sz := s.heap.size)
  have hA : ∀ q : Nat, s.heap.size ≤ q → zA Rs ad s.heap.size q := fun q h => Or.inr h
  have hS : va_S (zA Rs ad s.heap.size) s.heap s.heap [] := va_S.rf
  refine lv_aload_n hx hb dX4_run_0 rfl (lv_at hl 0 rfl) ?_
  refine lv_iload_n hx hb dX4_run_1 rfl (lv_at hl 1 rfl) ?_
  refine lv_sipush (v := (-200)) hx hb dX4_run_2 (by decide) ?_
  refine lv_sipush (v := 200) hx hb dX4_run_5 (by decide) ?_
  refine z_backR1 (z_runS ⟨hx, hb, hml, hown, hT⟩ (rest := [.ref (ad 0)]) (As := [.int rt, .int (-200), .int 200]) (c_X4_in l D ks rt (-200) 200 ) k_X4_66 (z_preR hK trivial) rfl ⟨Nat.le_of_ble_eq_true rfl, Nat.le_of_ble_eq_true rfl⟩ hl.1 rfl (Nat.le_of_ble_eq_true rfl) dX4_run_8 ⟨Nat.le_of_ble_eq_true rfl, Nat.le_of_ble_eq_true rfl⟩) ?_
  refine lv_if_ne (tgt := 18) hx hb dX4_run_11 (by decide) (fun c_1 => ?_) (fun c_1 => ?_)
  · refine lv_aload_n hx hb dX4_run_18 rfl (lv_at hl 0 rfl) ?_
    refine gf_X4_92 hx hb hT hown hK (hP.at (hI.1 0 (by decide)) rfl) rfl dX4_run_19 ?_
    refine lv_bipush (v := 40) hx hb dX4_run_22 (by decide) ?_
    refine lv_icmp_ne (tgt := 31) hx hb dX4_run_24 (by decide) (fun c_2 => ?_) (fun c_2 => ?_)
    · refine lv_iconst (v := 0) hx hb dX4_run_31 (by decide) ?_
      refine pf_X4_60 hx hb hT hown hK hP hD hS (hI.1 0 (by decide)) (v := 0) dX4_run_32 (fun H locs hP hS => ?_)
      refine lv_aload_n hx hb dX4_run_35 rfl (lv_at hl 0 rfl) ?_
      refine gf_X4_60 hx hb hT hown hK (v := .int 0) (hP.at (hI.1 0 (by decide)) rfl) rfl dX4_run_36 ?_
      refine lv_if_le (tgt := 44) hx hb dX4_run_39 (by decide) (fun c_3 => ?_) (fun c_3 => ?_)
      · refine lv_aload_n hx hb dX4_run_44 rfl (lv_at hl 0 rfl) ?_
        refine lv_iload_n hx hb dX4_run_45 rfl (lv_at hl 1 rfl) ?_
        refine z_backW0 (z_runV ⟨hx, hb, hml, hown, hT⟩ (rest := []) (As := [.int rt]) (c_X4_grows (MI := u2 MI 0 7 0) (MJ := MJ) (XI := XI) (XJ := XJ) l hD0 hI rt (hok.1) (hok.2.1) _) k_X4_123 (z_preWV hK hP (hP.at (hI.1 0 (by decide)) rfl) rfl) rfl ⟨Nat.le_of_ble_eq_true rfl, Nat.le_of_ble_eq_true rfl⟩ hl.1 rfl (Nat.le_of_ble_eq_true rfl) dX4_run_46 ⟨Nat.le_of_ble_eq_true rfl, Nat.le_of_ble_eq_true rfl⟩) hS (hD.free (fun q hq => hA q (Nat.le_trans hS.1 hq))) (fun H locs hP hz1 hk1 hS => ?_)
        have hP : zP D Rs ad (gS ks ad np ng G (u2 MI 0 7 0) (u2 (u2 (mGrow (u2 MI 0 7 0) rt np np MJ) 0 0 ((mGrow (u2 MI 0 7 0) rt np np MJ) 0 0 + fPart (MJ 0 0) (Int32.toInt64 rt))) 0 1 ((mGrow (u2 MI 0 7 0) rt np np MJ) 0 1 + fPart (MJ 0 0) (Int32.toInt64 rt))) XI XJ) H := hP
        refine lv_aload_n hx hb dX4_run_49 rfl (lv_at hl 0 rfl) ?_
        refine lv_iload_n hx hb dX4_run_50 rfl (lv_at hl 1 rfl) ?_
        refine z_backW0 (z_runV ⟨hx, hb, hml, hown, hT⟩ (rest := []) (As := [.int rt]) (c_X4_grants (MI := u2 MI 0 7 0) (MJ := u2 (u2 (mGrow (u2 MI 0 7 0) rt np np MJ) 0 0 ((mGrow (u2 MI 0 7 0) rt np np MJ) 0 0 + fPart (MJ 0 0) (Int32.toInt64 rt))) 0 1 ((mGrow (u2 MI 0 7 0) rt np np MJ) 0 1 + fPart (MJ 0 0) (Int32.toInt64 rt))) (XI := XI) (XJ := XJ) l hD0 hI rt (hok.1) (hok.2.1) _) k_X4_127 (z_preWV hK hP (hP.at (hI.1 0 (by decide)) rfl) rfl) rfl ⟨Nat.le_of_ble_eq_true rfl, Nat.le_of_ble_eq_true rfl⟩ hl.1 rfl (Nat.le_of_ble_eq_true rfl) dX4_run_51 ⟨Nat.le_of_ble_eq_true rfl, Nat.le_of_ble_eq_true rfl⟩) hS (hD.free (fun q hq => hA q (Nat.le_trans hS.1 hq))) (fun H locs hP hz1 hk1 hS => ?_)
        have hP : zP D Rs ad (gS ks ad np ng G (mGrI np (u2 MI 0 7 0)) (mGrJ rt np (u2 MI 0 7 0) (u2 (u2 (mGrow (u2 MI 0 7 0) rt np np MJ) 0 0 ((mGrow (u2 MI 0 7 0) rt np np MJ) 0 0 + fPart (MJ 0 0) (Int32.toInt64 rt))) 0 1 ((mGrow (u2 MI 0 7 0) rt np np MJ) 0 1 + fPart (MJ 0 0) (Int32.toInt64 rt)))) XI XJ) H := hP
        obtain ⟨MIa, hMIa⟩ : ∃ z, z = (mGrI np (u2 MI 0 7 0)) := ⟨_, rfl⟩
        rw [← hMIa] at hP
        obtain ⟨MJa, hMJa⟩ : ∃ z, z = (mGrJ rt np (u2 MI 0 7 0) (u2 (u2 (mGrow (u2 MI 0 7 0) rt np np MJ) 0 0 ((mGrow (u2 MI 0 7 0) rt np np MJ) 0 0 + fPart (MJ 0 0) (Int32.toInt64 rt))) 0 1 ((mGrow (u2 MI 0 7 0) rt np np MJ) 0 1 + fPart (MJ 0 0) (Int32.toInt64 rt)))) := ⟨_, rfl⟩
        rw [← hMJa] at hP
        have hoka : mOK MIa np := by rw [hMIa]; exact hok.to (by rw [mGrI_k (by decide)]; rfl) (by rw [mGrI_k (by decide)]; rfl) (by rw [mGrI_k (by decide)]; rfl)
        have hN30 : np ≤ 30 := hok.2.1
        have L3 : ∀ (M : Nat → Nat → Int32) (J1 : Nat → Nat → Int64) (cn : Nat), nI cn = nI (mMtN np np (mS0 MI MJ rt np)) → (∀ H, zP D Rs ad (gS ks ad np ng G (u2 (mCpy 8 9 21 M) 0 0 (mCpy 8 9 21 M 0 0 + 1)) J1 XI XJ) H → zP D Rs ad (gS ks ad np ng G (mRunI MI MJ rt np) (mRunJ MI MJ rt np) XI XJ) H) → ∀ (n k : Nat) (M1 : Nat → Nat → Int32) (H : Heap) (locs : List Loc) (ls : Array Slot), k + n = 21 → M1 = mCpy 8 9 k M → zP D Rs ad (gS ks ad np ng G M1 J1 XI XJ) H → va_S (zA Rs ad s.heap.size) s.heap H locs → lv_has ls 4 [(3, .int (nI k)), (2, .int (nI cn)), (0, .ref (ad 0)), (1, .int rt)] → W p l e (zRm 4 (103) 0 0) s m ([.ref (ad 0), .int rt] : List Value).toArray below meth c H locs 0 0 (MQ below (zQW (some (.int (nI (mMtN np np (mS0 MI MJ rt np))))) (zP D Rs ad (gS ks ad np ng G (mRunI MI MJ rt np) (mRunJ MI MJ rt np) XI XJ)) (zA Rs ad s.heap.size)) ([.ref (ad 0), .int rt] : List Value).toArray s 0 0 (zA Rs ad s.heap.size)) (F0 m 139 ls []) := by
          intro M J1 cn hc hQ n
          induction n with
          | zero =>
            intro k M1 H locs ls hkn hM hP hS hl
            have hk0 : k = 21 := by omega
            refine lv_iload_n hx hb dX4_run_139 rfl (lv_at hl 0 rfl) ?_
            refine lv_bipush (v := 21) hx hb dX4_run_140 (by decide) ?_
            refine lv_icmp_ge (tgt := 163) hx hb dX4_run_142 (by decide) (fun c_4 => ?_) (fun c_4 => ?_)
            · refine lv_aload_n hx hb dX4_run_163 rfl (lv_at hl 2 rfl) ?_
              refine lv_dup hx hb dX4_run_164 rfl ?_
              refine gf_X4_92 hx hb hT hown hK (hP.at (hI.1 0 (by decide)) rfl) rfl dX4_run_165 ?_
              refine lv_iconst (v := 1) hx hb dX4_run_168 (by decide) ?_
              refine lv_iadd hx hb dX4_run_169 ?_
              refine pf_X4_92 hx hb hT hown hK hP hD hS (hI.1 0 (by decide)) (v := (M1 0 0) + 1) dX4_run_170 (fun H locs hP hS => ?_)
              refine lv_iload_n hx hb dX4_run_173 rfl (lv_at hl 1 rfl) ?_
              exact zW_i hx hb hr hlk hS (Nat.le_of_ble_eq_true rfl) (Nat.le_of_ble_eq_true rfl) dX4_run_174 (hc) (by subst hk0; subst hM; exact hQ _ hP)
            · exact absurd (nI_le (a := 21) (b := k) (by omega) (by omega)) c_4
          | succ n ih =>
            intro k M1 H locs ls hkn hM hP hS hl
            have hk : k < 21 := by omega
            refine lv_iload_n hx hb dX4_run_139 rfl (lv_at hl 0 rfl) ?_
            refine lv_bipush (v := 21) hx hb dX4_run_140 (by decide) ?_
            refine lv_icmp_ge (tgt := 163) hx hb dX4_run_142 (by decide) (fun c_5 => ?_) (fun c_5 => ?_)
            · exact absurd c_5 (nI_ge (a := k) (b := 21) hk (by decide))
            · refine lv_aload_n hx hb dX4_run_145 rfl (lv_at hl 2 rfl) ?_
              refine gf_X4_54 hx hb hT hown hK (hP.at (hI.1 0 (by decide)) rfl) rfl dX4_run_146 ?_
              refine lv_iload_n hx hb dX4_run_149 rfl (lv_at hl 0 rfl) ?_
              refine lv_aload_n hx hb dX4_run_150 rfl (lv_at hl 2 rfl) ?_
              refine gf_X4_57 hx hb hT hown hK (hP.at (hI.1 0 (by decide)) rfl) rfl dX4_run_151 ?_
              refine lv_iload_n hx hb dX4_run_154 rfl (lv_at hl 0 rfl) ?_
              refine z_ialdN hx hb hK (hP.at (hI.1 11 (by decide)) rfl) (hk) (by decide) (v := M1 9 k) (rfl) dX4_run_155 ?_
              refine as_10N hx hb hK hP hD hS (hI.1 10 (by decide)) (v := M1 9 k) (hk) dX4_run_156 (fun H locs hP hS => ?_)
              refine lv_iinc (v := nI (k + 1)) (lv' := [(3, .int (nI (k + 1))), (2, .int (nI cn)), (0, .ref (ad 0)), (1, .int rt)]) hx hb dX4_run_157 hl (k := 0) rfl (nI_1 k) (by decide) rfl (fun ls hl => ?_)
              refine lv_goto (tgt := 139) hx hb dX4_run_160 (by decide) ?_
              exact ih (k + 1) (u2 M1 8 k (M1 9 k)) H locs _ (by omega) (by rw [hM]; rfl) hP hS (lv_sub hl [0, 1, 2, 3] rfl)
        have L2 : ∀ (n k : Nat) (M1 : Nat → Nat → Int32) (J1 : Nat → Nat → Int64) (cn : Nat) (H : Heap) (locs : List Loc) (ls : Array Slot), k + n = np → M1 = (mMtS np k (mCpy 9 8 21 MIa, MJa)).1 → J1 = (mMtS np k (mCpy 9 8 21 MIa, MJa)).2 → cn = mMtN np k (mCpy 9 8 21 MIa, MJa) → zP D Rs ad (gS ks ad np ng G M1 J1 XI XJ) H → va_S (zA Rs ad s.heap.size) s.heap H locs → lv_has ls 4 [(3, .int (nI k)), (2, .int (nI cn)), (0, .ref (ad 0)), (1, .int rt)] → W p l e (zRm 4 (103) 0 0) s m ([.ref (ad 0), .int rt] : List Value).toArray below meth c H locs 0 0 (MQ below (zQW (some (.int (nI (mMtN np np (mS0 MI MJ rt np))))) (zP D Rs ad (gS ks ad np ng G (mRunI MI MJ rt np) (mRunJ MI MJ rt np) XI XJ)) (zA Rs ad s.heap.size)) ([.ref (ad 0), .int rt] : List Value).toArray s 0 0 (zA Rs ad s.heap.size)) (F0 m 84 ls []) := by
          intro n
          induction n with
          | zero =>
            intro k M1 J1 cn H locs ls hkn hM hJ hc hP hS hl
            have hok1 : mOK M1 np := by rw [hM]; exact hoka.to (by rw [mMtS_k (by decide) (by decide) (by decide)]; exact congrFun (mCpy_k (a := 9) (b := 8) (c := 0) (by decide) 21 MIa) 6) (by rw [mMtS_k (by decide) (by decide) (by decide)]; exact mCpy_k (a := 9) (b := 8) (c := 2) (by decide) 21 MIa) (by rw [mMtS_k (by decide) (by decide) (by decide)]; exact mCpy_k (a := 9) (b := 8) (c := 3) (by decide) 21 MIa)
            have hk0 : k = np := by omega
            refine lv_iload_n hx hb dX4_run_84 rfl (lv_at hl 0 rfl) ?_
            refine lv_aload_n hx hb dX4_run_85 rfl (lv_at hl 2 rfl) ?_
            refine gf_X4_63 hx hb hT hown hK (hP.at (hI.1 0 (by decide)) rfl) rfl dX4_run_86 ?_
            rw [show M1 0 6 = nI np from hok1.1]
            refine lv_icmp_ge (tgt := 137) hx hb dX4_run_89 (by decide) (fun c_6 => ?_) (fun c_6 => ?_)
            · refine lv_iconst (v := 0) hx hb dX4_run_137 (by decide) ?_
              refine lv_istore_n (lv' := [(3, .int 0), (2, .int (nI cn)), (0, .ref (ad 0)), (1, .int rt)]) hx hb dX4_run_138 rfl hl (by decide) rfl (fun ls hl => ?_)
              have hl := (show lv_has ls 4 [(3, .int (nI 0)), (2, .int (nI cn)), (0, .ref (ad 0)), (1, .int rt)] from (lv_sub hl [0, 1, 2, 3] rfl))
              refine L3 M1 J1 cn (by rw [hc, hk0, hMIa, hMJa]; rfl) (fun H1 h1 => ?_) 21 0 M1 H locs _ (by omega) rfl hP hS hl
              subst hk0; subst hM; subst hJ; subst hMIa; subst hMJa; exact h1
            · exact absurd (nI_le (by omega) (by omega)) c_6
          | succ n ih =>
            intro k M1 J1 cn H locs ls hkn hM hJ hc hP hS hl
            have hok1 : mOK M1 np := by rw [hM]; exact hoka.to (by rw [mMtS_k (by decide) (by decide) (by decide)]; exact congrFun (mCpy_k (a := 9) (b := 8) (c := 0) (by decide) 21 MIa) 6) (by rw [mMtS_k (by decide) (by decide) (by decide)]; exact mCpy_k (a := 9) (b := 8) (c := 2) (by decide) 21 MIa) (by rw [mMtS_k (by decide) (by decide) (by decide)]; exact mCpy_k (a := 9) (b := 8) (c := 3) (by decide) 21 MIa)
            have hk : k < np := by omega
            have hk30 : k < 30 := Nat.lt_of_lt_of_le hk hok.2.1
            obtain ⟨ht1, ht21⟩ := hok1.tn hk
            refine lv_iload_n hx hb dX4_run_84 rfl (lv_at hl 0 rfl) ?_
            refine lv_aload_n hx hb dX4_run_85 rfl (lv_at hl 2 rfl) ?_
            refine gf_X4_63 hx hb hT hown hK (hP.at (hI.1 0 (by decide)) rfl) rfl dX4_run_86 ?_
            rw [show M1 0 6 = nI np from hok1.1]
            refine lv_icmp_ge (tgt := 137) hx hb dX4_run_89 (by decide) (fun c_7 => ?_) (fun c_7 => ?_)
            · exact absurd c_7 (nI_ge hk (by omega))
            · refine lv_aload_n hx hb dX4_run_92 rfl (lv_at hl 2 rfl) ?_
              refine gf_X4_38 hx hb hT hown hK (hP.at (hI.1 0 (by decide)) rfl) rfl dX4_run_93 ?_
              refine lv_iload_n hx hb dX4_run_96 rfl (lv_at hl 0 rfl) ?_
              refine z_ialdN hx hb hK (hP.at (hI.1 5 (by decide)) rfl) (hk30) (by decide) (v := M1 5 k) (rfl) dX4_run_97 ?_
              refine lv_if_ne (tgt := 131) hx hb dX4_run_98 (by decide) (fun c_8 => ?_) (fun c_8 => ?_)
              · refine lv_iinc (v := nI (k + 1)) (lv' := [(3, .int (nI (k + 1))), (2, .int (nI cn)), (0, .ref (ad 0)), (1, .int rt)]) hx hb dX4_run_131 hl (k := 0) rfl (nI_1 k) (by decide) rfl (fun ls hl => ?_)
                refine lv_goto (tgt := 84) hx hb dX4_run_134 (by decide) ?_
                have hstep : mMtS np (k + 1) (mCpy 9 8 21 MIa, MJa) = (M1, J1) := by simp only [mMtS]; rw [← hM, ← hJ]; first | exact if_neg (fun h => c_8 h.1) | exact (if_neg (fun h => c_8 h.1)).trans (Prod.ext hM.symm hJ.symm)
                exact ih (k + 1) (M1) (J1) (cn) H locs _ (by omega) (by rw [hstep]) (by rw [hstep]) (by rw [hc]; simp only [mMtN]; rw [← hM]; rw [if_neg (fun h => c_8 h.1)]; try rfl) hP hS (lv_sub hl [0, 1, 2, 3] rfl)
              · refine lv_aload_n hx hb dX4_run_101 rfl (lv_at hl 2 rfl) ?_
                refine gf_X4_92 hx hb hT hown hK (hP.at (hI.1 0 (by decide)) rfl) rfl dX4_run_102 ?_
                refine lv_aload_n hx hb dX4_run_105 rfl (lv_at hl 2 rfl) ?_
                refine gf_X4_25 hx hb hT hown hK (hP.at (hI.1 0 (by decide)) rfl) rfl dX4_run_106 ?_
                refine lv_iload_n hx hb dX4_run_109 rfl (lv_at hl 0 rfl) ?_
                refine z_ialdN hx hb hK (hP.at (hI.1 1 (by decide)) rfl) (hk30) (by decide) (v := M1 1 k) (rfl) dX4_run_110 ?_
                refine lv_isub hx hb dX4_run_111 ?_
                refine lv_iconst (v := 1) hx hb dX4_run_112 (by decide) ?_
                refine lv_iadd hx hb dX4_run_113 ?_
                refine lv_aload_n hx hb dX4_run_114 rfl (lv_at hl 2 rfl) ?_
                refine gf_X4_29 hx hb hT hown hK (hP.at (hI.1 0 (by decide)) rfl) rfl dX4_run_115 ?_
                refine lv_iload_n hx hb dX4_run_118 rfl (lv_at hl 0 rfl) ?_
                refine z_ialdN hx hb hK (hP.at (hI.1 2 (by decide)) rfl) (hk30) (by decide) (v := M1 2 k) (rfl) dX4_run_119 ?_
                refine lv_icmp_ne (tgt := 131) hx hb dX4_run_120 (by decide) (fun c_9 => ?_) (fun c_9 => ?_)
                · refine lv_iinc (v := nI (k + 1)) (lv' := [(3, .int (nI (k + 1))), (2, .int (nI cn)), (0, .ref (ad 0)), (1, .int rt)]) hx hb dX4_run_131 hl (k := 0) rfl (nI_1 k) (by decide) rfl (fun ls hl => ?_)
                  refine lv_goto (tgt := 84) hx hb dX4_run_134 (by decide) ?_
                  have hstep : mMtS np (k + 1) (mCpy 9 8 21 MIa, MJa) = (M1, J1) := by simp only [mMtS]; rw [← hM, ← hJ]; first | exact if_neg (fun h => c_9 h.2) | exact (if_neg (fun h => c_9 h.2)).trans (Prod.ext hM.symm hJ.symm)
                  exact ih (k + 1) (M1) (J1) (cn) H locs _ (by omega) (by rw [hstep]) (by rw [hstep]) (by rw [hc]; simp only [mMtN]; rw [← hM]; rw [if_neg (fun h => c_9 h.2)]; try rfl) hP hS (lv_sub hl [0, 1, 2, 3] rfl)
                · refine lv_aload_n hx hb dX4_run_123 rfl (lv_at hl 2 rfl) ?_
                  refine lv_iload_n hx hb dX4_run_124 rfl (lv_at hl 0 rfl) ?_
                  refine z_backW0 (z_runV ⟨hx, hb, hml, hown, hT⟩ (rest := []) (As := [.int (nI k)]) (c_X4_matures (MI := M1) (MJ := J1) (XI := XI) (XJ := XJ) l hD0 hI k (mTn M1 k) (hk) (hok1) (ht1) (ht21) _) k_X4_130 (z_preWV hK hP (hP.at (hI.1 0 (by decide)) rfl) rfl) rfl ⟨Nat.le_of_ble_eq_true rfl, Nat.le_of_ble_eq_true rfl⟩ hl.1 rfl (Nat.le_of_ble_eq_true rfl) dX4_run_125 ⟨Nat.le_of_ble_eq_true rfl, Nat.le_of_ble_eq_true rfl⟩) hS (hD.free (fun q hq => hA q (Nat.le_trans hS.1 hq))) (fun H locs hP hz1 hk1 hS => ?_)
                  have hP : zP D Rs ad (gS ks ad np ng G (mMatI np k (mTn M1 k) M1 J1) (mMatJ np k (mTn M1 k) M1 J1) XI XJ) H := hP
                  refine lv_iinc (v := nI (cn + 1)) (lv' := [(2, .int (nI (cn + 1))), (3, .int (nI k)), (0, .ref (ad 0)), (1, .int rt)]) hx hb dX4_run_128 hl (k := 1) rfl (nI_1 cn) (by decide) rfl (fun ls hl => ?_)
                  refine lv_iinc (v := nI (k + 1)) (lv' := [(3, .int (nI (k + 1))), (2, .int (nI (cn + 1))), (0, .ref (ad 0)), (1, .int rt)]) hx hb dX4_run_131 hl (k := 1) rfl (nI_1 k) (by decide) rfl (fun ls hl => ?_)
                  refine lv_goto (tgt := 84) hx hb dX4_run_134 (by decide) ?_
                  have hstep : mMtS np (k + 1) (mCpy 9 8 21 MIa, MJa) = ((mMatI np k (mTn M1 k) M1 J1), (mMatJ np k (mTn M1 k) M1 J1)) := by simp only [mMtS]; rw [← hM, ← hJ]; first | exact if_pos ⟨c_8, c_9⟩ | exact (if_pos ⟨c_8, c_9⟩).trans (Prod.ext hM.symm hJ.symm)
                  exact ih (k + 1) ((mMatI np k (mTn M1 k) M1 J1)) ((mMatJ np k (mTn M1 k) M1 J1)) (cn + 1) H locs _ (by omega) (by rw [hstep]) (by rw [hstep]) (by rw [hc]; simp only [mMtN]; rw [← hM]; rw [if_pos ⟨c_8, c_9⟩]; try rfl) hP hS (lv_sub hl [0, 1, 2, 3] rfl)
        have L1 : ∀ (n k : Nat) (M1 : Nat → Nat → Int32) (H : Heap) (locs : List Loc) (ls : Array Slot), k + n = 21 → M1 = mCpy 9 8 k MIa → zP D Rs ad (gS ks ad np ng G M1 MJa XI XJ) H → va_S (zA Rs ad s.heap.size) s.heap H locs → lv_has ls 4 [(2, .int (nI k)), (0, .ref (ad 0)), (1, .int rt)] → W p l e (zRm 4 (103) 0 0) s m ([.ref (ad 0), .int rt] : List Value).toArray below meth c H locs 0 0 (MQ below (zQW (some (.int (nI (mMtN np np (mS0 MI MJ rt np))))) (zP D Rs ad (gS ks ad np ng G (mRunI MI MJ rt np) (mRunJ MI MJ rt np) XI XJ)) (zA Rs ad s.heap.size)) ([.ref (ad 0), .int rt] : List Value).toArray s 0 0 (zA Rs ad s.heap.size)) (F0 m 56 ls []) := by
          intro n
          induction n with
          | zero =>
            intro k M1 H locs ls hkn hM hP hS hl
            have hk0 : k = 21 := by omega
            refine lv_iload_n hx hb dX4_run_56 rfl (lv_at hl 0 rfl) ?_
            refine lv_bipush (v := 21) hx hb dX4_run_57 (by decide) ?_
            refine lv_icmp_ge (tgt := 80) hx hb dX4_run_59 (by decide) (fun c_10 => ?_) (fun c_10 => ?_)
            · refine lv_iconst (v := 0) hx hb dX4_run_80 (by decide) ?_
              refine lv_istore_n (lv' := [(2, .int 0), (0, .ref (ad 0)), (1, .int rt)]) hx hb dX4_run_81 rfl hl (by decide) rfl (fun ls hl => ?_)
              refine lv_iconst (v := 0) hx hb dX4_run_82 (by decide) ?_
              refine lv_istore_n (lv' := [(3, .int 0), (2, .int 0), (0, .ref (ad 0)), (1, .int rt)]) hx hb dX4_run_83 rfl hl (by decide) rfl (fun ls hl => ?_)
              have eM : M1 = mCpy 9 8 21 MIa := by rw [hM, hk0]
              rw [eM] at hP
              have hl := (show lv_has ls 4 [(3, .int (nI 0)), (2, .int (nI 0)), (0, .ref (ad 0)), (1, .int rt)] from (lv_sub hl [0, 1, 2, 3] rfl))
              exact L2 np 0 (mCpy 9 8 21 MIa) MJa 0 H locs _ (by omega) rfl rfl rfl hP hS hl
            · exact absurd (nI_le (a := 21) (b := k) (by omega) (by omega)) c_10
          | succ n ih =>
            intro k M1 H locs ls hkn hM hP hS hl
            have hk : k < 21 := by omega
            refine lv_iload_n hx hb dX4_run_56 rfl (lv_at hl 0 rfl) ?_
            refine lv_bipush (v := 21) hx hb dX4_run_57 (by decide) ?_
            refine lv_icmp_ge (tgt := 80) hx hb dX4_run_59 (by decide) (fun c_11 => ?_) (fun c_11 => ?_)
            · exact absurd c_11 (nI_ge (a := k) (b := 21) hk (by decide))
            · refine lv_aload_n hx hb dX4_run_62 rfl (lv_at hl 1 rfl) ?_
              refine gf_X4_57 hx hb hT hown hK (hP.at (hI.1 0 (by decide)) rfl) rfl dX4_run_63 ?_
              refine lv_iload_n hx hb dX4_run_66 rfl (lv_at hl 0 rfl) ?_
              refine lv_aload_n hx hb dX4_run_67 rfl (lv_at hl 1 rfl) ?_
              refine gf_X4_54 hx hb hT hown hK (hP.at (hI.1 0 (by decide)) rfl) rfl dX4_run_68 ?_
              refine lv_iload_n hx hb dX4_run_71 rfl (lv_at hl 0 rfl) ?_
              refine z_ialdN hx hb hK (hP.at (hI.1 10 (by decide)) rfl) (hk) (by decide) (v := M1 8 k) (rfl) dX4_run_72 ?_
              refine as_11N hx hb hK hP hD hS (hI.1 11 (by decide)) (v := M1 8 k) (hk) dX4_run_73 (fun H locs hP hS => ?_)
              refine lv_iinc (v := nI (k + 1)) (lv' := [(2, .int (nI (k + 1))), (0, .ref (ad 0)), (1, .int rt)]) hx hb dX4_run_74 hl (k := 0) rfl (nI_1 k) (by decide) rfl (fun ls hl => ?_)
              refine lv_goto (tgt := 56) hx hb dX4_run_77 (by decide) ?_
              exact ih (k + 1) (u2 M1 9 k (M1 8 k)) H locs _ (by omega) (by rw [hM]; rfl) hP hS (lv_sub hl [0, 1, 2] rfl)
        refine lv_iconst (v := 0) hx hb dX4_run_54 (by decide) ?_
        refine lv_istore_n (lv' := [(2, .int 0), (0, .ref (ad 0)), (1, .int rt)]) hx hb dX4_run_55 rfl hl (by decide) rfl (fun ls hl => ?_)
        have hl := (show lv_has ls 4 [(2, .int (nI 0)), (0, .ref (ad 0)), (1, .int rt)] from (lv_sub hl [0, 1, 2] rfl))
        exact L1 21 0 MIa H locs _ (by omega) rfl hP hS hl
      · exact absurd c_3 (by decide)
    · exact absurd c_2 hy
  · exact absurd ((h0).symm.trans c_1) (by decide)
set_option maxHeartbeats 4000000 in
set_option maxRecDepth 100000 in
theorem c_X4_run_bad (l : Launch) (hD0 : zD (fun _ => True) Rs ad) (hI : zIn Rs np ng) (rt : Int32) (h0 : fIn rt (-200) 200 = 0) (sz : Nat) : zMW l yX4_run cX4_run 4 ((some .int)) 1 (22) 0 0 D ks sz [.ref (ad 0), .int rt] (zP D Rs ad (gS ks ad np ng G MI MJ XI XJ)) (some (.int (0))) (zP D Rs ad (gS ks ad np ng G (u2 MI 0 7 1) MJ XI XJ)) (zA Rs ad sz) := by
  refine zMW.of (by decide +kernel) (Nat.le_of_ble_eq_true rfl) ?_
  intro p e s m below meth c ls hx hb hr hml hown hlk hT hsz hP hK hl hin
  have hl : lv_has ls 4 [(0, .ref (ad 0)), (1, .int rt)] := hl
  subst hsz
  have hD := hD0.self (sz := s.heap.size)
  have hA : ∀ q : Nat, s.heap.size ≤ q → zA Rs ad s.heap.size q := fun q h => Or.inr h
  have hS : va_S (zA Rs ad s.heap.size) s.heap s.heap [] := va_S.rf
  refine lv_aload_n hx hb dX4_run_0 rfl (lv_at hl 0 rfl) ?_
  refine lv_iload_n hx hb dX4_run_1 rfl (lv_at hl 1 rfl) ?_
  refine lv_sipush (v := (-200)) hx hb dX4_run_2 (by decide) ?_
  refine lv_sipush (v := 200) hx hb dX4_run_5 (by decide) ?_
  refine z_backR1 (z_runS ⟨hx, hb, hml, hown, hT⟩ (rest := [.ref (ad 0)]) (As := [.int rt, .int (-200), .int 200]) (c_X4_in l D ks rt (-200) 200 ) k_X4_66 (z_preR hK trivial) rfl ⟨Nat.le_of_ble_eq_true rfl, Nat.le_of_ble_eq_true rfl⟩ hl.1 rfl (Nat.le_of_ble_eq_true rfl) dX4_run_8 ⟨Nat.le_of_ble_eq_true rfl, Nat.le_of_ble_eq_true rfl⟩) ?_
  refine lv_if_ne (tgt := 18) hx hb dX4_run_11 (by decide) (fun c_1 => ?_) (fun c_1 => ?_)
  · exact absurd (h0) c_1
  · refine lv_iconst (v := 1) hx hb dX4_run_14 (by decide) ?_
    refine lv_goto (tgt := 32) hx hb dX4_run_15 (by decide) ?_
    refine pf_X4_60 hx hb hT hown hK hP hD hS (hI.1 0 (by decide)) (v := 1) dX4_run_32 (fun H locs hP hS => ?_)
    refine lv_aload_n hx hb dX4_run_35 rfl (lv_at hl 0 rfl) ?_
    refine gf_X4_60 hx hb hT hown hK (v := .int 1) (hP.at (hI.1 0 (by decide)) rfl) rfl dX4_run_36 ?_
    refine lv_if_le (tgt := 44) hx hb dX4_run_39 (by decide) (fun c_2 => ?_) (fun c_2 => ?_)
    · exact absurd c_2 (by decide)
    · refine lv_iconst (v := 0) hx hb dX4_run_42 (by decide) ?_
      exact zW_i hx hb hr hlk hS (Nat.le_of_ble_eq_true rfl) (Nat.le_of_ble_eq_true rfl) dX4_run_43 (rfl) (hP)
set_option maxHeartbeats 4000000 in
set_option maxRecDepth 100000 in
theorem c_X4_run_late (l : Launch) (hD0 : zD (fun _ => True) Rs ad) (hI : zIn Rs np ng) (rt : Int32) (h0 : fIn rt (-200) 200 = 1) (hy : MI 0 0 = 40) (sz : Nat) : zMW l yX4_run cX4_run 4 ((some .int)) 1 (22) 0 0 D ks sz [.ref (ad 0), .int rt] (zP D Rs ad (gS ks ad np ng G MI MJ XI XJ)) (some (.int (0))) (zP D Rs ad (gS ks ad np ng G (u2 MI 0 7 2) MJ XI XJ)) (zA Rs ad sz) := by
  refine zMW.of (by decide +kernel) (Nat.le_of_ble_eq_true rfl) ?_
  intro p e s m below meth c ls hx hb hr hml hown hlk hT hsz hP hK hl hin
  have hl : lv_has ls 4 [(0, .ref (ad 0)), (1, .int rt)] := hl
  subst hsz
  have hD := hD0.self (sz := s.heap.size)
  have hA : ∀ q : Nat, s.heap.size ≤ q → zA Rs ad s.heap.size q := fun q h => Or.inr h
  have hS : va_S (zA Rs ad s.heap.size) s.heap s.heap [] := va_S.rf
  refine lv_aload_n hx hb dX4_run_0 rfl (lv_at hl 0 rfl) ?_
  refine lv_iload_n hx hb dX4_run_1 rfl (lv_at hl 1 rfl) ?_
  refine lv_sipush (v := (-200)) hx hb dX4_run_2 (by decide) ?_
  refine lv_sipush (v := 200) hx hb dX4_run_5 (by decide) ?_
  refine z_backR1 (z_runS ⟨hx, hb, hml, hown, hT⟩ (rest := [.ref (ad 0)]) (As := [.int rt, .int (-200), .int 200]) (c_X4_in l D ks rt (-200) 200 ) k_X4_66 (z_preR hK trivial) rfl ⟨Nat.le_of_ble_eq_true rfl, Nat.le_of_ble_eq_true rfl⟩ hl.1 rfl (Nat.le_of_ble_eq_true rfl) dX4_run_8 ⟨Nat.le_of_ble_eq_true rfl, Nat.le_of_ble_eq_true rfl⟩) ?_
  refine lv_if_ne (tgt := 18) hx hb dX4_run_11 (by decide) (fun c_1 => ?_) (fun c_1 => ?_)
  · refine lv_aload_n hx hb dX4_run_18 rfl (lv_at hl 0 rfl) ?_
    refine gf_X4_92 hx hb hT hown hK (hP.at (hI.1 0 (by decide)) rfl) rfl dX4_run_19 ?_
    refine lv_bipush (v := 40) hx hb dX4_run_22 (by decide) ?_
    refine lv_icmp_ne (tgt := 31) hx hb dX4_run_24 (by decide) (fun c_2 => ?_) (fun c_2 => ?_)
    · exact absurd (hy) c_2
    · refine lv_iconst (v := 2) hx hb dX4_run_27 (by decide) ?_
      refine lv_goto (tgt := 32) hx hb dX4_run_28 (by decide) ?_
      refine pf_X4_60 hx hb hT hown hK hP hD hS (hI.1 0 (by decide)) (v := 2) dX4_run_32 (fun H locs hP hS => ?_)
      refine lv_aload_n hx hb dX4_run_35 rfl (lv_at hl 0 rfl) ?_
      refine gf_X4_60 hx hb hT hown hK (v := .int 2) (hP.at (hI.1 0 (by decide)) rfl) rfl dX4_run_36 ?_
      refine lv_if_le (tgt := 44) hx hb dX4_run_39 (by decide) (fun c_3 => ?_) (fun c_3 => ?_)
      · exact absurd c_3 (by decide)
      · refine lv_iconst (v := 0) hx hb dX4_run_42 (by decide) ?_
        exact zW_i hx hb hr hlk hS (Nat.le_of_ble_eq_true rfl) (Nat.le_of_ble_eq_true rfl) dX4_run_43 (rfl) (hP)
  · exact absurd ((h0).symm.trans c_1) (by decide)
set_option maxHeartbeats 4000000 in
set_option maxRecDepth 100000 in
theorem c_X4_sharesAndEstate (l : Launch) (hD0 : zD (fun _ => True) Rs ad) (hI : zIn Rs np ng) (hok : mOK MI np) (sz : Nat) : zMW l yX4_sharesAndEstate cX4_sharesAndEstate 4 ((some .long)) 0 (0) 0 0 D ks sz [.ref (ad 0)] (zP D Rs ad (gS ks ad np ng G MI MJ XI XJ)) (some (.long (mSh MJ np))) (zP D Rs ad (gS ks ad np ng G (u2 MI 0 7 0) MJ XI XJ)) (zA Rs ad sz) := by
  refine zMW.of (by decide +kernel) (Nat.le_of_ble_eq_true rfl) ?_
  intro p e s m below meth c ls hx hb hr hml hown hlk hT hsz hP hK hl hin
  have hl : lv_has ls 4 [(0, .ref (ad 0))] := hl
  subst hsz
  have hD := hD0.self (sz := s.heap.size)
  have hA : ∀ q : Nat, s.heap.size ≤ q → zA Rs ad s.heap.size q := fun q h => Or.inr h
  have hS : va_S (zA Rs ad s.heap.size) s.heap s.heap [] := va_S.rf
  have hN30 : np ≤ 30 := hok.2.1
  refine lv_aload_n hx hb dX4_sharesAndEstate_0 rfl (lv_at hl 0 rfl) ?_
  refine lv_iconst (v := 0) hx hb dX4_sharesAndEstate_1 (by decide) ?_
  refine pf_X4_60 hx hb hT hown hK hP hD hS (hI.1 0 (by decide)) (v := 0) dX4_sharesAndEstate_2 (fun H locs hP hS => ?_)
  have L : ∀ (n k : Nat) (f : Int64) (ls : Array Slot), k + n = np → f = mSh MJ k → lv_has ls 4 [(3, .int (nI k)), (1, .long f), (0, .ref (ad 0))] → W p l e (zRm 0 (0) 0 0) s m ([.ref (ad 0)] : List Value).toArray below meth c H locs 0 0 (MQ below (zQW (some (.long (mSh MJ np))) (zP D Rs ad (gS ks ad np ng G (u2 MI 0 7 0) MJ XI XJ)) (zA Rs ad s.heap.size)) ([.ref (ad 0)] : List Value).toArray s 0 0 (zA Rs ad s.heap.size)) (F0 m 12 ls []) := by
    intro n
    induction n with
    | zero =>
      intro k f ls hkn hf hl
      have hk0 : k = np := by omega
      refine lv_iload_n hx hb dX4_sharesAndEstate_12 rfl (lv_at hl 0 rfl) ?_
      refine lv_aload_n hx hb dX4_sharesAndEstate_13 rfl (lv_at hl 2 rfl) ?_
      refine gf_X4_63 hx hb hT hown hK (v := .int (MI 0 6)) (hP.at (hI.1 0 (by decide)) rfl) rfl dX4_sharesAndEstate_14 ?_
      rw [show MI 0 6 = nI np from hok.1]
      refine lv_icmp_ge (tgt := 35) hx hb dX4_sharesAndEstate_17 (by decide) (fun c_1 => ?_) (fun c_1 => ?_)
      · refine lv_lload_n hx hb dX4_sharesAndEstate_35 rfl (lv_at hl 1 rfl) ?_
        exact zW_l hx hb hr hlk hS (Nat.le_of_ble_eq_true rfl) (Nat.le_of_ble_eq_true rfl) dX4_sharesAndEstate_36 (by rw [hf, hk0]) (hP)
      · exact absurd (nI_le (by omega) (by omega)) c_1
    | succ n ih =>
      intro k f ls hkn hf hl
      have hk : k < np := by omega
      refine lv_iload_n hx hb dX4_sharesAndEstate_12 rfl (lv_at hl 0 rfl) ?_
      refine lv_aload_n hx hb dX4_sharesAndEstate_13 rfl (lv_at hl 2 rfl) ?_
      refine gf_X4_63 hx hb hT hown hK (v := .int (MI 0 6)) (hP.at (hI.1 0 (by decide)) rfl) rfl dX4_sharesAndEstate_14 ?_
      rw [show MI 0 6 = nI np from hok.1]
      refine lv_icmp_ge (tgt := 35) hx hb dX4_sharesAndEstate_17 (by decide) (fun c_2 => ?_) (fun c_2 => ?_)
      · exact absurd c_2 (nI_ge hk (by omega))
      · refine lv_lload_n hx hb dX4_sharesAndEstate_20 rfl (lv_at hl 1 rfl) ?_
        refine lv_aload_n hx hb dX4_sharesAndEstate_21 rfl (lv_at hl 2 rfl) ?_
        refine gf_X4_51 hx hb hT hown hK (v := .ref (ad 9)) (hP.at (hI.1 0 (by decide)) rfl) rfl dX4_sharesAndEstate_22 ?_
        refine lv_iload_n hx hb dX4_sharesAndEstate_25 rfl (lv_at hl 0 rfl) ?_
        refine z_laldN hx hb hK (hP.at (hI.1 9 (by decide)) rfl) (Nat.lt_of_lt_of_le hk hok.2.1) (by decide) (v := MJ 2 k) (rfl) dX4_sharesAndEstate_26 ?_
        refine lv_ladd hx hb dX4_sharesAndEstate_27 ?_
        refine lv_lstore_n (lv' := [(1, .long (f + (MJ 2 k))), (3, .int (nI k)), (0, .ref (ad 0))]) hx hb dX4_sharesAndEstate_28 rfl hl (by decide) rfl (fun ls hl => ?_)
        refine lv_iinc (v := nI (k + 1)) (lv' := [(3, .int (nI (k + 1))), (1, .long (f + (MJ 2 k))), (0, .ref (ad 0))]) hx hb dX4_sharesAndEstate_29 hl (k := 1) rfl (nI_1 k) (by decide) rfl (fun ls hl => ?_)
        refine lv_goto (tgt := 12) hx hb dX4_sharesAndEstate_32 (by decide) ?_
        exact ih (k + 1) (f + (MJ 2 k)) _ (by omega) (by rw [hf]; rfl) (lv_sub hl [0, 1, 2] rfl)
  refine lv_aload_n hx hb dX4_sharesAndEstate_5 rfl (lv_at hl 0 rfl) ?_
  refine gf_X4_84 hx hb hT hown hK (v := .long (MJ 0 0)) (hP.at (hI.1 0 (by decide)) rfl) rfl dX4_sharesAndEstate_6 ?_
  refine lv_lstore_n (lv' := [(1, .long (MJ 0 0)), (0, .ref (ad 0))]) hx hb dX4_sharesAndEstate_9 rfl hl (by decide) rfl (fun ls hl => ?_)
  refine lv_iconst (v := 0) hx hb dX4_sharesAndEstate_10 (by decide) ?_
  refine lv_istore_n (lv' := [(3, .int 0), (1, .long (MJ 0 0)), (0, .ref (ad 0))]) hx hb dX4_sharesAndEstate_11 rfl hl (by decide) rfl (fun ls hl => ?_)
  have hl := (show lv_has ls 4 [(3, .int (nI 0)), (1, .long (MJ 0 0)), (0, .ref (ad 0))] from (lv_sub hl [0, 1, 2] rfl))
  exact L np 0 _ _ (by omega) rfl hl
set_option maxHeartbeats 4000000 in
set_option maxRecDepth 100000 in
theorem c_X4_shortfall (l : Launch) (hD0 : zD (fun _ => True) Rs ad) (hI : zIn Rs np ng) (hok : mOK MI np) (sz : Nat) : zMW l yX4_shortfall cX4_shortfall 6 ((some .int)) 3 (66) 0 0 D ks sz [.ref (ad 0)] (zP D Rs ad (gS ks ad np ng G MI MJ XI XJ)) (some (.int (Int64.toInt32 (mSf MI MJ np np)))) (zP D Rs ad (gS ks ad np ng G (u2 MI 0 7 0) MJ XI XJ)) (zA Rs ad sz) := by
  refine zMW.of (by decide +kernel) (Nat.le_of_ble_eq_true rfl) ?_
  intro p e s m below meth c ls hx hb hr hml hown hlk hT hsz hP hK hl hin
  have hl : lv_has ls 6 [(0, .ref (ad 0))] := hl
  subst hsz
  have hD := hD0.self (sz := s.heap.size)
  have hA : ∀ q : Nat, s.heap.size ≤ q → zA Rs ad s.heap.size q := fun q h => Or.inr h
  have hS : va_S (zA Rs ad s.heap.size) s.heap s.heap [] := va_S.rf
  have hN30 : np ≤ 30 := hok.2.1
  refine lv_aload_n hx hb dX4_shortfall_0 rfl (lv_at hl 0 rfl) ?_
  refine lv_iconst (v := 0) hx hb dX4_shortfall_1 (by decide) ?_
  refine pf_X4_60 hx hb hT hown hK hP hD hS (hI.1 0 (by decide)) (v := 0) dX4_shortfall_2 (fun H locs hP hS => ?_)
  have L : ∀ (n k : Nat) (f : Int64) (ls : Array Slot), k + n = np → f = mSf MI MJ np k → lv_has ls 6 [(3, .int (nI k)), (1, .long f), (0, .ref (ad 0))] → W p l e (zRm 3 (66) 0 0) s m ([.ref (ad 0)] : List Value).toArray below meth c H locs 0 0 (MQ below (zQW (some (.int (Int64.toInt32 (mSf MI MJ np np)))) (zP D Rs ad (gS ks ad np ng G (u2 MI 0 7 0) MJ XI XJ)) (zA Rs ad s.heap.size)) ([.ref (ad 0)] : List Value).toArray s 0 0 (zA Rs ad s.heap.size)) (F0 m 9 ls []) := by
    intro n
    induction n with
    | zero =>
      intro k f ls hkn hf hl
      have hk0 : k = np := by omega
      refine lv_iload_n hx hb dX4_shortfall_9 rfl (lv_at hl 0 rfl) ?_
      refine lv_aload_n hx hb dX4_shortfall_10 rfl (lv_at hl 2 rfl) ?_
      refine gf_X4_63 hx hb hT hown hK (v := .int (MI 0 6)) (hP.at (hI.1 0 (by decide)) rfl) rfl dX4_shortfall_11 ?_
      rw [show MI 0 6 = nI np from hok.1]
      refine lv_icmp_ge (tgt := 74) hx hb dX4_shortfall_14 (by decide) (fun c_1 => ?_) (fun c_1 => ?_)
      · refine lv_lload_n hx hb dX4_shortfall_74 rfl (lv_at hl 1 rfl) ?_
        refine lv_l2i hx hb dX4_shortfall_75 rfl ?_
        exact zW_i hx hb hr hlk hS (Nat.le_of_ble_eq_true rfl) (Nat.le_of_ble_eq_true rfl) dX4_shortfall_76 (by rw [hf, hk0]) (hP)
      · exact absurd (nI_le (by omega) (by omega)) c_1
    | succ n ih =>
      intro k f ls hkn hf hl
      have hk : k < np := by omega
      refine lv_iload_n hx hb dX4_shortfall_9 rfl (lv_at hl 0 rfl) ?_
      refine lv_aload_n hx hb dX4_shortfall_10 rfl (lv_at hl 2 rfl) ?_
      refine gf_X4_63 hx hb hT hown hK (v := .int (MI 0 6)) (hP.at (hI.1 0 (by decide)) rfl) rfl dX4_shortfall_11 ?_
      rw [show MI 0 6 = nI np from hok.1]
      refine lv_icmp_ge (tgt := 74) hx hb dX4_shortfall_14 (by decide) (fun c_2 => ?_) (fun c_2 => ?_)
      · exact absurd c_2 (nI_ge hk (by omega))
      · refine lv_aload_n hx hb dX4_shortfall_17 rfl (lv_at hl 2 rfl) ?_
        refine gf_X4_38 hx hb hT hown hK (v := .ref (ad 5)) (hP.at (hI.1 0 (by decide)) rfl) rfl dX4_shortfall_18 ?_
        refine lv_iload_n hx hb dX4_shortfall_21 rfl (lv_at hl 0 rfl) ?_
        refine z_ialdN hx hb hK (hP.at (hI.1 5 (by decide)) rfl) (Nat.lt_of_lt_of_le hk hok.2.1) (by decide) (v := MI 5 k) (rfl) dX4_shortfall_22 ?_
        refine lv_if_ne (tgt := 49) hx hb dX4_shortfall_23 (by decide) (fun c_3 => ?_) (fun c_3 => ?_)
        · refine lv_lconst (v := 0) hx hb dX4_shortfall_49 (by decide) ?_
          refine lv_lstore (lv' := [(4, .long 0), (3, .int (nI k)), (1, .long f), (0, .ref (ad 0))]) hx hb dX4_shortfall_50 hl (by decide) rfl (fun ls hl => ?_)
          refine lv_lload_n hx hb dX4_shortfall_52 rfl (lv_at hl 2 rfl) ?_
          refine lv_lload hx hb dX4_shortfall_53 (lv_at hl 0 rfl) ?_
          refine lv_lconst (v := 0) hx hb dX4_shortfall_55 (by decide) ?_
          refine z_lcmp_le (tgt := 65) hx hb dX4_shortfall_56 dX4_shortfall_57 (by decide) (fun c_4 => ?_) (fun c_4 => ?_)
          · refine lv_lconst (v := 0) hx hb dX4_shortfall_65 (by decide) ?_
            refine lv_ladd hx hb dX4_shortfall_66 ?_
            refine lv_lstore_n (lv' := [(1, .long (f + 0)), (4, .long 0), (3, .int (nI k)), (0, .ref (ad 0))]) hx hb dX4_shortfall_67 rfl hl (by decide) rfl (fun ls hl => ?_)
            refine lv_iinc (v := nI (k + 1)) (lv' := [(3, .int (nI (k + 1))), (1, .long (f + 0)), (4, .long 0), (0, .ref (ad 0))]) hx hb dX4_shortfall_68 hl (k := 2) rfl (nI_1 k) (by decide) rfl (fun ls hl => ?_)
            refine lv_goto (tgt := 9) hx hb dX4_shortfall_71 (by decide) ?_
            exact ih (k + 1) (f + 0) _ (by omega) (by simp only [mSf]; rw [hf, show mSf1 MI MJ np k = _ from if_neg c_3]; rw [if_neg c_4]) (lv_sub hl [0, 1, 3] rfl)
          · refine lv_lload hx hb dX4_shortfall_60 (lv_at hl 0 rfl) ?_
            refine lv_goto (tgt := 66) hx hb dX4_shortfall_62 (by decide) ?_
            refine lv_ladd hx hb dX4_shortfall_66 ?_
            refine lv_lstore_n (lv' := [(1, .long (f + 0)), (4, .long 0), (3, .int (nI k)), (0, .ref (ad 0))]) hx hb dX4_shortfall_67 rfl hl (by decide) rfl (fun ls hl => ?_)
            refine lv_iinc (v := nI (k + 1)) (lv' := [(3, .int (nI (k + 1))), (1, .long (f + 0)), (4, .long 0), (0, .ref (ad 0))]) hx hb dX4_shortfall_68 hl (k := 2) rfl (nI_1 k) (by decide) rfl (fun ls hl => ?_)
            refine lv_goto (tgt := 9) hx hb dX4_shortfall_71 (by decide) ?_
            exact ih (k + 1) (f + 0) _ (by omega) (by simp only [mSf]; rw [hf, show mSf1 MI MJ np k = _ from if_neg c_3]; rw [if_pos c_4]) (lv_sub hl [0, 1, 3] rfl)
        · refine lv_aload_n hx hb dX4_shortfall_26 rfl (lv_at hl 2 rfl) ?_
          refine gf_X4_35 hx hb hT hown hK (v := .ref (ad 4)) (hP.at (hI.1 0 (by decide)) rfl) rfl dX4_shortfall_27 ?_
          refine lv_iload_n hx hb dX4_shortfall_30 rfl (lv_at hl 0 rfl) ?_
          refine z_ialdN hx hb hK (hP.at (hI.1 4 (by decide)) rfl) (Nat.lt_of_lt_of_le hk hok.2.1) (by decide) (v := MI 4 k) (rfl) dX4_shortfall_31 ?_
          refine lv_aload_n hx hb dX4_shortfall_32 rfl (lv_at hl 2 rfl) ?_
          refine gf_X4_41 hx hb hT hown hK (v := .ref (ad 6)) (hP.at (hI.1 0 (by decide)) rfl) rfl dX4_shortfall_33 ?_
          refine lv_iload_n hx hb dX4_shortfall_36 rfl (lv_at hl 0 rfl) ?_
          refine z_ialdN hx hb hK (hP.at (hI.1 6 (by decide)) rfl) (Nat.lt_of_lt_of_le hk hok.2.1) (by decide) (v := MI 6 k) (rfl) dX4_shortfall_37 ?_
          refine lv_iadd hx hb dX4_shortfall_38 ?_
          refine lv_i2l hx hb dX4_shortfall_39 rfl ?_
          refine lv_aload_n hx hb dX4_shortfall_40 rfl (lv_at hl 2 rfl) ?_
          refine lv_iload_n hx hb dX4_shortfall_41 rfl (lv_at hl 0 rfl) ?_
          refine z_backR1 (z_runV ⟨hx, hb, hml, hown, hT⟩ (rest := [.long (Int32.toInt64 ((MI 4 k) + (MI 6 k)))]) (As := [.int (nI k)]) (c_X4_share (MI := u2 MI 0 7 0) (MJ := MJ) (XI := XI) (XJ := XJ) l hI k (hk) (hok.1) (hok.2.1) (hok.hd hk)) k_X4_95 (z_preRV hK hP (hP.at (hI.1 0 (by decide)) rfl) rfl) rfl ⟨Nat.le_of_ble_eq_true rfl, Nat.le_of_ble_eq_true rfl⟩ hl.1 rfl (Nat.le_of_ble_eq_true rfl) dX4_shortfall_42 ⟨Nat.le_of_ble_eq_true rfl, Nat.le_of_ble_eq_true rfl⟩) ?_
          refine lv_lsub hx hb dX4_shortfall_45 ?_
          refine lv_goto (tgt := 50) hx hb dX4_shortfall_46 (by decide) ?_
          refine lv_topl (fun v5 ev5 => ?_)
          refine lv_lstore (lv' := [(4, .long v5), (3, .int (nI k)), (1, .long f), (0, .ref (ad 0))]) hx hb dX4_shortfall_50 hl (by decide) rfl (fun ls hl => ?_)
          refine lv_lload_n hx hb dX4_shortfall_52 rfl (lv_at hl 2 rfl) ?_
          refine lv_lload hx hb dX4_shortfall_53 (lv_at hl 0 rfl) ?_
          refine lv_lconst (v := 0) hx hb dX4_shortfall_55 (by decide) ?_
          refine z_lcmp_le (tgt := 65) hx hb dX4_shortfall_56 dX4_shortfall_57 (by decide) (fun c_6 => ?_) (fun c_6 => ?_)
          · refine lv_lconst (v := 0) hx hb dX4_shortfall_65 (by decide) ?_
            refine lv_ladd hx hb dX4_shortfall_66 ?_
            refine lv_lstore_n (lv' := [(1, .long (f + 0)), (4, .long v5), (3, .int (nI k)), (0, .ref (ad 0))]) hx hb dX4_shortfall_67 rfl hl (by decide) rfl (fun ls hl => ?_)
            refine lv_iinc (v := nI (k + 1)) (lv' := [(3, .int (nI (k + 1))), (1, .long (f + 0)), (4, .long v5), (0, .ref (ad 0))]) hx hb dX4_shortfall_68 hl (k := 2) rfl (nI_1 k) (by decide) rfl (fun ls hl => ?_)
            refine lv_goto (tgt := 9) hx hb dX4_shortfall_71 (by decide) ?_
            exact ih (k + 1) (f + 0) _ (by omega) (by subst ev5; simp only [mSf]; rw [hf, show mSf1 MI MJ np k = (Int32.toInt64 ((MI 4 k) + (MI 6 k))) - (mShare (u2 MI 0 7 0) MJ np k) from if_pos c_3]; rw [if_neg c_6]) (lv_sub hl [0, 1, 3] rfl)
          · refine lv_lload hx hb dX4_shortfall_60 (lv_at hl 0 rfl) ?_
            refine lv_goto (tgt := 66) hx hb dX4_shortfall_62 (by decide) ?_
            refine lv_ladd hx hb dX4_shortfall_66 ?_
            refine lv_lstore_n (lv' := [(1, .long (f + v5)), (4, .long v5), (3, .int (nI k)), (0, .ref (ad 0))]) hx hb dX4_shortfall_67 rfl hl (by decide) rfl (fun ls hl => ?_)
            refine lv_iinc (v := nI (k + 1)) (lv' := [(3, .int (nI (k + 1))), (1, .long (f + v5)), (4, .long v5), (0, .ref (ad 0))]) hx hb dX4_shortfall_68 hl (k := 2) rfl (nI_1 k) (by decide) rfl (fun ls hl => ?_)
            refine lv_goto (tgt := 9) hx hb dX4_shortfall_71 (by decide) ?_
            exact ih (k + 1) (f + v5) _ (by omega) (by subst ev5; simp only [mSf]; rw [hf, show mSf1 MI MJ np k = (Int32.toInt64 ((MI 4 k) + (MI 6 k))) - (mShare (u2 MI 0 7 0) MJ np k) from if_pos c_3]; rw [if_pos c_6]) (lv_sub hl [0, 1, 3] rfl)
  refine lv_lconst (v := 0) hx hb dX4_shortfall_5 (by decide) ?_
  refine lv_lstore_n (lv' := [(1, .long 0), (0, .ref (ad 0))]) hx hb dX4_shortfall_6 rfl hl (by decide) rfl (fun ls hl => ?_)
  refine lv_iconst (v := 0) hx hb dX4_shortfall_7 (by decide) ?_
  refine lv_istore_n (lv' := [(3, .int 0), (1, .long 0), (0, .ref (ad 0))]) hx hb dX4_shortfall_8 rfl hl (by decide) rfl (fun ls hl => ?_)
  have hl := (show lv_has ls 6 [(3, .int (nI 0)), (1, .long (0)), (0, .ref (ad 0))] from (lv_sub hl [0, 1, 2] rfl))
  exact L np 0 _ _ (by omega) rfl hl
end ZM4
