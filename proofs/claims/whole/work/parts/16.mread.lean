/-! the reference: what is read; the office: searching -/
section ZM1
variable {D : va_G} {ks : Nat → ClassId} {ad : Nat → Nat} {np ng : Nat} {G : Nat → Nat} {MI : Nat → Nat → Int32} {MJ : Nat → Nat → Int64} {XI : Nat → Nat → Int32} {XJ : Nat → Nat → Int64} {Rs : List Nat}
def mF (b t : Nat → Int32) (y te : Int32) : Nat → Int32 → Int32
  | 0, f => f
  | k + 1, f => mF b t y te k (if b k = y ∧ t k = te then nI k else f)
def hF (b t : Nat → Int32) (y te : Int32) : Nat → Nat → Nat
  | 0, f => f
  | k + 1, f => hF b t y te k (if b k = y ∧ t k = te then k else f)
def mP (b t st pr : Nat → Int32) (y te : Int32) : Nat → Int64
  | 0 => 0
  | k + 1 => mP b t st pr y te k + (if b k = y ∧ t k = te ∧ st k = 0 then Int32.toInt64 (pr k) else 0)
def hm (MI : Nat → Nat → Int32) (np j : Nat) : Nat := hF (MI 1) (MI 2) (MI 1 j) (MI 2 j) np 0
def mPr (MI : Nat → Nat → Int32) (np j : Nat) : Int64 := mP (MI 1) (MI 2) (MI 5) (MI 3) (MI 1 j) (MI 2 j) np
theorem mF_nI {b t : Nat → Int32} {y te : Int32} : ∀ (n d : Nat), mF b t y te n (nI d) = nI (hF b t y te n d) := by
  intro n
  induction n with
  | zero => intro d; rfl
  | succ n ih =>
    intro d
    simp only [mF, hF]
    split
    · exact ih n
    · exact ih d
theorem mF_hF {b t : Nat → Int32} {y te : Int32} : ∀ (n : Nat) (f : Int32) (d j : Nat), j < n → b j = y → t j = te → mF b t y te n f = nI (hF b t y te n d) ∧ hF b t y te n d ≤ j := by
  intro n
  induction n with
  | zero => intro f d j h; exact absurd h (Nat.not_lt_zero _)
  | succ n ih =>
    intro f d j h hb ht
    simp only [mF, hF]
    by_cases hj : j < n
    · split
      · exact ih (nI n) n j hj hb ht
      · exact ih f d j hj hb ht
    · have e : j = n := by omega
      subst e
      rw [if_pos ⟨hb, ht⟩, if_pos ⟨hb, ht⟩]
      refine ⟨mF_nI j j, ?_⟩
      have key : ∀ (m d : Nat), m ≤ d → hF b t y te m d ≤ d := by
        intro m
        induction m with
        | zero => intro d _; exact Nat.le_refl _
        | succ m ihm =>
          intro d hd
          simp only [hF]
          split
          · exact Nat.le_trans (ihm m (Nat.le_refl _)) (by omega)
          · exact ihm d (by omega)
      exact key j j (Nat.le_refl _)
theorem hm_eq {MI : Nat → Nat → Int32} {np j : Nat} (hj : j < np) (f : Int32) : mF (MI 1) (MI 2) (MI 1 j) (MI 2 j) np f = nI (hm MI np j) := (mF_hF np f 0 j hj rfl rfl).1
theorem hm_le {MI : Nat → Nat → Int32} {np j : Nat} (hj : j < np) : hm MI np j ≤ j := (mF_hF (b := MI 1) (t := MI 2) np 0 0 j hj rfl rfl).2
def mShare (MI : Nat → Nat → Int32) (MJ : Nat → Nat → Int64) (np j : Nat) : Int64 := if MI 5 j = 0 then MJ 2 (hm MI np j) * Int32.toInt64 (MI 3 j) / mPr MI np j else 0
def fMore (x y : Int64) : Int64 := if y < x then x else y
def mWorth (MI : Nat → Nat → Int32) (MJ : Nat → Nat → Int64) (np j : Nat) : Int64 := fMore (fPart (mShare MI MJ np j) (600 + 400 * Int32.toInt64 (MI 0 0 - MI 1 j) / Int32.toInt64 (MI 2 j))) (fPart (Int32.toInt64 (MI 0 0 - MI 1 j) * Int32.toInt64 (MI 3 j)) (Int32.toInt64 (MI 0 5)))
/-- the first of the generations from k on that is of the year and the term -/
def xF (b t : Nat → Int32) (y te : Int32) : Nat → Nat → Option Nat
  | 0, _ => none
  | n + 1, k => if b k = y ∧ t k = te then some k else xF b t y te n (k + 1)
set_option maxHeartbeats 4000000 in
set_option maxRecDepth 100000 in
theorem c_X4_firstOf (l : Launch) (hI : zIn Rs np ng) (y : Int32) (te : Int32) (hnp : MI 0 6 = nI np) (hN : np ≤ 30) : zMR l yX4_firstOf cX4_firstOf 5 ((some .int)) 0 (0) D ks [.ref (ad 0), .int y, .int te] (zP D Rs ad (gS ks ad np ng G MI MJ XI XJ)) (some (.int (mF (MI 1) (MI 2) y te np (-1)))) := by
  refine zMR.of (by decide +kernel) (Nat.le_of_ble_eq_true rfl) ?_
  intro p e s m below meth c ls hx hb hr hml hown hlk hT hP hK hl
  have hl : lv_has ls 5 [(0, .ref (ad 0)), (1, .int y), (2, .int te)] := hl
  have L : ∀ (k : Nat) (f : Int32) (ls : Array Slot), k ≤ np → mF (MI 1) (MI 2) y te k f = mF (MI 1) (MI 2) y te np (-1) → lv_has ls 5 [(4, .int (nI k - 1)), (3, .int f), (0, .ref (ad 0)), (1, .int y), (2, .int te)] → W p l e (zRm 0 (0) 0 0) s m ([.ref (ad 0), .int y, .int te] : List Value).toArray below meth c s.heap [] 0 0 (MQ below (zQR (some (.int (mF (MI 1) (MI 2) y te np (-1))))) ([.ref (ad 0), .int y, .int te] : List Value).toArray s 0 0 (fun _ => False)) (F0 m 10 ls []) := by
    intro k
    induction k with
    | zero =>
      intro f ls _ hv hl
      refine lv_iload hx hb dX4_firstOf_10 (lv_at hl 0 rfl) ?_
      refine lv_if_lt (tgt := 50) hx hb dX4_firstOf_12 (by decide) (fun c_1 => ?_) (fun c_1 => ?_)
      · refine lv_iload_n hx hb dX4_firstOf_50 rfl (lv_at hl 1 rfl) ?_
        exact zR_i hx hb hr hlk dX4_firstOf_51 (hv)
      · exact absurd (by decide) c_1
    | succ k ih =>
      intro f ls hk hv hl
      have e1 : nI (k + 1) - 1 = nI k := nI_pred k
      rw [e1] at hl
      refine lv_iload hx hb dX4_firstOf_10 (lv_at hl 0 rfl) ?_
      refine lv_if_lt (tgt := 50) hx hb dX4_firstOf_12 (by decide) (fun c_2 => ?_) (fun c_2 => ?_)
      · exact absurd c_2 (nI_pos (by omega))
      · refine lv_aload_n hx hb dX4_firstOf_15 rfl (lv_at hl 2 rfl) ?_
        refine gf_X4_25 hx hb hT hown hK (hP.at (hI.1 0 (by decide)) rfl) rfl dX4_firstOf_16 ?_
        refine lv_iload hx hb dX4_firstOf_19 (lv_at hl 0 rfl) ?_
        refine z_ialdN hx hb hK (hP.at (hI.1 1 (by decide)) rfl) (by omega) (by decide) (v := MI 1 k) (rfl) dX4_firstOf_21 ?_
        refine lv_iload_n hx hb dX4_firstOf_22 rfl (lv_at hl 3 rfl) ?_
        refine lv_icmp_ne (tgt := 42) hx hb dX4_firstOf_23 (by decide) (fun c_3 => ?_) (fun c_3 => ?_)
        · refine lv_iload_n hx hb dX4_firstOf_42 rfl (lv_at hl 1 rfl) ?_
          refine lv_istore_n (lv' := [(3, .int f), (4, .int (nI k)), (0, .ref (ad 0)), (1, .int y), (2, .int te)]) hx hb dX4_firstOf_43 rfl hl (by decide) rfl (fun ls hl => ?_)
          refine lv_iinc (v := (nI k) - 1) (lv' := [(4, .int ((nI k) - 1)), (3, .int f), (0, .ref (ad 0)), (1, .int y), (2, .int te)]) hx hb dX4_firstOf_44 hl (k := 1) rfl (zi_m1 (nI k)) (by decide) rfl (fun ls hl => ?_)
          refine lv_goto (tgt := 10) hx hb dX4_firstOf_47 (by decide) ?_
          exact ih f _ (by omega) (by rw [← hv]; simp only [mF]; rw [if_neg (fun h => c_3 h.1)]) (lv_sub hl [0, 1, 2, 3, 4] rfl)
        · refine lv_aload_n hx hb dX4_firstOf_26 rfl (lv_at hl 2 rfl) ?_
          refine gf_X4_29 hx hb hT hown hK (hP.at (hI.1 0 (by decide)) rfl) rfl dX4_firstOf_27 ?_
          refine lv_iload hx hb dX4_firstOf_30 (lv_at hl 0 rfl) ?_
          refine z_ialdN hx hb hK (hP.at (hI.1 2 (by decide)) rfl) (by omega) (by decide) (v := MI 2 k) (rfl) dX4_firstOf_32 ?_
          refine lv_iload_n hx hb dX4_firstOf_33 rfl (lv_at hl 4 rfl) ?_
          refine lv_icmp_ne (tgt := 42) hx hb dX4_firstOf_34 (by decide) (fun c_4 => ?_) (fun c_4 => ?_)
          · refine lv_iload_n hx hb dX4_firstOf_42 rfl (lv_at hl 1 rfl) ?_
            refine lv_istore_n (lv' := [(3, .int f), (4, .int (nI k)), (0, .ref (ad 0)), (1, .int y), (2, .int te)]) hx hb dX4_firstOf_43 rfl hl (by decide) rfl (fun ls hl => ?_)
            refine lv_iinc (v := (nI k) - 1) (lv' := [(4, .int ((nI k) - 1)), (3, .int f), (0, .ref (ad 0)), (1, .int y), (2, .int te)]) hx hb dX4_firstOf_44 hl (k := 1) rfl (zi_m1 (nI k)) (by decide) rfl (fun ls hl => ?_)
            refine lv_goto (tgt := 10) hx hb dX4_firstOf_47 (by decide) ?_
            exact ih f _ (by omega) (by rw [← hv]; simp only [mF]; rw [if_neg (fun h => c_4 h.2)]) (lv_sub hl [0, 1, 2, 3, 4] rfl)
          · refine lv_iload hx hb dX4_firstOf_37 (lv_at hl 0 rfl) ?_
            refine lv_goto (tgt := 43) hx hb dX4_firstOf_39 (by decide) ?_
            refine lv_istore_n (lv' := [(3, .int (nI k)), (4, .int (nI k)), (0, .ref (ad 0)), (1, .int y), (2, .int te)]) hx hb dX4_firstOf_43 rfl hl (by decide) rfl (fun ls hl => ?_)
            refine lv_iinc (v := (nI k) - 1) (lv' := [(4, .int ((nI k) - 1)), (3, .int (nI k)), (0, .ref (ad 0)), (1, .int y), (2, .int te)]) hx hb dX4_firstOf_44 hl (k := 1) rfl (zi_m1 (nI k)) (by decide) rfl (fun ls hl => ?_)
            refine lv_goto (tgt := 10) hx hb dX4_firstOf_47 (by decide) ?_
            exact ih (nI k) _ (by omega) (by rw [← hv]; simp only [mF]; rw [if_pos ⟨c_3, c_4⟩]) (lv_sub hl [0, 1, 2, 3, 4] rfl)
  refine lv_iconst (v := (-1)) hx hb dX4_firstOf_0 (by decide) ?_
  refine lv_istore_n (lv' := [(3, .int (-1)), (0, .ref (ad 0)), (1, .int y), (2, .int te)]) hx hb dX4_firstOf_1 rfl hl (by decide) rfl (fun ls hl => ?_)
  refine lv_aload_n hx hb dX4_firstOf_2 rfl (lv_at hl 1 rfl) ?_
  refine gf_X4_63 hx hb hT hown hK (hP.at (hI.1 0 (by decide)) rfl) rfl dX4_firstOf_3 ?_
  refine lv_iconst (v := 1) hx hb dX4_firstOf_6 (by decide) ?_
  refine lv_isub hx hb dX4_firstOf_7 ?_
  refine lv_istore (lv' := [(4, .int ((MI 0 6) - 1)), (3, .int (-1)), (0, .ref (ad 0)), (1, .int y), (2, .int te)]) hx hb dX4_firstOf_8 hl (by decide) rfl (fun ls hl => ?_)
  rw [hnp] at hl
  exact L np (-1) _ (Nat.le_refl _) rfl (lv_sub hl [0, 1, 2, 3, 4] rfl)
set_option maxHeartbeats 4000000 in
set_option maxRecDepth 100000 in
theorem c_X4_home (l : Launch) (hI : zIn Rs np ng) (j : Nat) (hj : j < np) (hnp : MI 0 6 = nI np) (hN : np ≤ 30) : zMR l yX4_home cX4_home 2 ((some .int)) 1 (24) D ks [.ref (ad 0), .int (nI j)] (zP D Rs ad (gS ks ad np ng G MI MJ XI XJ)) (some (.int (nI (hm MI np j)))) := by
  refine zMR.of (by decide +kernel) (Nat.le_of_ble_eq_true rfl) ?_
  intro p e s m below meth c ls hx hb hr hml hown hlk hT hP hK hl
  have hl : lv_has ls 2 [(0, .ref (ad 0)), (1, .int (nI j))] := hl
  refine lv_aload_n hx hb dX4_home_0 rfl (lv_at hl 0 rfl) ?_
  refine lv_aload_n hx hb dX4_home_1 rfl (lv_at hl 0 rfl) ?_
  refine gf_X4_25 hx hb hT hown hK (hP.at (hI.1 0 (by decide)) rfl) rfl dX4_home_2 ?_
  refine lv_iload_n hx hb dX4_home_5 rfl (lv_at hl 1 rfl) ?_
  refine z_ialdN hx hb hK (hP.at (hI.1 1 (by decide)) rfl) (Nat.lt_of_lt_of_le hj hN) (by decide) (v := MI 1 j) (rfl) dX4_home_6 ?_
  refine lv_aload_n hx hb dX4_home_7 rfl (lv_at hl 0 rfl) ?_
  refine gf_X4_29 hx hb hT hown hK (hP.at (hI.1 0 (by decide)) rfl) rfl dX4_home_8 ?_
  refine lv_iload_n hx hb dX4_home_11 rfl (lv_at hl 1 rfl) ?_
  refine z_ialdN hx hb hK (hP.at (hI.1 2 (by decide)) rfl) (Nat.lt_of_lt_of_le hj hN) (by decide) (v := MI 2 j) (rfl) dX4_home_12 ?_
  refine z_backR1 (z_runV ⟨hx, hb, hml, hown, hT⟩ (rest := []) (As := [.int (MI 1 j), .int (MI 2 j)]) (c_X4_firstOf (MI := MI) (MJ := MJ) (XI := XI) (XJ := XJ) l hI (MI 1 j) (MI 2 j) (hnp) (hN)) k_X4_72 (z_preRV hK hP (hP.at (hI.1 0 (by decide)) rfl) rfl) rfl ⟨Nat.le_of_ble_eq_true rfl, Nat.le_of_ble_eq_true rfl⟩ hl.1 rfl (Nat.le_of_ble_eq_true rfl) dX4_home_13 ⟨Nat.le_of_ble_eq_true rfl, Nat.le_of_ble_eq_true rfl⟩) ?_
  exact zR_i hx hb hr hlk dX4_home_16 (hm_eq hj _)
set_option maxHeartbeats 4000000 in
set_option maxRecDepth 100000 in
theorem c_X4_premiumsOf (l : Launch) (hI : zIn Rs np ng) (y : Int32) (te : Int32) (hnp : MI 0 6 = nI np) (hN : np ≤ 30) : zMR l yX4_premiumsOf cX4_premiumsOf 6 ((some .long)) 0 (0) D ks [.ref (ad 0), .int y, .int te] (zP D Rs ad (gS ks ad np ng G MI MJ XI XJ)) (some (.long (mP (MI 1) (MI 2) (MI 5) (MI 3) y te np))) := by
  refine zMR.of (by decide +kernel) (Nat.le_of_ble_eq_true rfl) ?_
  intro p e s m below meth c ls hx hb hr hml hown hlk hT hP hK hl
  have hl : lv_has ls 6 [(0, .ref (ad 0)), (1, .int y), (2, .int te)] := hl
  have L : ∀ (n k : Nat) (f : Int64) (ls : Array Slot), k + n = np → f = mP (MI 1) (MI 2) (MI 5) (MI 3) y te k → lv_has ls 6 [(5, .int (nI k)), (3, .long f), (0, .ref (ad 0)), (1, .int y), (2, .int te)] → W p l e (zRm 0 (0) 0 0) s m ([.ref (ad 0), .int y, .int te] : List Value).toArray below meth c s.heap [] 0 0 (MQ below (zQR (some (.long (mP (MI 1) (MI 2) (MI 5) (MI 3) y te np)))) ([.ref (ad 0), .int y, .int te] : List Value).toArray s 0 0 (fun _ => False)) (F0 m 5 ls []) := by
    intro n
    induction n with
    | zero =>
      intro k f ls hkn hv hl
      refine lv_iload hx hb dX4_premiumsOf_5 (lv_at hl 0 rfl) ?_
      refine lv_aload_n hx hb dX4_premiumsOf_7 rfl (lv_at hl 2 rfl) ?_
      refine gf_X4_63 hx hb hT hown hK (hP.at (hI.1 0 (by decide)) rfl) rfl dX4_premiumsOf_8 ?_
      rw [hnp]
      refine lv_icmp_ge (tgt := 67) hx hb dX4_premiumsOf_11 (by decide) (fun c_1 => ?_) (fun c_1 => ?_)
      · refine lv_lload_n hx hb dX4_premiumsOf_67 rfl (lv_at hl 1 rfl) ?_
        exact zR_l hx hb hr hlk dX4_premiumsOf_68 (by rw [hv, show k = np by omega])
      · exact absurd (nI_le (by omega) (by omega)) c_1
    | succ n ih =>
      intro k f ls hkn hv hl
      have hk : k < np := by omega
      refine lv_iload hx hb dX4_premiumsOf_5 (lv_at hl 0 rfl) ?_
      refine lv_aload_n hx hb dX4_premiumsOf_7 rfl (lv_at hl 2 rfl) ?_
      refine gf_X4_63 hx hb hT hown hK (hP.at (hI.1 0 (by decide)) rfl) rfl dX4_premiumsOf_8 ?_
      rw [hnp]
      refine lv_icmp_ge (tgt := 67) hx hb dX4_premiumsOf_11 (by decide) (fun c_2 => ?_) (fun c_2 => ?_)
      · exact absurd c_2 (nI_ge hk (by omega))
      · refine lv_lload_n hx hb dX4_premiumsOf_14 rfl (lv_at hl 1 rfl) ?_
        refine lv_aload_n hx hb dX4_premiumsOf_15 rfl (lv_at hl 2 rfl) ?_
        refine gf_X4_25 hx hb hT hown hK (hP.at (hI.1 0 (by decide)) rfl) rfl dX4_premiumsOf_16 ?_
        refine lv_iload hx hb dX4_premiumsOf_19 (lv_at hl 0 rfl) ?_
        refine z_ialdN hx hb hK (hP.at (hI.1 1 (by decide)) rfl) (Nat.lt_of_lt_of_le hk hN) (by decide) (v := MI 1 k) (rfl) dX4_premiumsOf_21 ?_
        refine lv_iload_n hx hb dX4_premiumsOf_22 rfl (lv_at hl 3 rfl) ?_
        refine lv_icmp_ne (tgt := 58) hx hb dX4_premiumsOf_23 (by decide) (fun c_3 => ?_) (fun c_3 => ?_)
        · refine lv_lconst (v := 0) hx hb dX4_premiumsOf_58 (by decide) ?_
          refine lv_ladd hx hb dX4_premiumsOf_59 ?_
          refine lv_lstore_n (lv' := [(3, .long (f + 0)), (5, .int (nI k)), (0, .ref (ad 0)), (1, .int y), (2, .int te)]) hx hb dX4_premiumsOf_60 rfl hl (by decide) rfl (fun ls hl => ?_)
          refine lv_iinc (v := nI (k + 1)) (lv' := [(5, .int (nI (k + 1))), (3, .long (f + 0)), (0, .ref (ad 0)), (1, .int y), (2, .int te)]) hx hb dX4_premiumsOf_61 hl (k := 1) rfl (nI_1 k) (by decide) rfl (fun ls hl => ?_)
          refine lv_goto (tgt := 5) hx hb dX4_premiumsOf_64 (by decide) ?_
          exact ih (k + 1) (f + 0) _ (by omega) (by simp only [mP]; rw [if_neg (fun h => c_3 h.1), hv]) (lv_sub hl [0, 1, 2, 3, 4] rfl)
        · refine lv_aload_n hx hb dX4_premiumsOf_26 rfl (lv_at hl 2 rfl) ?_
          refine gf_X4_29 hx hb hT hown hK (hP.at (hI.1 0 (by decide)) rfl) rfl dX4_premiumsOf_27 ?_
          refine lv_iload hx hb dX4_premiumsOf_30 (lv_at hl 0 rfl) ?_
          refine z_ialdN hx hb hK (hP.at (hI.1 2 (by decide)) rfl) (Nat.lt_of_lt_of_le hk hN) (by decide) (v := MI 2 k) (rfl) dX4_premiumsOf_32 ?_
          refine lv_iload_n hx hb dX4_premiumsOf_33 rfl (lv_at hl 4 rfl) ?_
          refine lv_icmp_ne (tgt := 58) hx hb dX4_premiumsOf_34 (by decide) (fun c_4 => ?_) (fun c_4 => ?_)
          · refine lv_lconst (v := 0) hx hb dX4_premiumsOf_58 (by decide) ?_
            refine lv_ladd hx hb dX4_premiumsOf_59 ?_
            refine lv_lstore_n (lv' := [(3, .long (f + 0)), (5, .int (nI k)), (0, .ref (ad 0)), (1, .int y), (2, .int te)]) hx hb dX4_premiumsOf_60 rfl hl (by decide) rfl (fun ls hl => ?_)
            refine lv_iinc (v := nI (k + 1)) (lv' := [(5, .int (nI (k + 1))), (3, .long (f + 0)), (0, .ref (ad 0)), (1, .int y), (2, .int te)]) hx hb dX4_premiumsOf_61 hl (k := 1) rfl (nI_1 k) (by decide) rfl (fun ls hl => ?_)
            refine lv_goto (tgt := 5) hx hb dX4_premiumsOf_64 (by decide) ?_
            exact ih (k + 1) (f + 0) _ (by omega) (by simp only [mP]; rw [if_neg (fun h => c_4 h.2.1), hv]) (lv_sub hl [0, 1, 2, 3, 4] rfl)
          · refine lv_aload_n hx hb dX4_premiumsOf_37 rfl (lv_at hl 2 rfl) ?_
            refine gf_X4_38 hx hb hT hown hK (hP.at (hI.1 0 (by decide)) rfl) rfl dX4_premiumsOf_38 ?_
            refine lv_iload hx hb dX4_premiumsOf_41 (lv_at hl 0 rfl) ?_
            refine z_ialdN hx hb hK (hP.at (hI.1 5 (by decide)) rfl) (Nat.lt_of_lt_of_le hk hN) (by decide) (v := MI 5 k) (rfl) dX4_premiumsOf_43 ?_
            refine lv_if_ne (tgt := 58) hx hb dX4_premiumsOf_44 (by decide) (fun c_5 => ?_) (fun c_5 => ?_)
            · refine lv_lconst (v := 0) hx hb dX4_premiumsOf_58 (by decide) ?_
              refine lv_ladd hx hb dX4_premiumsOf_59 ?_
              refine lv_lstore_n (lv' := [(3, .long (f + 0)), (5, .int (nI k)), (0, .ref (ad 0)), (1, .int y), (2, .int te)]) hx hb dX4_premiumsOf_60 rfl hl (by decide) rfl (fun ls hl => ?_)
              refine lv_iinc (v := nI (k + 1)) (lv' := [(5, .int (nI (k + 1))), (3, .long (f + 0)), (0, .ref (ad 0)), (1, .int y), (2, .int te)]) hx hb dX4_premiumsOf_61 hl (k := 1) rfl (nI_1 k) (by decide) rfl (fun ls hl => ?_)
              refine lv_goto (tgt := 5) hx hb dX4_premiumsOf_64 (by decide) ?_
              exact ih (k + 1) (f + 0) _ (by omega) (by simp only [mP]; rw [if_neg (fun h => c_5 h.2.2), hv]) (lv_sub hl [0, 1, 2, 3, 4] rfl)
            · refine lv_aload_n hx hb dX4_premiumsOf_47 rfl (lv_at hl 2 rfl) ?_
              refine gf_X4_32 hx hb hT hown hK (hP.at (hI.1 0 (by decide)) rfl) rfl dX4_premiumsOf_48 ?_
              refine lv_iload hx hb dX4_premiumsOf_51 (lv_at hl 0 rfl) ?_
              refine z_ialdN hx hb hK (hP.at (hI.1 3 (by decide)) rfl) (Nat.lt_of_lt_of_le hk hN) (by decide) (v := MI 3 k) (rfl) dX4_premiumsOf_53 ?_
              refine lv_i2l hx hb dX4_premiumsOf_54 rfl ?_
              refine lv_goto (tgt := 59) hx hb dX4_premiumsOf_55 (by decide) ?_
              refine lv_ladd hx hb dX4_premiumsOf_59 ?_
              refine lv_lstore_n (lv' := [(3, .long (f + (Int32.toInt64 (MI 3 k)))), (5, .int (nI k)), (0, .ref (ad 0)), (1, .int y), (2, .int te)]) hx hb dX4_premiumsOf_60 rfl hl (by decide) rfl (fun ls hl => ?_)
              refine lv_iinc (v := nI (k + 1)) (lv' := [(5, .int (nI (k + 1))), (3, .long (f + (Int32.toInt64 (MI 3 k)))), (0, .ref (ad 0)), (1, .int y), (2, .int te)]) hx hb dX4_premiumsOf_61 hl (k := 1) rfl (nI_1 k) (by decide) rfl (fun ls hl => ?_)
              refine lv_goto (tgt := 5) hx hb dX4_premiumsOf_64 (by decide) ?_
              exact ih (k + 1) (f + (Int32.toInt64 (MI 3 k))) _ (by omega) (by simp only [mP]; rw [if_pos ⟨c_3, c_4, c_5⟩, hv]) (lv_sub hl [0, 1, 2, 3, 4] rfl)
  refine lv_lconst (v := 0) hx hb dX4_premiumsOf_0 (by decide) ?_
  refine lv_lstore_n (lv' := [(3, .long 0), (0, .ref (ad 0)), (1, .int y), (2, .int te)]) hx hb dX4_premiumsOf_1 rfl hl (by decide) rfl (fun ls hl => ?_)
  refine lv_iconst (v := 0) hx hb dX4_premiumsOf_2 (by decide) ?_
  refine lv_istore (lv' := [(5, .int 0), (3, .long 0), (0, .ref (ad 0)), (1, .int y), (2, .int te)]) hx hb dX4_premiumsOf_3 hl (by decide) rfl (fun ls hl => ?_)
  have hl := (show lv_has ls 6 [(5, .int (nI 0)), (3, .long 0), (0, .ref (ad 0)), (1, .int y), (2, .int te)] from (lv_sub hl [0, 1, 2, 3, 4] rfl))
  exact L np 0 0 _ (by omega) rfl hl
set_option maxHeartbeats 4000000 in
set_option maxRecDepth 100000 in
theorem c_X4_share (l : Launch) (hI : zIn Rs np ng) (j : Nat) (hj : j < np) (hnp : MI 0 6 = nI np) (hN : np ≤ 30) (hd : MI 5 j = 0 → ¬ mPr MI np j = 0) : zMR l yX4_share cX4_share 2 ((some .long)) 2 (45) D ks [.ref (ad 0), .int (nI j)] (zP D Rs ad (gS ks ad np ng G MI MJ XI XJ)) (some (.long (mShare MI MJ np j))) := by
  refine zMR.of (by decide +kernel) (Nat.le_of_ble_eq_true rfl) ?_
  intro p e s m below meth c ls hx hb hr hml hown hlk hT hP hK hl
  have hl : lv_has ls 2 [(0, .ref (ad 0)), (1, .int (nI j))] := hl
  refine lv_aload_n hx hb dX4_share_0 rfl (lv_at hl 0 rfl) ?_
  refine gf_X4_38 hx hb hT hown hK (hP.at (hI.1 0 (by decide)) rfl) rfl dX4_share_1 ?_
  refine lv_iload_n hx hb dX4_share_4 rfl (lv_at hl 1 rfl) ?_
  refine z_ialdN hx hb hK (hP.at (hI.1 5 (by decide)) rfl) (Nat.lt_of_lt_of_le hj hN) (by decide) (v := MI 5 j) (rfl) dX4_share_5 ?_
  refine lv_if_eq (tgt := 11) hx hb dX4_share_6 (by decide) (fun c_1 => ?_) (fun c_1 => ?_)
  · refine lv_aload_n hx hb dX4_share_11 rfl (lv_at hl 0 rfl) ?_
    refine gf_X4_51 hx hb hT hown hK (hP.at (hI.1 0 (by decide)) rfl) rfl dX4_share_12 ?_
    refine lv_aload_n hx hb dX4_share_15 rfl (lv_at hl 0 rfl) ?_
    refine lv_iload_n hx hb dX4_share_16 rfl (lv_at hl 1 rfl) ?_
    refine z_backR1 (z_runV ⟨hx, hb, hml, hown, hT⟩ (rest := [.ref (ad 9)]) (As := [.int (nI j)]) (c_X4_home (MI := MI) (MJ := MJ) (XI := XI) (XJ := XJ) l hI j (hj) (hnp) (hN)) k_X4_76 (z_preRV hK hP (hP.at (hI.1 0 (by decide)) rfl) rfl) rfl ⟨Nat.le_of_ble_eq_true rfl, Nat.le_of_ble_eq_true rfl⟩ hl.1 rfl (Nat.le_of_ble_eq_true rfl) dX4_share_17 ⟨Nat.le_of_ble_eq_true rfl, Nat.le_of_ble_eq_true rfl⟩) ?_
    refine z_laldN hx hb hK (hP.at (hI.1 9 (by decide)) rfl) (Nat.lt_of_le_of_lt (hm_le hj) (Nat.lt_of_lt_of_le hj hN)) (by decide) (v := MJ 2 (hm MI np j)) (rfl) dX4_share_20 ?_
    refine lv_aload_n hx hb dX4_share_21 rfl (lv_at hl 0 rfl) ?_
    refine gf_X4_32 hx hb hT hown hK (hP.at (hI.1 0 (by decide)) rfl) rfl dX4_share_22 ?_
    refine lv_iload_n hx hb dX4_share_25 rfl (lv_at hl 1 rfl) ?_
    refine z_ialdN hx hb hK (hP.at (hI.1 3 (by decide)) rfl) (Nat.lt_of_lt_of_le hj hN) (by decide) (v := MI 3 j) (rfl) dX4_share_26 ?_
    refine lv_i2l hx hb dX4_share_27 rfl ?_
    refine lv_lmul hx hb dX4_share_28 ?_
    refine lv_aload_n hx hb dX4_share_29 rfl (lv_at hl 0 rfl) ?_
    refine lv_aload_n hx hb dX4_share_30 rfl (lv_at hl 0 rfl) ?_
    refine gf_X4_25 hx hb hT hown hK (hP.at (hI.1 0 (by decide)) rfl) rfl dX4_share_31 ?_
    refine lv_iload_n hx hb dX4_share_34 rfl (lv_at hl 1 rfl) ?_
    refine z_ialdN hx hb hK (hP.at (hI.1 1 (by decide)) rfl) (Nat.lt_of_lt_of_le hj hN) (by decide) (v := MI 1 j) (rfl) dX4_share_35 ?_
    refine lv_aload_n hx hb dX4_share_36 rfl (lv_at hl 0 rfl) ?_
    refine gf_X4_29 hx hb hT hown hK (hP.at (hI.1 0 (by decide)) rfl) rfl dX4_share_37 ?_
    refine lv_iload_n hx hb dX4_share_40 rfl (lv_at hl 1 rfl) ?_
    refine z_ialdN hx hb hK (hP.at (hI.1 2 (by decide)) rfl) (Nat.lt_of_lt_of_le hj hN) (by decide) (v := MI 2 j) (rfl) dX4_share_41 ?_
    refine z_backR1 (z_runV ⟨hx, hb, hml, hown, hT⟩ (rest := [.long ((MJ 2 (hm MI np j)) * (Int32.toInt64 (MI 3 j)))]) (As := [.int (MI 1 j), .int (MI 2 j)]) (c_X4_premiumsOf (MI := MI) (MJ := MJ) (XI := XI) (XJ := XJ) l hI (MI 1 j) (MI 2 j) (hnp) (hN)) k_X4_80 (z_preRV hK hP (hP.at (hI.1 0 (by decide)) rfl) rfl) rfl ⟨Nat.le_of_ble_eq_true rfl, Nat.le_of_ble_eq_true rfl⟩ hl.1 rfl (Nat.le_of_ble_eq_true rfl) dX4_share_42 ⟨Nat.le_of_ble_eq_true rfl, Nat.le_of_ble_eq_true rfl⟩) ?_
    refine lv_ldiv hx hb dX4_share_45 (hd c_1) ?_
    exact zR_l hx hb hr hlk dX4_share_46 ((if_pos c_1).symm)
  · refine lv_lconst (v := 0) hx hb dX4_share_9 (by decide) ?_
    exact zR_l hx hb hr hlk dX4_share_10 ((if_neg c_1).symm)
set_option maxHeartbeats 4000000 in
set_option maxRecDepth 100000 in
theorem c_X4_worthOf (l : Launch) (hI : zIn Rs np ng) (j : Nat) (hj : j < np) (hnp : MI 0 6 = nI np) (hN : np ≤ 30) (hd : MI 5 j = 0 → ¬ mPr MI np j = 0) (ht : ¬ Int32.toInt64 (MI 2 j) = 0) : zMR l yX4_worthOf cX4_worthOf 7 ((some .long)) 3 (66) D ks [.ref (ad 0), .int (nI j)] (zP D Rs ad (gS ks ad np ng G MI MJ XI XJ)) (some (.long (mWorth MI MJ np j))) := by
  refine zMR.of (by decide +kernel) (Nat.le_of_ble_eq_true rfl) ?_
  intro p e s m below meth c ls hx hb hr hml hown hlk hT hP hK hl
  have hl : lv_has ls 7 [(0, .ref (ad 0)), (1, .int (nI j))] := hl
  refine lv_aload_n hx hb dX4_worthOf_0 rfl (lv_at hl 0 rfl) ?_
  refine gf_X4_92 hx hb hT hown hK (hP.at (hI.1 0 (by decide)) rfl) rfl dX4_worthOf_1 ?_
  refine lv_aload_n hx hb dX4_worthOf_4 rfl (lv_at hl 0 rfl) ?_
  refine gf_X4_25 hx hb hT hown hK (hP.at (hI.1 0 (by decide)) rfl) rfl dX4_worthOf_5 ?_
  refine lv_iload_n hx hb dX4_worthOf_8 rfl (lv_at hl 1 rfl) ?_
  refine z_ialdN hx hb hK (hP.at (hI.1 1 (by decide)) rfl) (Nat.lt_of_lt_of_le hj hN) (by decide) (v := MI 1 j) (rfl) dX4_worthOf_9 ?_
  refine lv_isub hx hb dX4_worthOf_10 ?_
  refine lv_istore_n (lv' := [(2, .int ((MI 0 0) - (MI 1 j))), (0, .ref (ad 0)), (1, .int (nI j))]) hx hb dX4_worthOf_11 rfl hl (by decide) rfl (fun ls hl => ?_)
  refine lv_aload_n hx hb dX4_worthOf_12 rfl (lv_at hl 1 rfl) ?_
  refine lv_iload_n hx hb dX4_worthOf_13 rfl (lv_at hl 2 rfl) ?_
  refine z_backR1 (z_runV ⟨hx, hb, hml, hown, hT⟩ (rest := []) (As := [.int (nI j)]) (c_X4_share (MI := MI) (MJ := MJ) (XI := XI) (XJ := XJ) l hI j (hj) (hnp) (hN) (hd)) k_X4_95 (z_preRV hK hP (hP.at (hI.1 0 (by decide)) rfl) rfl) rfl ⟨Nat.le_of_ble_eq_true rfl, Nat.le_of_ble_eq_true rfl⟩ hl.1 rfl (Nat.le_of_ble_eq_true rfl) dX4_worthOf_14 ⟨Nat.le_of_ble_eq_true rfl, Nat.le_of_ble_eq_true rfl⟩) ?_
  refine lv_ldc2 (v := 600) hx hb hown (hT _ kl_X4_99) dX4_worthOf_17 ?_
  refine lv_ldc2 (v := 400) hx hb hown (hT _ kl_X4_101) dX4_worthOf_20 ?_
  refine lv_iload_n hx hb dX4_worthOf_23 rfl (lv_at hl 0 rfl) ?_
  refine lv_i2l hx hb dX4_worthOf_24 rfl ?_
  refine lv_lmul hx hb dX4_worthOf_25 ?_
  refine lv_aload_n hx hb dX4_worthOf_26 rfl (lv_at hl 1 rfl) ?_
  refine gf_X4_29 hx hb hT hown hK (hP.at (hI.1 0 (by decide)) rfl) rfl dX4_worthOf_27 ?_
  refine lv_iload_n hx hb dX4_worthOf_30 rfl (lv_at hl 2 rfl) ?_
  refine z_ialdN hx hb hK (hP.at (hI.1 2 (by decide)) rfl) (Nat.lt_of_lt_of_le hj hN) (by decide) (v := MI 2 j) (rfl) dX4_worthOf_31 ?_
  refine lv_i2l hx hb dX4_worthOf_32 rfl ?_
  refine lv_ldiv hx hb dX4_worthOf_33 (ht) ?_
  refine lv_ladd hx hb dX4_worthOf_34 ?_
  refine z_backR1 (z_runS ⟨hx, hb, hml, hown, hT⟩ (rest := []) (As := [.long (mShare MI MJ np j), .long (600 + ((400 * (Int32.toInt64 ((MI 0 0) - (MI 1 j)))) / (Int32.toInt64 (MI 2 j))))]) (c_X4_part l D ks (mShare MI MJ np j) (600 + ((400 * (Int32.toInt64 ((MI 0 0) - (MI 1 j)))) / (Int32.toInt64 (MI 2 j)))) ) k_X4_103 (z_preR hK trivial) rfl ⟨Nat.le_of_ble_eq_true rfl, Nat.le_of_ble_eq_true rfl⟩ hl.1 rfl (Nat.le_of_ble_eq_true rfl) dX4_worthOf_35 ⟨Nat.le_of_ble_eq_true rfl, Nat.le_of_ble_eq_true rfl⟩) ?_
  refine lv_topl (fun v1 ev1 => ?_)
  refine lv_lstore_n (lv' := [(3, .long v1), (2, .int ((MI 0 0) - (MI 1 j))), (0, .ref (ad 0)), (1, .int (nI j))]) hx hb dX4_worthOf_38 rfl hl (by decide) rfl (fun ls hl => ?_)
  refine lv_iload_n hx hb dX4_worthOf_39 rfl (lv_at hl 1 rfl) ?_
  refine lv_i2l hx hb dX4_worthOf_40 rfl ?_
  refine lv_aload_n hx hb dX4_worthOf_41 rfl (lv_at hl 2 rfl) ?_
  refine gf_X4_32 hx hb hT hown hK (hP.at (hI.1 0 (by decide)) rfl) rfl dX4_worthOf_42 ?_
  refine lv_iload_n hx hb dX4_worthOf_45 rfl (lv_at hl 3 rfl) ?_
  refine z_ialdN hx hb hK (hP.at (hI.1 3 (by decide)) rfl) (Nat.lt_of_lt_of_le hj hN) (by decide) (v := MI 3 j) (rfl) dX4_worthOf_46 ?_
  refine lv_i2l hx hb dX4_worthOf_47 rfl ?_
  refine lv_lmul hx hb dX4_worthOf_48 ?_
  refine lv_aload_n hx hb dX4_worthOf_49 rfl (lv_at hl 2 rfl) ?_
  refine gf_X4_22 hx hb hT hown hK (hP.at (hI.1 0 (by decide)) rfl) rfl dX4_worthOf_50 ?_
  refine lv_i2l hx hb dX4_worthOf_53 rfl ?_
  refine z_backR1 (z_runS ⟨hx, hb, hml, hown, hT⟩ (rest := []) (As := [.long ((Int32.toInt64 ((MI 0 0) - (MI 1 j))) * (Int32.toInt64 (MI 3 j))), .long (Int32.toInt64 (MI 0 5))]) (c_X4_part l D ks ((Int32.toInt64 ((MI 0 0) - (MI 1 j))) * (Int32.toInt64 (MI 3 j))) (Int32.toInt64 (MI 0 5)) ) k_X4_103 (z_preR hK trivial) rfl ⟨Nat.le_of_ble_eq_true rfl, Nat.le_of_ble_eq_true rfl⟩ hl.1 rfl (Nat.le_of_ble_eq_true rfl) dX4_worthOf_54 ⟨Nat.le_of_ble_eq_true rfl, Nat.le_of_ble_eq_true rfl⟩) ?_
  refine lv_topl (fun v2 ev2 => ?_)
  refine lv_lstore (lv' := [(5, .long v2), (3, .long v1), (2, .int ((MI 0 0) - (MI 1 j))), (0, .ref (ad 0)), (1, .int (nI j))]) hx hb dX4_worthOf_57 hl (by decide) rfl (fun ls hl => ?_)
  refine lv_lload_n hx hb dX4_worthOf_59 rfl (lv_at hl 1 rfl) ?_
  refine lv_lload hx hb dX4_worthOf_60 (lv_at hl 0 rfl) ?_
  refine z_lcmp_le (tgt := 70) hx hb dX4_worthOf_62 dX4_worthOf_63 (by decide) (fun c_3 => ?_) (fun c_3 => ?_)
  · refine lv_lload hx hb dX4_worthOf_70 (lv_at hl 0 rfl) ?_
    exact zR_l hx hb hr hlk dX4_worthOf_72 (by unfold mWorth fMore; subst ev1 ev2; rw [if_neg c_3])
  · refine lv_lload_n hx hb dX4_worthOf_66 rfl (lv_at hl 1 rfl) ?_
    refine lv_goto (tgt := 72) hx hb dX4_worthOf_67 (by decide) ?_
    exact zR_l hx hb hr hlk dX4_worthOf_72 (by unfold mWorth fMore; subst ev1 ev2; rw [if_pos c_3])
set_option maxHeartbeats 4000000 in
set_option maxRecDepth 100000 in
theorem c_X3_findGeneration (l : Launch) (hI : zIn Rs np ng) (y : Int32) (te : Int32) (hG30 : ng ≤ 30) : zMR l yX3_findGeneration cX3_findGeneration 5 ((some (.object "ProfitsOffice$Generation"))) 0 (0) D ks [.ref (ad 13), .int y, .int te] (zP D Rs ad (gS ks ad np ng G MI MJ XI XJ)) (some (va_rf ((xF (XI 11) (XI 12) y te ng 0).map (fun i => ad (20 + 4 * i))))) := by
  refine zMR.of (by decide +kernel) (Nat.le_of_ble_eq_true rfl) ?_
  intro p e s m below meth c ls hx hb hr hml hown hlk hT hP hK hl
  have hl : lv_has ls 5 [(0, .ref (ad 13)), (1, .int y), (2, .int te)] := hl
  have L : ∀ (n k : Nat) (ls : Array Slot), k + n = 30 → (xF (XI 11) (XI 12) y te (ng - k) k).map (fun i => ad (20 + 4 * i)) = ((xF (XI 11) (XI 12) y te ng 0).map (fun i => ad (20 + 4 * i))) → lv_has ls 5 [(3, .int (nI k)), (0, .ref (ad 13)), (1, .int y), (2, .int te)] → W p l e (zRm 0 (0) 0 0) s m ([.ref (ad 13), .int y, .int te] : List Value).toArray below meth c s.heap [] 0 0 (MQ below (zQR (some (va_rf ((xF (XI 11) (XI 12) y te ng 0).map (fun i => ad (20 + 4 * i)))))) ([.ref (ad 13), .int y, .int te] : List Value).toArray s 0 0 (fun _ => False)) (F0 m 2 ls []) := by
    intro n
    induction n with
    | zero =>
      intro k ls hkn hv hl
      refine lv_iload_n hx hb dX3_findGeneration_2 rfl (lv_at hl 0 rfl) ?_
      refine lv_aload_n hx hb dX3_findGeneration_3 rfl (lv_at hl 1 rfl) ?_
      refine gf_X3_17 hx hb hT hown hK (hP.at (hI.1 13 (by decide)) rfl) rfl dX3_findGeneration_4 ?_
      refine z_glen hx hb hK (hP.at (hI.1 15 (by decide)) rfl) (v := 30) rfl dX3_findGeneration_7 ?_
      refine lv_icmp_ge (tgt := 51) hx hb dX3_findGeneration_8 (by decide) (fun c_1 => ?_) (fun c_1 => ?_)
      · refine lv_null hx hb dX3_findGeneration_51 ?_
        exact zR_a hx hb hr hlk dX3_findGeneration_52 (Or.inl rfl) (by rw [← hv, show ng - k = 0 by omega]; rfl)
      · exact absurd (nI_le (a := 30) (b := k) (by omega) (by omega)) c_1
    | succ n ih =>
      intro k ls hkn hv hl
      have hk : k < 30 := by omega
      refine lv_iload_n hx hb dX3_findGeneration_2 rfl (lv_at hl 0 rfl) ?_
      refine lv_aload_n hx hb dX3_findGeneration_3 rfl (lv_at hl 1 rfl) ?_
      refine gf_X3_17 hx hb hT hown hK (hP.at (hI.1 13 (by decide)) rfl) rfl dX3_findGeneration_4 ?_
      refine z_glen hx hb hK (hP.at (hI.1 15 (by decide)) rfl) (v := 30) rfl dX3_findGeneration_7 ?_
      refine lv_icmp_ge (tgt := 51) hx hb dX3_findGeneration_8 (by decide) (fun c_2 => ?_) (fun c_2 => ?_)
      · exact absurd c_2 (nI_ge (a := k) (b := 30) hk (by decide))
      · refine lv_aload_n hx hb dX3_findGeneration_11 rfl (lv_at hl 1 rfl) ?_
        refine gf_X3_17 hx hb hT hown hK (hP.at (hI.1 13 (by decide)) rfl) rfl dX3_findGeneration_12 ?_
        refine lv_iload_n hx hb dX3_findGeneration_15 rfl (lv_at hl 0 rfl) ?_
        refine z_galdN hx hb hK (hP.at (hI.1 15 (by decide)) rfl) (hk) (by decide) rfl dX3_findGeneration_16 ?_
        rcases Nat.lt_or_ge k ng with hg | hg
        · rw [show rGen ad ng k = some (ad (20 + 4 * k)) from if_pos hg]
          show W _ _ _ _ _ _ _ _ _ _ _ _ _ _ _ (F0 m 17 ls (.ref (ad (20 + 4 * k)) :: []))
          refine lv_astore (lv' := [(4, .ref (ad (20 + 4 * k))), (3, .int (nI k)), (0, .ref (ad 13)), (1, .int y), (2, .int te)]) hx hb dX3_findGeneration_17 hl (by decide) rfl (fun ls hl => ?_)
          refine lv_aload hx hb dX3_findGeneration_19 (lv_at hl 0 rfl) ?_
          refine lv_ifnull hx hb dX3_findGeneration_21 ?_
          refine lv_aload hx hb dX3_findGeneration_24 (lv_at hl 0 rfl) ?_
          refine gf_X3_196 hx hb hT hown hK (hP.at (hI.2.1 k hg).1 gS_0) rfl dX3_findGeneration_26 ?_
          refine lv_iload_n hx hb dX3_findGeneration_29 rfl (lv_at hl 3 rfl) ?_
          refine lv_icmp_ne (tgt := 45) hx hb dX3_findGeneration_30 (by decide) (fun c_3 => ?_) (fun c_3 => ?_)
          · refine lv_iinc (v := nI (k + 1)) (lv' := [(3, .int (nI (k + 1))), (4, .ref (ad (20 + 4 * k))), (0, .ref (ad 13)), (1, .int y), (2, .int te)]) hx hb dX3_findGeneration_45 hl (k := 1) rfl (nI_1 k) (by decide) rfl (fun ls hl => ?_)
            refine lv_goto (tgt := 2) hx hb dX3_findGeneration_48 (by decide) ?_
            exact ih (k + 1) _ (by omega) (by rw [← hv, show ng - k = ng - (k + 1) + 1 by omega]; simp only [xF]; rw [if_neg (fun h => c_3 h.1)]) (lv_sub hl [0, 2, 3, 4] rfl)
          · refine lv_aload hx hb dX3_findGeneration_33 (lv_at hl 0 rfl) ?_
            refine gf_X3_199 hx hb hT hown hK (hP.at (hI.2.1 k hg).1 gS_0) rfl dX3_findGeneration_35 ?_
            refine lv_iload_n hx hb dX3_findGeneration_38 rfl (lv_at hl 4 rfl) ?_
            refine lv_icmp_ne (tgt := 45) hx hb dX3_findGeneration_39 (by decide) (fun c_4 => ?_) (fun c_4 => ?_)
            · refine lv_iinc (v := nI (k + 1)) (lv' := [(3, .int (nI (k + 1))), (4, .ref (ad (20 + 4 * k))), (0, .ref (ad 13)), (1, .int y), (2, .int te)]) hx hb dX3_findGeneration_45 hl (k := 1) rfl (nI_1 k) (by decide) rfl (fun ls hl => ?_)
              refine lv_goto (tgt := 2) hx hb dX3_findGeneration_48 (by decide) ?_
              exact ih (k + 1) _ (by omega) (by rw [← hv, show ng - k = ng - (k + 1) + 1 by omega]; simp only [xF]; rw [if_neg (fun h => c_4 h.2)]) (lv_sub hl [0, 2, 3, 4] rfl)
            · refine lv_aload hx hb dX3_findGeneration_42 (lv_at hl 0 rfl) ?_
              exact zR_a hx hb hr hlk dX3_findGeneration_44 (Or.inr ⟨_, rfl⟩) (by rw [← hv, show ng - k = ng - (k + 1) + 1 by omega]; simp only [xF]; rw [if_pos ⟨c_3, c_4⟩]; rfl)
        · have hg : ¬ k < ng := Nat.not_lt.mpr hg
          rw [show rGen ad ng k = none from if_neg hg]
          show W _ _ _ _ _ _ _ _ _ _ _ _ _ _ _ (F0 m 17 ls (.null :: []))
          refine lv_astoreN (lv' := [(4, .null), (3, .int (nI k)), (0, .ref (ad 13)), (1, .int y), (2, .int te)]) hx hb dX3_findGeneration_17 hl (by decide) rfl (fun ls hl => ?_)
          refine lv_aloadN hx hb dX3_findGeneration_19 (lv_at hl 0 rfl) ?_
          refine lv_ifnullN (tgt := 45) hx hb dX3_findGeneration_21 (by decide) ?_
          refine lv_iinc (v := nI (k + 1)) (lv' := [(3, .int (nI (k + 1))), (4, .null), (0, .ref (ad 13)), (1, .int y), (2, .int te)]) hx hb dX3_findGeneration_45 hl (k := 1) rfl (nI_1 k) (by decide) rfl (fun ls hl => ?_)
          refine lv_goto (tgt := 2) hx hb dX3_findGeneration_48 (by decide) ?_
          exact ih (k + 1) _ (by omega) (by rw [← hv, show ng - k = 0 by omega, show ng - (k + 1) = 0 by omega]; rfl) (lv_sub hl [0, 2, 3, 4] rfl)
  refine lv_iconst (v := 0) hx hb dX3_findGeneration_0 (by decide) ?_
  refine lv_istore_n (lv' := [(3, .int 0), (0, .ref (ad 13)), (1, .int y), (2, .int te)]) hx hb dX3_findGeneration_1 rfl hl (by decide) rfl (fun ls hl => ?_)
  exact L 30 0 _ (by omega) rfl (lv_sub hl [0, 1, 2, 3] rfl)
set_option maxHeartbeats 4000000 in
set_option maxRecDepth 100000 in
theorem c_X3_ratioIn (l : Launch) (r : Nat) (hr1 : r ∈ Rs) (f : Nat → Int64) (he : gS ks ad np ng G MI MJ XI XJ r = .inl (ks 1, 21, .inr (.inl f))) (t : Int32) : zMR l yX3_ratioIn cX3_ratioIn 2 ((some .long)) 0 0 D ks [.ref (ad r), .int t] (zP D Rs ad (gS ks ad np ng G MI MJ XI XJ)) (some (.long (fRat f t))) := by
  refine zMR.of (by decide +kernel) (Nat.le_of_ble_eq_true rfl) ?_
  intro p e s m below meth c ls hx hb hr hml hown hlk hT hP hK hl
  have hl : lv_has ls 2 [(0, .ref (ad r)), (1, .int t)] := hl
  refine lv_iload_n hx hb dX3_ratioIn_0 rfl (lv_at hl 1 rfl) ?_
  refine lv_if_lt (tgt := 16) hx hb dX3_ratioIn_1 (by decide) (fun c_1 => ?_) (fun c_1 => ?_)
  · refine lv_ldc2 (v := (-1)) hx hb hown (hT _ kl_X3_28) dX3_ratioIn_16 ?_
    exact zR_l hx hb hr hlk dX3_ratioIn_19 ((if_neg (fun h => absurd h.1 (Int32.not_le.mpr c_1))).symm)
  · refine lv_iload_n hx hb dX3_ratioIn_4 rfl (lv_at hl 1 rfl) ?_
    refine lv_aload_n hx hb dX3_ratioIn_5 rfl (lv_at hl 0 rfl) ?_
    refine z_jlen hx hb hK (hP.at hr1 he) (v := 21) rfl dX3_ratioIn_6 ?_
    refine lv_icmp_ge (tgt := 16) hx hb dX3_ratioIn_7 (by decide) (fun c_2 => ?_) (fun c_2 => ?_)
    · refine lv_ldc2 (v := (-1)) hx hb hown (hT _ kl_X3_28) dX3_ratioIn_16 ?_
      exact zR_l hx hb hr hlk dX3_ratioIn_19 ((if_neg (fun h => absurd h.2 (Int32.not_lt.mpr c_2))).symm)
    · refine lv_aload_n hx hb dX3_ratioIn_10 rfl (lv_at hl 0 rfl) ?_
      refine lv_iload_n hx hb dX3_ratioIn_11 rfl (lv_at hl 1 rfl) ?_
      refine z_lald hx hb hK (hP.at hr1 he) (z_vpin c_1 c_2 rfl) dX3_ratioIn_12 ?_
      refine lv_goto (tgt := 19) hx hb dX3_ratioIn_13 (by decide) ?_
      exact zR_l hx hb hr hlk dX3_ratioIn_19 ((if_pos ⟨Int32.not_lt.mp c_1, Int32.not_le.mp c_2⟩).symm)
end ZM1
