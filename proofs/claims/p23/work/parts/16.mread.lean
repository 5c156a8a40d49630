/-! the reference: what is read; the office: searching -/
section ZM1
variable {D : va_G} {ks : Nat → ClassId} {ad : Nat → Nat} {np ng : Nat} {G : Nat → Nat} {MI : Nat → Nat → Int32} {MJ : Nat → Nat → Int64} {XI : Nat → Nat → Int32} {XJ : Nat → Nat → Int64} {Rs : List Nat}
def mF (b t : Nat → Int32) (y te : Int32) : Nat → Int32 → Int32
  | 0, f => f
  | k + 1, f => mF b t y te k (if b k = y ∧ t k = te then nI k else f)
def hF (b t : Nat → Int32) (y te : Int32) : Nat → Nat → Nat
  | 0, f => f
  | k + 1, f => hF b t y te k (if b k = y ∧ t k = te then k else f)
def mP (b t st pr : Nat → Int32) (y te : Int32) : Nat → Int64
  | 0 => 0
  | k + 1 => mP b t st pr y te k + (if b k = y ∧ t k = te ∧ st k = 0 then Int32.toInt64 (pr k) else 0)
def hm (MI : Nat → Nat → Int32) (np j : Nat) : Nat := hF (MI 1) (MI 2) (MI 1 j) (MI 2 j) np 0
def mPr (MI : Nat → Nat → Int32) (np j : Nat) : Int64 := mP (MI 1) (MI 2) (MI 5) (MI 3) (MI 1 j) (MI 2 j) np
theorem mF_nI {b t : Nat → Int32} {y te : Int32} : ∀ (n d : Nat), mF b t y te n (nI d) = nI (hF b t y te n d) := by
  intro n
  induction n with
  | zero => intro d; rfl
  | succ n ih =>
    intro d
    simp only [mF, hF]
    split
    · exact ih n
    · exact ih d
theorem mF_hF {b t : Nat → Int32} {y te : Int32} : ∀ (n : Nat) (f : Int32) (d j : Nat), j < n → b j = y → t j = te → mF b t y te n f = nI (hF b t y te n d) ∧ hF b t y te n d ≤ j := by
  intro n
  induction n with
  | zero => intro f d j h; exact absurd h (Nat.not_lt_zero _)
  | succ n ih =>
    intro f d j h hb ht
    simp only [mF, hF]
    by_cases hj : j < n
    · split
      · exact ih (nI n) n j hj hb ht
      · exact ih f d j hj hb ht
    · have e : j = n := by omega
      subst e
      rw [if_pos ⟨hb, ht⟩, if_pos ⟨hb, ht⟩]
      refine ⟨mF_nI j j, ?_⟩
      have key : ∀ (m d : Nat), m ≤ d → hF b t y te m d ≤ d := by
        intro m
        induction m with
        | zero => intro d _; exact Nat.le_refl _
        | succ m ihm =>
          intro d hd
          simp only [hF]
          split
          · exact Nat.le_trans (ihm m (Nat.le_refl _)) (by omega)
          · exact ihm d (by omega)
      exact key j j (Nat.le_refl _)
theorem hm_eq {MI : Nat → Nat → Int32} {np j : Nat} (hj : j < np) (f : Int32) : mF (MI 1) (MI 2) (MI 1 j) (MI 2 j) np f = nI (hm MI np j) := (mF_hF np f 0 j hj rfl rfl).1
theorem hm_le {MI : Nat → Nat → Int32} {np j : Nat} (hj : j < np) : hm MI np j ≤ j := (mF_hF (b := MI 1) (t := MI 2) np 0 0 j hj rfl rfl).2
def mShare (MI : Nat → Nat → Int32) (MJ : Nat → Nat → Int64) (np j : Nat) : Int64 := if MI 5 j = 0 then MJ 2 (hm MI np j) * Int32.toInt64 (MI 3 j) / mPr MI np j else 0
def fMore (x y : Int64) : Int64 := if y < x then x else y
def mWorth (MI : Nat → Nat → Int32) (MJ : Nat → Nat → Int64) (np j : Nat) : Int64 := fMore (fPart (mShare MI MJ np j) (600 + 400 * Int32.toInt64 (MI 0 0 - MI 1 j) / Int32.toInt64 (MI 2 j))) (fPart (Int32.toInt64 (MI 0 0 - MI 1 j) * Int32.toInt64 (MI 3 j)) (Int32.toInt64 (MI 0 5)))
/-- the first of the generations from k on that is of the year and the term -/
def xF (b t : Nat → Int32) (y te : Int32) : Nat → Nat → Option Nat
  | 0, _ => none
  | n + 1, k => if b k = y ∧ t k = te then some k else xF b t y te n (k + 1)
set_option maxHeartbeats 4000000 in
set_option maxRecDepth 100000 in
theorem c_X3_findGeneration (l : Launch) (hI : zIn Rs np ng) (y : Int32) (te : Int32) (hG30 : ng ≤ 30) : zMR l yX3_findGeneration cX3_findGeneration 5 ((some (.object "ProfitsOffice$Generation"))) 0 (0) D ks [.ref (ad 13), .int y, .int te] (zP D Rs ad (gS ks ad np ng G MI MJ XI XJ)) (some (va_rf ((xF (XI 11) (XI 12) y te ng 0).map (fun i => ad (20 + 4 * i))))) := by
  refine zMR.of (by decide +kernel) (Nat.le_of_ble_eq_true rfl) ?_
  intro p e s m below meth c ls hx hb hr hml hown hlk hT hP hK hl
  have hl : lv_has ls 5 [(0, .ref (ad 13)), (1, .int y), (2, .int te)] := hl
  have L : ∀ (n k : Nat) (ls : Array Slot), k + n = 30 → (xF (XI 11) (XI 12) y te (ng - k) k).map (fun i => ad (20 + 4 * i)) = ((xF (XI 11) (XI 12) y te ng 0).map (fun i => ad (20 + 4 * i))) → lv_has ls 5 [(3, .int (nI k)), (0, .ref (ad 13)), (1, .int y), (2, .int te)] → W p l e (zRm 0 (0) 0 0) s m ([.ref (ad 13), .int y, .int te] : List Value).toArray below meth c s.heap [] 0 0 (MQ below (zQR (some (va_rf ((xF (XI 11) (XI 12) y te ng 0).map (fun i => ad (20 + 4 * i)))))) ([.ref (ad 13), .int y, .int te] : List Value).toArray s 0 0 (fun _ => False)) (F0 m 2 ls []) := by
    intro n
    induction n with
    | zero =>
      intro k ls hkn hv hl
      refine lv_iload_n hx hb dX3_findGeneration_2 rfl (lv_at hl 0 rfl) ?_
      refine lv_aload_n hx hb dX3_findGeneration_3 rfl (lv_at hl 1 rfl) ?_
      refine gf_X3_17 hx hb hT hown hK (hP.at (hI.1 13 (by decide)) rfl) rfl dX3_findGeneration_4 ?_
      refine z_glen hx hb hK (hP.at (hI.1 15 (by decide)) rfl) (v := 30) rfl dX3_findGeneration_7 ?_
      refine lv_icmp_ge (tgt := 51) hx hb dX3_findGeneration_8 (by decide) (fun c_1 => ?_) (fun c_1 => ?_)
      · refine lv_null hx hb dX3_findGeneration_51 ?_
        exact zR_a hx hb hr hlk dX3_findGeneration_52 (Or.inl rfl) (by rw [← hv, show ng - k = 0 by omega]; rfl)
      · exact absurd (nI_le (a := 30) (b := k) (by omega) (by omega)) c_1
    | succ n ih =>
      intro k ls hkn hv hl
      have hk : k < 30 := by omega
      refine lv_iload_n hx hb dX3_findGeneration_2 rfl (lv_at hl 0 rfl) ?_
      refine lv_aload_n hx hb dX3_findGeneration_3 rfl (lv_at hl 1 rfl) ?_
      refine gf_X3_17 hx hb hT hown hK (hP.at (hI.1 13 (by decide)) rfl) rfl dX3_findGeneration_4 ?_
      refine z_glen hx hb hK (hP.at (hI.1 15 (by decide)) rfl) (v := 30) rfl dX3_findGeneration_7 ?_
      refine lv_icmp_ge (tgt := 51) hx hb dX3_findGeneration_8 (by decide) (fun c_2 => ?_) (fun c_2 => ?_)
      · exact absurd c_2 (nI_ge (a := k) (b := 30) hk (by decide))
      · refine lv_aload_n hx hb dX3_findGeneration_11 rfl (lv_at hl 1 rfl) ?_
        refine gf_X3_17 hx hb hT hown hK (hP.at (hI.1 13 (by decide)) rfl) rfl dX3_findGeneration_12 ?_
        refine lv_iload_n hx hb dX3_findGeneration_15 rfl (lv_at hl 0 rfl) ?_
        refine z_galdN hx hb hK (hP.at (hI.1 15 (by decide)) rfl) (hk) (by decide) rfl dX3_findGeneration_16 ?_
        rcases Nat.lt_or_ge k ng with hg | hg
        · rw [show rGen ad ng k = some (ad (20 + 4 * k)) from if_pos hg]
          show W _ _ _ _ _ _ _ _ _ _ _ _ _ _ _ (F0 m 17 ls (.ref (ad (20 + 4 * k)) :: []))
          refine lv_astore (lv' := [(4, .ref (ad (20 + 4 * k))), (3, .int (nI k)), (0, .ref (ad 13)), (1, .int y), (2, .int te)]) hx hb dX3_findGeneration_17 hl (by decide) rfl (fun ls hl => ?_)
          refine lv_aload hx hb dX3_findGeneration_19 (lv_at hl 0 rfl) ?_
          refine lv_ifnull hx hb dX3_findGeneration_21 ?_
          refine lv_aload hx hb dX3_findGeneration_24 (lv_at hl 0 rfl) ?_
          refine gf_X3_196 hx hb hT hown hK (hP.at (hI.2.1 k hg).1 gS_0) rfl dX3_findGeneration_26 ?_
          refine lv_iload_n hx hb dX3_findGeneration_29 rfl (lv_at hl 3 rfl) ?_
          refine lv_icmp_ne (tgt := 45) hx hb dX3_findGeneration_30 (by decide) (fun c_3 => ?_) (fun c_3 => ?_)
          · refine lv_iinc (v := nI (k + 1)) (lv' := [(3, .int (nI (k + 1))), (4, .ref (ad (20 + 4 * k))), (0, .ref (ad 13)), (1, .int y), (2, .int te)]) hx hb dX3_findGeneration_45 hl (k := 1) rfl (nI_1 k) (by decide) rfl (fun ls hl => ?_)
            refine lv_goto (tgt := 2) hx hb dX3_findGeneration_48 (by decide) ?_
            exact ih (k + 1) _ (by omega) (by rw [← hv, show ng - k = ng - (k + 1) + 1 by omega]; simp only [xF]; rw [if_neg (fun h => c_3 h.1)]) (lv_sub hl [0, 2, 3, 4] rfl)
          · refine lv_aload hx hb dX3_findGeneration_33 (lv_at hl 0 rfl) ?_
            refine gf_X3_199 hx hb hT hown hK (hP.at (hI.2.1 k hg).1 gS_0) rfl dX3_findGeneration_35 ?_
            refine lv_iload_n hx hb dX3_findGeneration_38 rfl (lv_at hl 4 rfl) ?_
            refine lv_icmp_ne (tgt := 45) hx hb dX3_findGeneration_39 (by decide) (fun c_4 => ?_) (fun c_4 => ?_)
            · refine lv_iinc (v := nI (k + 1)) (lv' := [(3, .int (nI (k + 1))), (4, .ref (ad (20 + 4 * k))), (0, .ref (ad 13)), (1, .int y), (2, .int te)]) hx hb dX3_findGeneration_45 hl (k := 1) rfl (nI_1 k) (by decide) rfl (fun ls hl => ?_)
              refine lv_goto (tgt := 2) hx hb dX3_findGeneration_48 (by decide) ?_
              exact ih (k + 1) _ (by omega) (by rw [← hv, show ng - k = ng - (k + 1) + 1 by omega]; simp only [xF]; rw [if_neg (fun h => c_4 h.2)]) (lv_sub hl [0, 2, 3, 4] rfl)
            · refine lv_aload hx hb dX3_findGeneration_42 (lv_at hl 0 rfl) ?_
              exact zR_a hx hb hr hlk dX3_findGeneration_44 (Or.inr ⟨_, rfl⟩) (by rw [← hv, show ng - k = ng - (k + 1) + 1 by omega]; simp only [xF]; rw [if_pos ⟨c_3, c_4⟩]; rfl)
        · have hg : ¬ k < ng := Nat.not_lt.mpr hg
          rw [show rGen ad ng k = none from if_neg hg]
          show W _ _ _ _ _ _ _ _ _ _ _ _ _ _ _ (F0 m 17 ls (.null :: []))
          refine lv_astoreN (lv' := [(4, .null), (3, .int (nI k)), (0, .ref (ad 13)), (1, .int y), (2, .int te)]) hx hb dX3_findGeneration_17 hl (by decide) rfl (fun ls hl => ?_)
          refine lv_aloadN hx hb dX3_findGeneration_19 (lv_at hl 0 rfl) ?_
          refine lv_ifnullN (tgt := 45) hx hb dX3_findGeneration_21 (by decide) ?_
          refine lv_iinc (v := nI (k + 1)) (lv' := [(3, .int (nI (k + 1))), (4, .null), (0, .ref (ad 13)), (1, .int y), (2, .int te)]) hx hb dX3_findGeneration_45 hl (k := 1) rfl (nI_1 k) (by decide) rfl (fun ls hl => ?_)
          refine lv_goto (tgt := 2) hx hb dX3_findGeneration_48 (by decide) ?_
          exact ih (k + 1) _ (by omega) (by rw [← hv, show ng - k = 0 by omega, show ng - (k + 1) = 0 by omega]; rfl) (lv_sub hl [0, 2, 3, 4] rfl)
  refine lv_iconst (v := 0) hx hb dX3_findGeneration_0 (by decide) ?_
  refine lv_istore_n (lv' := [(3, .int 0), (0, .ref (ad 13)), (1, .int y), (2, .int te)]) hx hb dX3_findGeneration_1 rfl hl (by decide) rfl (fun ls hl => ?_)
  exact L 30 0 _ (by omega) rfl (lv_sub hl [0, 1, 2, 3] rfl)
set_option maxHeartbeats 4000000 in
set_option maxRecDepth 100000 in
theorem c_X3_ratioIn (l : Launch) (r : Nat) (hr1 : r ∈ Rs) (f : Nat → Int64) (he : gS ks ad np ng G MI MJ XI XJ r = .inl (ks 1, 21, .inr (.inl f))) (t : Int32) : zMR l yX3_ratioIn cX3_ratioIn 2 ((some .long)) 0 0 D ks [.ref (ad r), .int t] (zP D Rs ad (gS ks ad np ng G MI MJ XI XJ)) (some (.long (fRat f t))) := by
  refine zMR.of (by decide +kernel) (Nat.le_of_ble_eq_true rfl) ?_
  intro p e s m below meth c ls hx hb hr hml hown hlk hT hP hK hl
  have hl : lv_has ls 2 [(0, .ref (ad r)), (1, .int t)] := hl
  refine lv_iload_n hx hb dX3_ratioIn_0 rfl (lv_at hl 1 rfl) ?_
  refine lv_if_lt (tgt := 16) hx hb dX3_ratioIn_1 (by decide) (fun c_1 => ?_) (fun c_1 => ?_)
  · refine lv_ldc2 (v := (-1)) hx hb hown (hT _ kl_X3_28) dX3_ratioIn_16 ?_
    exact zR_l hx hb hr hlk dX3_ratioIn_19 ((if_neg (fun h => absurd h.1 (Int32.not_le.mpr c_1))).symm)
  · refine lv_iload_n hx hb dX3_ratioIn_4 rfl (lv_at hl 1 rfl) ?_
    refine lv_aload_n hx hb dX3_ratioIn_5 rfl (lv_at hl 0 rfl) ?_
    refine z_jlen hx hb hK (hP.at hr1 he) (v := 21) rfl dX3_ratioIn_6 ?_
    refine lv_icmp_ge (tgt := 16) hx hb dX3_ratioIn_7 (by decide) (fun c_2 => ?_) (fun c_2 => ?_)
    · refine lv_ldc2 (v := (-1)) hx hb hown (hT _ kl_X3_28) dX3_ratioIn_16 ?_
      exact zR_l hx hb hr hlk dX3_ratioIn_19 ((if_neg (fun h => absurd h.2 (Int32.not_lt.mpr c_2))).symm)
    · refine lv_aload_n hx hb dX3_ratioIn_10 rfl (lv_at hl 0 rfl) ?_
      refine lv_iload_n hx hb dX3_ratioIn_11 rfl (lv_at hl 1 rfl) ?_
      refine z_lald hx hb hK (hP.at hr1 he) (z_vpin c_1 c_2 rfl) dX3_ratioIn_12 ?_
      refine lv_goto (tgt := 19) hx hb dX3_ratioIn_13 (by decide) ?_
      exact zR_l hx hb hr hlk dX3_ratioIn_19 ((if_pos ⟨Int32.not_lt.mp c_1, Int32.not_le.mp c_2⟩).symm)
end ZM1
