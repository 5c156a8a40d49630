/-! begin -/
section ZB3
variable {D : va_G} {ks : Nat → ClassId} {ad : Nat → Nat} {np ng : Nat} {G : Nat → Nat} {MI : Nat → Nat → Int32} {MJ : Nat → Nat → Int64} {XI : Nat → Nat → Int32} {XJ : Nat → Nat → Int64} {Rs : List Nat}
def zAll (Rs : List Nat) (np ng : Nat) : Prop := ∀ r ∈ Rs, (13 ≤ r ∧ r < 18) ∨ (∃ i, i < ng ∧ (r = 20 + 4 * i ∨ r = 21 + 4 * i)) ∨ ∃ j, j < np ∧ (r = 22 + 4 * j ∨ r = 23 + 4 * j)
theorem zAll.not {r : Nat} (h : zAll Rs np ng) (h1 : 18 ≤ r) (h2 : ∀ i, i < ng → r ≠ 20 + 4 * i ∧ r ≠ 21 + 4 * i) (h3 : ∀ j, j < np → r ≠ 22 + 4 * j ∧ r ≠ 23 + 4 * j) : r ∉ Rs := fun hr => by
  rcases h r hr with q | ⟨i, hi, q | q⟩ | ⟨j, hj, q | q⟩
  · omega
  · exact (h2 i hi).1 q
  · exact (h2 i hi).2 q
  · exact (h3 j hj).1 q
  · exact (h3 j hj).2 q
/-- the world seen from other addresses, more policies and generations, where the old roles are as they were -/
theorem gS_more {ad' : Nat → Nat} {np' ng' : Nat} {G' : Nat → Nat} {XI' : Nat → Nat → Int32} {XJ' : Nat → Nat → Int64} (hall : zAll Rs np ng) (hI : zIn Rs np ng) (hG : ∀ j, j < np → G j < ng) (ha : ∀ r ∈ Rs, ad' r = ad r) (hGe : ∀ j, j < np → G' j = G j)
    (e5 : XJ' 5 = XJ 5) (e6 : XJ' 6 = XJ 6) (c11 : ∀ i, i < ng → XI' 11 i = XI 11 i) (c12 : ∀ i, i < ng → XI' 12 i = XI 12 i) (d7 : ∀ i, i < ng → XJ' 7 i = XJ 7 i) (d8 : ∀ i, i < ng → XJ' 8 i = XJ 8 i)
    (c13 : ∀ j, j < np → XI' 13 j = XI 13 j) (c14 : ∀ j, j < np → XI' 14 j = XI 14 j) (c15 : ∀ j, j < np → XI' 15 j = XI 15 j) (d9 : ∀ j, j < np → XJ' 9 j = XJ 9 j) (d10 : ∀ j, j < np → XJ' 10 j = XJ 10 j) (d11 : ∀ j, j < np → XJ' 11 j = XJ 11 j) :
    ∀ r ∈ Rs, r ≠ 13 → r ≠ 14 → r ≠ 15 → gS ks ad' np' ng' G' MI MJ XI' XJ' r = gS ks ad np ng G MI MJ XI XJ r := by
  intro r hr h13 h14 h15
  have b : ∀ k, (13 ≤ k ∧ k < 18) → ad' k = ad k := fun k hk => ha k (hI.1 k hk)
  rcases hall r hr with q | ⟨i, hi, rfl | rfl⟩ | ⟨j, hj, rfl | rfl⟩
  · rw [gS_lo (by omega), gS_lo (by omega)]
    rcases r_20 (r := r) (by omega) with rfl | rfl | rfl | rfl | rfl | rfl | rfl | rfl | rfl | rfl | rfl | rfl | rfl | rfl | rfl | rfl | rfl | rfl | rfl | rfl <;> first | (exact absurd q (by decide)) | (exact absurd rfl h13) | (exact absurd rfl h14) | (exact absurd rfl h15) | (simp only [gLo, e5, e6]; done) | (simp only [gLo, eMod, e5, e6]; rw [b 1 (by decide), b 2 (by decide), b 3 (by decide), b 4 (by decide), b 5 (by decide), b 6 (by decide), b 7 (by decide), b 8 (by decide), b 9 (by decide), b 10 (by decide), b 11 (by decide)]) | rfl
  · rw [gS_0, gS_0]
    simp only [gHi, c11 i hi, c12 i hi, d7 i hi, ha _ (hI.2.1 i hi).2]
  · rw [gS_1, gS_1]
    simp only [gHi, d8 i hi]
  · rw [gS_2, gS_2]
    simp only [gHi, c13 j hj, c14 j hj, c15 j hj, d10 j hj, d11 j hj, ha _ (hI.2.2 j hj).2, hGe j hj, ha _ (hI.2.1 _ (hG j hj)).1]
  · rw [gS_3, gS_3]
    simp only [gHi, d9 j hj]
/-- an address more for a policy that is not yet counted -/
theorem gS_ad2 {q : Nat} : gS ks (va_up ad (22 + 4 * np) q) np ng G MI MJ XI XJ = gS ks ad np ng G MI MJ XI XJ := by
  have b : ∀ k, k ≠ 22 + 4 * np → va_up ad (22 + 4 * np) q k = ad k := fun k hk => va_up_ne _ _ hk
  funext r
  rcases r_cases r with h | ⟨i, rfl⟩ | ⟨i, rfl⟩ | ⟨i, rfl⟩ | ⟨i, rfl⟩
  · rw [gS_lo h, gS_lo h]
    have e1 : rPol (va_up ad (22 + 4 * np) q) np = rPol ad np := by
      funext k
      unfold rPol
      split
      · rw [b _ (by omega)]
      · rfl
    have e2 : rGen (va_up ad (22 + 4 * np) q) ng = rGen ad ng := by
      funext k
      unfold rGen
      split
      · rw [b _ (by omega)]
      · rfl
    rcases r_20 h with rfl | rfl | rfl | rfl | rfl | rfl | rfl | rfl | rfl | rfl | rfl | rfl | rfl | rfl | rfl | rfl | rfl | rfl | rfl | rfl <;> first | rfl | (simp only [gLo, e1, e2]; done) | (simp only [gLo, eOff]; rw [b 14 (by omega), b 15 (by omega), b 16 (by omega), b 17 (by omega)]) | (simp only [gLo, eMod]; rw [b 1 (by omega), b 2 (by omega), b 3 (by omega), b 4 (by omega), b 5 (by omega), b 6 (by omega), b 7 (by omega), b 8 (by omega), b 9 (by omega), b 10 (by omega), b 11 (by omega)])
  · rw [gS_0, gS_0]; simp only [gHi]; rw [b _ (by omega)]
  · rw [gS_1, gS_1]; rfl
  · rw [gS_2, gS_2]; simp only [gHi]; rw [b _ (by omega), b _ (by omega)]
  · rw [gS_3, gS_3]; rfl
def bI (XI : Nat → Nat → Int32) (np : Nat) (pr su : Int32) : Nat → Nat → Int32 := u2 (u2 (u2 (u2 XI 13 np pr) 14 np su) 15 np 0) 10 0 (nI (np + 1))
def bJ (XJ : Nat → Nat → Int64) (np : Nat) : Nat → Nat → Int64 := u2 (u2 (u2 XJ 9 np 0) 10 np 0) 11 np (-1)
def bG (G : Nat → Nat) (np i : Nat) : Nat → Nat := fun j => if j = np then i else G j
def nIx (XI : Nat → Nat → Int32) (ng : Nat) (te : Int32) : Nat → Nat → Int32 := u2 (u2 (u2 XI 11 ng (XI 10 2)) 12 ng te) 10 1 (nI (ng + 1))
def nJx (XJ : Nat → Nat → Int64) (ng : Nat) (pr : Int32) : Nat → Nat → Int64 := u2 (u2 XJ 7 ng (0 + Int32.toInt64 pr)) 8 ng 0
/-- the world behind a begin -/
def bW (D : va_G) (ks : Nat → ClassId) (ad : Nat → Nat) (Rs : List Nat) (sz np' ng' : Nat) (G' : Nat → Nat) (MI : Nat → Nat → Int32) (MJ : Nat → Nat → Int64) (XI' : Nat → Nat → Int32) (XJ' : Nat → Nat → Int64) (H : Heap) : Prop :=
  ∃ (ad' : Nat → Nat) (Rs' : List Nat), (∀ r ∈ Rs, r ∈ Rs' ∧ ad' r = ad r) ∧ zIn Rs' np' ng' ∧ zAll Rs' np' ng' ∧ zD (zA Rs ad sz) Rs' ad' ∧ zP D Rs' ad' (gS ks ad' np' ng' G' MI MJ XI' XJ') H
set_option maxHeartbeats 4000000 in
set_option maxRecDepth 100000 in
theorem c_X3_begin_old (l : Launch) (hD0 : zD (fun _ => True) Rs ad) (hI : zIn Rs np ng) (hall : zAll Rs np ng) (te pr su : Int32) (hcnt0 : XI 10 0 = nI np) (hnp : np < 30) (hG : ∀ j, j < np → G j < ng) (hG30 : ng ≤ 30) (h0 : fIn te 2 20 = 1) (h1 : fIn pr 1 1000 = 1) (h2 : fIn su 0 100000 = 1) (i : Nat) (hi : i < ng) (hf : xF (XI 11) (XI 12) (XI 10 2) te ng 0 = some i) (sz : Nat) : zMW l yX3_begin cX3_begin 5 (some .int) 4 90 2 8 D ks sz [.ref (ad 13), .int te, .int pr, .int su] (zP D Rs ad (gS ks ad np ng G MI MJ XI XJ)) (some (.int (nI np))) (bW D ks ad Rs sz (np + 1) ng (bG G np i) MI MJ (bI XI np pr su) (bJ (u2 XJ 7 i (XJ 7 i + Int32.toInt64 pr)) np)) (zA Rs ad sz) := by
  refine zMW.of (by decide +kernel) (Nat.le_of_ble_eq_true rfl) ?_
  intro p e s m below meth c ls hx hb hr hml hown hlk hT hsz hP hK hl hin
  have hl : lv_has ls 5 [(0, .ref (ad 13)), (1, .int te), (2, .int pr), (3, .int su)] := hl
  subst hsz
  have hD := hD0.self (sz := s.heap.size)
  have hA : ∀ q : Nat, s.heap.size ≤ q → zA Rs ad s.heap.size q := fun q h => Or.inr h
  have hS : va_S (zA Rs ad s.heap.size) s.heap s.heap [] := va_S.rf
  refine lv_iload_n hx hb dX3_begin_0 rfl (lv_at hl 1 rfl) ?_
  refine z_backR1 (z_runS ⟨hx, hb, hml, hown, hT⟩ (rest := []) (As := [.int te]) (c_X3_isTerm l D ks te ) k_X3_46 (z_preR hK trivial) rfl ⟨Nat.le_of_ble_eq_true rfl, Nat.le_of_ble_eq_true rfl⟩ hl.1 rfl (Nat.le_of_ble_eq_true rfl) dX3_begin_1 ⟨Nat.le_of_ble_eq_true rfl, Nat.le_of_ble_eq_true rfl⟩) ?_
  refine lv_if_eq (tgt := 28) hx hb dX3_begin_4 (by decide) (fun c_1 => ?_) (fun c_1 => ?_)
  · exact absurd ((h0).symm.trans c_1) (by decide)
  · refine lv_iload_n hx hb dX3_begin_7 rfl (lv_at hl 2 rfl) ?_
    refine lv_iconst (v := 1) hx hb dX3_begin_8 (by decide) ?_
    refine lv_sipush (v := 1000) hx hb dX3_begin_9 (by decide) ?_
    refine z_backR1 (z_runS ⟨hx, hb, hml, hown, hT⟩ (rest := []) (As := [.int pr, .int 1, .int 1000]) (c_X3_isWithin l D ks pr 1 1000 ) k_X3_50 (z_preR hK trivial) rfl ⟨Nat.le_of_ble_eq_true rfl, Nat.le_of_ble_eq_true rfl⟩ hl.1 rfl (Nat.le_of_ble_eq_true rfl) dX3_begin_12 ⟨Nat.le_of_ble_eq_true rfl, Nat.le_of_ble_eq_true rfl⟩) ?_
    refine lv_if_eq (tgt := 28) hx hb dX3_begin_15 (by decide) (fun c_2 => ?_) (fun c_2 => ?_)
    · exact absurd ((h1).symm.trans c_2) (by decide)
    · refine lv_iload_n hx hb dX3_begin_18 rfl (lv_at hl 3 rfl) ?_
      refine lv_iconst (v := 0) hx hb dX3_begin_19 (by decide) ?_
      refine lv_ldc (v := 100000) hx hb hown (hT _ ki_X3_54) dX3_begin_20 ?_
      refine z_backR1 (z_runS ⟨hx, hb, hml, hown, hT⟩ (rest := []) (As := [.int su, .int 0, .int 100000]) (c_X3_isWithin l D ks su 0 100000 ) k_X3_50 (z_preR hK trivial) rfl ⟨Nat.le_of_ble_eq_true rfl, Nat.le_of_ble_eq_true rfl⟩ hl.1 rfl (Nat.le_of_ble_eq_true rfl) dX3_begin_22 ⟨Nat.le_of_ble_eq_true rfl, Nat.le_of_ble_eq_true rfl⟩) ?_
      refine lv_if_ne (tgt := 38) hx hb dX3_begin_25 (by decide) (fun c_3 => ?_) (fun c_3 => ?_)
      · refine lv_aload_n hx hb dX3_begin_38 rfl (lv_at hl 0 rfl) ?_
        refine gf_X3_62 hx hb hT hown hK (hP.at (hI.1 13 (by decide)) rfl) rfl dX3_begin_39 ?_
        rw [show XI 10 0 = nI np from hcnt0]
        refine lv_istore (lv' := [(4, .int (nI np)), (0, .ref (ad 13)), (1, .int te), (2, .int pr), (3, .int su)]) hx hb dX3_begin_42 hl (by decide) rfl (fun ls hl => ?_)
        refine lv_iload hx hb dX3_begin_44 (lv_at hl 0 rfl) ?_
        refine lv_if_lt (tgt := 59) hx hb dX3_begin_46 (by decide) (fun c_4 => ?_) (fun c_4 => ?_)
        · exact absurd c_4 (nI_pos (by omega))
        · refine lv_iload hx hb dX3_begin_49 (lv_at hl 0 rfl) ?_
          refine lv_aload_n hx hb dX3_begin_51 rfl (lv_at hl 1 rfl) ?_
          refine gf_X3_11 hx hb hT hown hK (hP.at (hI.1 13 (by decide)) rfl) rfl dX3_begin_52 ?_
          refine z_plen hx hb hK (hP.at (hI.1 14 (by decide)) rfl) (v := 30) rfl dX3_begin_55 ?_
          refine lv_icmp_lt (tgt := 69) hx hb dX3_begin_56 (by decide) (fun c_5 => ?_) (fun c_5 => ?_)
          · refine lv_aload_n hx hb dX3_begin_69 rfl (lv_at hl 1 rfl) ?_
            refine gf_X3_11 hx hb hT hown hK (hP.at (hI.1 13 (by decide)) rfl) rfl dX3_begin_70 ?_
            refine lv_iload hx hb dX3_begin_73 (lv_at hl 0 rfl) ?_
            have hl := (show lv_has ls 5 [(4, .int (nI np)), (0, .ref (ad 13)), (1, .int te), (2, .int pr), (3, .int su)] from (lv_sub hl [0, 1, 2, 3, 4] rfl))
            have hn2 : 22 + 4 * np ∉ Rs := hall.not (by omega) (fun i hi => ⟨by omega, by omega⟩) (fun j hj => ⟨by omega, by omega⟩)
            refine z_new (ci := 2) (fs := [.null, .int 0, .int 0, .null, .long 0, .int 0, .long 0]) (r := 22 + 4 * np) hx hb hT hown hK ly_X2 tyX2 tyX2_ok cl_X3_9 mk_X2 in_X2 hP hD hS hA rfl (fun j hj => by rcases (show j = 0 ∨ j = 1 ∨ j = 2 ∨ j = 3 ∨ j = 4 ∨ j = 5 ∨ j = 6 by omega) with rfl | rfl | rfl | rfl | rfl | rfl | rfl <;> rfl) hn2 (Nat.le_of_ble_eq_true rfl) (Nat.le_of_ble_eq_true rfl) dX3_begin_75 (fun q2 H hP1 hD1 hq2 hS => ?_)
            have hzH : s.heap.size ≤ H.size := hS.1
            have hAc : ∀ x, zA ((22 + 4 * np) :: Rs) (va_up ad (22 + 4 * np) q2) H.size x → zA Rs ad s.heap.size x := fun x hx => zA_cons (Nat.le_refl _) hq2 x (zA_cons_le hzH x hx)
            obtain ⟨ad1, had1⟩ : ∃ z, z = va_up ad (22 + 4 * np) q2 := ⟨_, rfl⟩
            rw [← had1] at hP1 hD1 hAc
            have a1 : ∀ k, k ≠ 22 + 4 * np → ad1 k = ad k := fun k hk => by rw [had1, va_up_ne _ _ hk]
            have a2 : ad1 (22 + 4 * np) = q2 := by rw [had1, va_up_self]
            have hgad : gS ks ad np ng G MI MJ XI XJ = gS ks ad1 np ng G MI MJ XI XJ := by rw [had1]; exact gS_ad2.symm
            obtain ⟨g1, hg1⟩ : ∃ z, z = va_up (gS ks ad np ng G MI MJ XI XJ) (22 + 4 * np) (.inr (2, [.null, .int 0, .int 0, .null, .long 0, .int 0, .long 0])) := ⟨_, rfl⟩
            rw [← hg1] at hP1
            have hgS1 : ∀ r ∈ Rs, g1 r = gS ks ad1 np ng G MI MJ XI XJ r := fun r hr => by have hne : r ≠ 22 + 4 * np := fun h => hn2 (h ▸ hr); rw [hg1, va_up_ne _ _ hne, hgad]
            have hgr2 : g1 (22 + 4 * np) = .inr (2, [.null, .int 0, .int 0, .null, .long 0, .int 0, .long 0]) := by rw [hg1, va_up_self]
            have hDT : zD (fun _ => True) ((22 + 4 * np) :: Rs) ad1 := hD1.weak (fun _ _ => trivial)
            refine lv_dup hx hb dX3_begin_78 rfl ?_
            refine lv_aload_n hx hb dX3_begin_79 rfl (lv_at hl 1 rfl) ?_
            refine lv_iload_n hx hb dX3_begin_80 rfl (lv_at hl 2 rfl) ?_
            refine lv_iload_n hx hb dX3_begin_81 rfl (lv_at hl 3 rfl) ?_
            have e13 : ad1 13 = ad 13 := a1 13 (by omega)
            have hM := c_X3_joinGeneration_old (D := D) l (22 + 4 * np) hDT hI hgS1 hG30 te pr i hi hf H.size
            rw [e13] at hM
            have t13 : va_at D vwCl (ad 13, gS ks ad1 np ng G MI MJ XI XJ 13) H := by have h1 := hP1.at (List.mem_cons_of_mem _ (hI.1 13 (by decide))) (hgS1 13 (hI.1 13 (by decide))); rw [e13] at h1; exact h1
            refine z_backA (z_runV ⟨hx, hb, hml, hown, hT⟩ (rest := [.ref q2, .ref q2, .int (nI np), .ref (ad 14)]) (As := [.int te, .int pr]) hM k_X3_70 (z_preWV hK hP1 t13 rfl) rfl ⟨Nat.le_of_ble_eq_true rfl, Nat.le_of_ble_eq_true rfl⟩ hl.1 rfl (Nat.le_of_ble_eq_true rfl) dX3_begin_82 ⟨Nat.le_of_ble_eq_true rfl, Nat.le_of_ble_eq_true rfl⟩) hS hAc (fun q H1 locs1 hB hz1 hS => ?_)
            obtain ⟨hq, hP2⟩ := hB
            subst hq
            have hDA := hD1
            have hr2m : 22 + 4 * np ∈ (22 + 4 * np) :: Rs := List.mem_cons_self
            have har2 : ad1 (22 + 4 * np) = q2 := a2
            have hgr : (va_up g1 (20 + 4 * i) (.inr (1, [.int (XI 11 i), .int (XI 12 i), .ref (ad1 (21 + 4 * i)), .long (XJ 7 i + Int32.toInt64 pr)]))) (22 + 4 * np) = .inr (2, [.null, .int 0, .int 0, .null, .long 0, .int 0, .long 0]) := (va_up_ne _ _ (by omega)).trans hgr2
            have hn3 : 23 + 4 * np ∉ (22 + 4 * np) :: Rs := fun h => (List.mem_cons.mp h).elim (fun h => by omega) (hall.not (by omega) (fun i hi => ⟨by omega, by omega⟩) (fun j hj => ⟨by omega, by omega⟩))
            refine lv_iload_n hx hb dX3_begin_85 rfl (lv_at hl 3 rfl) ?_
            refine lv_iload_n hx hb dX3_begin_86 rfl (lv_at hl 4 rfl) ?_
            have hDT2 : zD (fun _ => True) ((22 + 4 * np) :: Rs) ad1 := hDA.weak (fun _ _ => trivial)
            have hzH1 : s.heap.size ≤ H1.size := hS.1
            have hAc2 : ∀ x, zA ((22 + 4 * np) :: Rs) ad1 H1.size x → zA Rs ad s.heap.size x := hDA.free (fun x hx => hA x (Nat.le_trans hzH1 hx))
            refine z_backW0 (z_runIN ⟨hx, hb, hml, hown, hT⟩ hK (rest := [.ref q2, .int (nI np), .ref (ad 14)]) (As := [.ref (ad1 (20 + 4 * i)), .int pr, .int su]) (c_X2_init (D := D) (ks := ks) l hDT2 (22 + 4 * np) (23 + 4 * np) q2 hr2m har2 hn3 hgr (ad1 (20 + 4 * i)) pr su H1.size) k_X3_74 (z_preW hK hP2) rfl ⟨Nat.le_of_ble_eq_true rfl, Nat.le_of_ble_eq_true rfl⟩ hl.1 rfl (Nat.le_of_ble_eq_true rfl) dX3_begin_87 ⟨Nat.le_of_ble_eq_true rfl, Nat.le_of_ble_eq_true rfl⟩) hS hAc2 (fun H2 locs2 hB hz2 hk2 hS => ?_)
            obtain ⟨qp, hqp, hP3, hDC⟩ := hB
            have hDE : zD (zA Rs ad s.heap.size) ((23 + 4 * np) :: (22 + 4 * np) :: Rs) (va_up ad1 (23 + 4 * np) qp) := hDC.weak hAc2
            obtain ⟨ad3, had3⟩ : ∃ z, z = va_up ad1 (23 + 4 * np) qp := ⟨_, rfl⟩
            rw [← had3] at hP3 hDE
            have c1 : ∀ k, k ≠ 22 + 4 * np → k ≠ 23 + 4 * np → ad3 k = ad k := fun k h1 h2 => by rw [had3, va_up_ne _ _ h2, a1 _ h1]
            have e14 : ad3 14 = ad 14 := c1 14 (by omega) (by omega)
            have e13 : ad3 13 = ad 13 := c1 13 (by omega) (by omega)
            have e22 : ad3 (22 + 4 * np) = q2 := by rw [had3, va_up_ne _ _ (by omega)]; exact har2
            obtain ⟨g3, hg3⟩ : ∃ z, z = va_up (va_up (va_up g1 (20 + 4 * i) (.inr (1, [.int (XI 11 i), .int (XI 12 i), .ref (ad1 (21 + 4 * i)), .long (XJ 7 i + Int32.toInt64 pr)]))) (22 + 4 * np) (.inr (2, [.ref (ad1 (20 + 4 * i)), .int pr, .int su, .ref qp, .long 0, .int 0, .long (-1)]))) (23 + 4 * np) (.inr (0, [.long 0])) := ⟨_, rfl⟩
            rw [← hg3] at hP3
            have g14 : g3 14 = gS ks ad1 np ng G MI MJ XI XJ 14 := by rw [hg3, va_up_ne _ _ (by omega), va_up_ne _ _ (by omega), va_up_ne _ _ (by omega)]; exact hgS1 14 (hI.1 14 (by decide))
            have g13 : g3 13 = .inr (3, [.ref (ad 14), .ref (ad 15), .ref (ad 16), .ref (ad 17), .int (XI 10 0), .int (XI 10 1), .int (XI 10 2), .int (XI 10 3), .int (XI 10 4), .int (XI 10 5), .int (XI 10 6), .int (XI 10 7), .long (XJ 4 0), .long (XJ 4 1)]) := by rw [hg3, va_up_ne _ _ (by omega), va_up_ne _ _ (by omega), va_up_ne _ _ (by omega), hgS1 13 (hI.1 13 (by decide)), ← hgad]; rfl
            have g22 : g3 (22 + 4 * np) = .inr (2, [.ref (ad1 (20 + 4 * i)), .int pr, .int su, .ref qp, .long 0, .int 0, .long (-1)]) := by rw [hg3, va_up_ne _ _ (by omega), va_up_self]
            refine pa_past hx hb hK hP3 hDE hS (List.mem_cons_of_mem _ (List.mem_cons_of_mem _ (hI.1 14 (by decide)))) e14 (g14.trans rfl) (List.mem_cons_of_mem _ hr2m) e22 g22 hnp dX3_begin_90 (fun H locs hP4 hS => ?_)
            refine lv_aload_n hx hb dX3_begin_91 rfl (lv_at hl 1 rfl) ?_
            refine lv_iload hx hb dX3_begin_92 (lv_at hl 0 rfl) ?_
            refine lv_iconst (v := 1) hx hb dX3_begin_94 (by decide) ?_
            refine lv_iadd hx hb dX3_begin_95 ?_
            rw [nI_1 np]
            refine pa_X3_62 hx hb hT hown hK hP4 hDE hS (List.mem_cons_of_mem _ (List.mem_cons_of_mem _ (hI.1 13 (by decide)))) e13 ((va_up_ne _ _ (by decide)).trans g13) (Nat.le_of_ble_eq_true rfl) dX3_begin_96 (fun H locs hP5 hS => ?_)
            refine lv_iload hx hb dX3_begin_99 (lv_at hl 0 rfl) ?_
            refine zW_i hx hb hr hlk hS (Nat.le_of_ble_eq_true rfl) (Nat.le_of_ble_eq_true rfl) dX3_begin_101 rfl ⟨ad3, ((23 + 4 * np) :: (22 + 4 * np) :: Rs), ?_, ?_, ?_, hDE, hP5.cast ?_⟩
            · intro r hr
              have h22 : r ≠ 22 + 4 * np := fun h => hn2 (h ▸ hr)
              have h23 : r ≠ 23 + 4 * np := fun h => hn3 (h ▸ List.mem_cons_of_mem _ hr)
              exact ⟨List.mem_cons_of_mem _ (List.mem_cons_of_mem _ (hr)), c1 r h22 h23⟩
            · refine ⟨fun r h => List.mem_cons_of_mem _ (List.mem_cons_of_mem _ (hI.1 r h)), fun i2 h2 => ?_, fun j2 h2 => ?_⟩
              · exact ⟨List.mem_cons_of_mem _ (List.mem_cons_of_mem _ ((hI.2.1 i2 h2).1)), List.mem_cons_of_mem _ (List.mem_cons_of_mem _ ((hI.2.1 i2 h2).2))⟩
              · rcases Nat.lt_or_ge j2 np with h | h
                · exact ⟨List.mem_cons_of_mem _ (List.mem_cons_of_mem _ ((hI.2.2 j2 h).1)), List.mem_cons_of_mem _ (List.mem_cons_of_mem _ ((hI.2.2 j2 h).2))⟩
                · rw [show j2 = np by omega]; exact ⟨(List.mem_cons_of_mem _ hr2m), List.mem_cons_self⟩
            · intro r hr
              rcases List.mem_cons.mp hr with rfl | hr
              · exact Or.inr (Or.inr ⟨np, by omega, Or.inr rfl⟩)
              rcases List.mem_cons.mp hr with rfl | hr
              · exact Or.inr (Or.inr ⟨np, by omega, Or.inl rfl⟩)
              rcases hall r hr with h | ⟨i2, h2, h⟩ | ⟨j2, h2, h⟩
              · exact Or.inl h
              · exact Or.inr (Or.inl ⟨i2, by omega, h⟩)
              · exact Or.inr (Or.inr ⟨j2, by omega, h⟩)
            · intro r hr
              have ha : ∀ r ∈ Rs, ad3 r = ad r := fun r hr => c1 r (fun h => hn2 (h ▸ hr)) (fun h => hn3 (h ▸ List.mem_cons_of_mem _ hr))
              have e3 : ad3 (23 + 4 * np) = qp := by rw [had3, va_up_self]
              by_cases h13 : r = 13
              · subst h13; rw [va_up_self, gS_lo (by decide)]; simp only [gLo, eOff]; rw [e14, c1 15 (by omega) (by omega), c1 16 (by omega) (by omega), c1 17 (by omega) (by omega)]; simp [bI, bJ, nIx, nJx, u2]
              by_cases h14 : r = 14
              · subst h14; rw [va_up_ne _ _ h13, va_up_self, gS_lo (by decide)]; simp only [gLo]; rw [show rPol ad3 (np + 1) = va_up (rPol ad1 np) np (some q2) from ?_]
                funext k; simp only [rPol, va_up]
                by_cases hk : k = np
                · subst hk; rw [if_pos (by omega), if_pos rfl, e22]
                · rw [if_neg hk]; by_cases hk2 : k < np
                  · rw [if_pos (by omega), if_pos hk2, c1 _ (by omega) (by omega), a1 _ (by omega)]
                  · rw [if_neg (by omega), if_neg hk2]
              rw [va_up_ne _ _ h13, va_up_ne _ _ h14]
              by_cases h23 : r = 23 + 4 * np
              · subst h23; rw [hg3, va_up_self, gS_3]; simp only [gHi]; simp [bJ, u2]
              by_cases h22 : r = 22 + 4 * np
              · subst h22; rw [g22, gS_2]; simp only [gHi]; rw [e3, show bG G np i np = i from if_pos rfl, c1 (20 + 4 * i) (by omega) (by omega), a1 (20 + 4 * i) (by omega)]; simp [bI, bJ, u2]
              rw [hg3, va_up_ne _ _ h23, va_up_ne _ _ h22]
              have hr : r ∈ Rs := (List.mem_cons.mp ((List.mem_cons.mp hr).resolve_left h23)).resolve_left h22
              by_cases h20 : r = 20 + 4 * i
              · subst h20; rw [va_up_self, gS_0]; simp only [gHi]; rw [c1 (21 + 4 * i) (by omega) (by omega), a1 (21 + 4 * i) (by omega)]; simp [bI, bJ, u2]
              rw [va_up_ne _ _ h20, hgS1 r hr, ← hgad]
              by_cases h15 : r = 15
              · subst h15; rw [gS_lo (by decide), gS_lo (by decide)]; simp only [gLo]; rw [show rGen ad3 ng = rGen ad ng from ?_]
                funext k; unfold rGen; split
                · rw [c1 _ (by omega) (by omega)]
                · rfl
              have key := gS_more (ks := ks) (MI := MI) (MJ := MJ) (XI := XI) (XJ := u2 XJ 7 i (XJ 7 i + Int32.toInt64 pr)) (np' := np + 1) (ng' := ng) (G' := bG G np i) (XI' := bI XI np pr su) (XJ' := bJ (u2 XJ 7 i (XJ 7 i + Int32.toInt64 pr)) np) hall hI hG ha (by intro j hj; simp [bG, Nat.ne_of_lt hj]) (by simp [bI, bJ, bG, nIx, nJx, u2]) (by simp [bI, bJ, bG, nIx, nJx, u2]) (by intro k hk; simp [bI, bJ, u2]) (by intro k hk; simp [bI, bJ, u2]) (by intro k hk; simp [bI, bJ, u2]) (by intro k hk; simp [bI, bJ, u2]) (by intro k hk; simp [bI, bJ, bG, nIx, nJx, u2, Nat.ne_of_lt hk]) (by intro k hk; simp [bI, bJ, bG, nIx, nJx, u2, Nat.ne_of_lt hk]) (by intro k hk; simp [bI, bJ, bG, nIx, nJx, u2, Nat.ne_of_lt hk]) (by intro k hk; simp [bI, bJ, bG, nIx, nJx, u2, Nat.ne_of_lt hk]) (by intro k hk; simp [bI, bJ, bG, nIx, nJx, u2, Nat.ne_of_lt hk]) (by intro k hk; simp [bI, bJ, bG, nIx, nJx, u2, Nat.ne_of_lt hk]) r hr h13 h14 h15
              rw [key]
              rcases r_cases r with h | ⟨k, rfl⟩ | ⟨k, rfl⟩ | ⟨k, rfl⟩ | ⟨k, rfl⟩
              · rw [gS_lo h, gS_lo h]; simp [u2]
              · rw [gS_0, gS_0]; simp only [gHi]; rw [u2_n (fun h => h20 (by rw [h]))]
              · rw [gS_1, gS_1]; simp [gHi, u2]
              · rw [gS_2, gS_2]; simp [gHi, u2]
              · rw [gS_3, gS_3]; simp [gHi, u2]
          · exact absurd (nI_lt (a := np) (b := 30) hnp (by decide)) c_5
      · exact absurd ((h2).symm.trans c_3) (by decide)
set_option maxHeartbeats 4000000 in
set_option maxRecDepth 100000 in
theorem c_X3_begin_new (l : Launch) (hD0 : zD (fun _ => True) Rs ad) (hI : zIn Rs np ng) (hall : zAll Rs np ng) (te pr su : Int32) (hcnt0 : XI 10 0 = nI np) (hnp : np < 30) (hG : ∀ j, j < np → G j < ng) (hG30 : ng ≤ 30) (h0 : fIn te 2 20 = 1) (h1 : fIn pr 1 1000 = 1) (h2 : fIn su 0 100000 = 1) (hg30 : ng < 30) (hcnt : XI 10 1 = nI ng) (hf : xF (XI 11) (XI 12) (XI 10 2) te ng 0 = none) (sz : Nat) : zMW l yX3_begin cX3_begin 5 (some .int) 4 90 4 13 D ks sz [.ref (ad 13), .int te, .int pr, .int su] (zP D Rs ad (gS ks ad np ng G MI MJ XI XJ)) (some (.int (nI np))) (bW D ks ad Rs sz (np + 1) (ng + 1) (bG G np ng) MI MJ (bI (nIx XI ng te) np pr su) (bJ (nJx XJ ng pr) np)) (zA Rs ad sz) := by
  refine zMW.of (by decide +kernel) (Nat.le_of_ble_eq_true rfl) ?_
  intro p e s m below meth c ls hx hb hr hml hown hlk hT hsz hP hK hl hin
  have hl : lv_has ls 5 [(0, .ref (ad 13)), (1, .int te), (2, .int pr), (3, .int su)] := hl
  subst hsz
  have hD := hD0.self (sz := s.heap.size)
  have hA : ∀ q : Nat, s.heap.size ≤ q → zA Rs ad s.heap.size q := fun q h => Or.inr h
  have hS : va_S (zA Rs ad s.heap.size) s.heap s.heap [] := va_S.rf
  refine lv_iload_n hx hb dX3_begin_0 rfl (lv_at hl 1 rfl) ?_
  refine z_backR1 (z_runS ⟨hx, hb, hml, hown, hT⟩ (rest := []) (As := [.int te]) (c_X3_isTerm l D ks te ) k_X3_46 (z_preR hK trivial) rfl ⟨Nat.le_of_ble_eq_true rfl, Nat.le_of_ble_eq_true rfl⟩ hl.1 rfl (Nat.le_of_ble_eq_true rfl) dX3_begin_1 ⟨Nat.le_of_ble_eq_true rfl, Nat.le_of_ble_eq_true rfl⟩) ?_
  refine lv_if_eq (tgt := 28) hx hb dX3_begin_4 (by decide) (fun c_1 => ?_) (fun c_1 => ?_)
  · exact absurd ((h0).symm.trans c_1) (by decide)
  · refine lv_iload_n hx hb dX3_begin_7 rfl (lv_at hl 2 rfl) ?_
    refine lv_iconst (v := 1) hx hb dX3_begin_8 (by decide) ?_
    refine lv_sipush (v := 1000) hx hb dX3_begin_9 (by decide) ?_
    refine z_backR1 (z_runS ⟨hx, hb, hml, hown, hT⟩ (rest := []) (As := [.int pr, .int 1, .int 1000]) (c_X3_isWithin l D ks pr 1 1000 ) k_X3_50 (z_preR hK trivial) rfl ⟨Nat.le_of_ble_eq_true rfl, Nat.le_of_ble_eq_true rfl⟩ hl.1 rfl (Nat.le_of_ble_eq_true rfl) dX3_begin_12 ⟨Nat.le_of_ble_eq_true rfl, Nat.le_of_ble_eq_true rfl⟩) ?_
    refine lv_if_eq (tgt := 28) hx hb dX3_begin_15 (by decide) (fun c_2 => ?_) (fun c_2 => ?_)
    · exact absurd ((h1).symm.trans c_2) (by decide)
    · refine lv_iload_n hx hb dX3_begin_18 rfl (lv_at hl 3 rfl) ?_
      refine lv_iconst (v := 0) hx hb dX3_begin_19 (by decide) ?_
      refine lv_ldc (v := 100000) hx hb hown (hT _ ki_X3_54) dX3_begin_20 ?_
      refine z_backR1 (z_runS ⟨hx, hb, hml, hown, hT⟩ (rest := []) (As := [.int su, .int 0, .int 100000]) (c_X3_isWithin l D ks su 0 100000 ) k_X3_50 (z_preR hK trivial) rfl ⟨Nat.le_of_ble_eq_true rfl, Nat.le_of_ble_eq_true rfl⟩ hl.1 rfl (Nat.le_of_ble_eq_true rfl) dX3_begin_22 ⟨Nat.le_of_ble_eq_true rfl, Nat.le_of_ble_eq_true rfl⟩) ?_
      refine lv_if_ne (tgt := 38) hx hb dX3_begin_25 (by decide) (fun c_3 => ?_) (fun c_3 => ?_)
      · refine lv_aload_n hx hb dX3_begin_38 rfl (lv_at hl 0 rfl) ?_
        refine gf_X3_62 hx hb hT hown hK (hP.at (hI.1 13 (by decide)) rfl) rfl dX3_begin_39 ?_
        rw [show XI 10 0 = nI np from hcnt0]
        refine lv_istore (lv' := [(4, .int (nI np)), (0, .ref (ad 13)), (1, .int te), (2, .int pr), (3, .int su)]) hx hb dX3_begin_42 hl (by decide) rfl (fun ls hl => ?_)
        refine lv_iload hx hb dX3_begin_44 (lv_at hl 0 rfl) ?_
        refine lv_if_lt (tgt := 59) hx hb dX3_begin_46 (by decide) (fun c_4 => ?_) (fun c_4 => ?_)
        · exact absurd c_4 (nI_pos (by omega))
        · refine lv_iload hx hb dX3_begin_49 (lv_at hl 0 rfl) ?_
          refine lv_aload_n hx hb dX3_begin_51 rfl (lv_at hl 1 rfl) ?_
          refine gf_X3_11 hx hb hT hown hK (hP.at (hI.1 13 (by decide)) rfl) rfl dX3_begin_52 ?_
          refine z_plen hx hb hK (hP.at (hI.1 14 (by decide)) rfl) (v := 30) rfl dX3_begin_55 ?_
          refine lv_icmp_lt (tgt := 69) hx hb dX3_begin_56 (by decide) (fun c_5 => ?_) (fun c_5 => ?_)
          · refine lv_aload_n hx hb dX3_begin_69 rfl (lv_at hl 1 rfl) ?_
            refine gf_X3_11 hx hb hT hown hK (hP.at (hI.1 13 (by decide)) rfl) rfl dX3_begin_70 ?_
            refine lv_iload hx hb dX3_begin_73 (lv_at hl 0 rfl) ?_
            have hl := (show lv_has ls 5 [(4, .int (nI np)), (0, .ref (ad 13)), (1, .int te), (2, .int pr), (3, .int su)] from (lv_sub hl [0, 1, 2, 3, 4] rfl))
            have hn2 : 22 + 4 * np ∉ Rs := hall.not (by omega) (fun i hi => ⟨by omega, by omega⟩) (fun j hj => ⟨by omega, by omega⟩)
            refine z_new (ci := 2) (fs := [.null, .int 0, .int 0, .null, .long 0, .int 0, .long 0]) (r := 22 + 4 * np) hx hb hT hown hK ly_X2 tyX2 tyX2_ok cl_X3_9 mk_X2 in_X2 hP hD hS hA rfl (fun j hj => by rcases (show j = 0 ∨ j = 1 ∨ j = 2 ∨ j = 3 ∨ j = 4 ∨ j = 5 ∨ j = 6 by omega) with rfl | rfl | rfl | rfl | rfl | rfl | rfl <;> rfl) hn2 (Nat.le_of_ble_eq_true rfl) (Nat.le_of_ble_eq_true rfl) dX3_begin_75 (fun q2 H hP1 hD1 hq2 hS => ?_)
            have hzH : s.heap.size ≤ H.size := hS.1
            have hAc : ∀ x, zA ((22 + 4 * np) :: Rs) (va_up ad (22 + 4 * np) q2) H.size x → zA Rs ad s.heap.size x := fun x hx => zA_cons (Nat.le_refl _) hq2 x (zA_cons_le hzH x hx)
            obtain ⟨ad1, had1⟩ : ∃ z, z = va_up ad (22 + 4 * np) q2 := ⟨_, rfl⟩
            rw [← had1] at hP1 hD1 hAc
            have a1 : ∀ k, k ≠ 22 + 4 * np → ad1 k = ad k := fun k hk => by rw [had1, va_up_ne _ _ hk]
            have a2 : ad1 (22 + 4 * np) = q2 := by rw [had1, va_up_self]
            have hgad : gS ks ad np ng G MI MJ XI XJ = gS ks ad1 np ng G MI MJ XI XJ := by rw [had1]; exact gS_ad2.symm
            obtain ⟨g1, hg1⟩ : ∃ z, z = va_up (gS ks ad np ng G MI MJ XI XJ) (22 + 4 * np) (.inr (2, [.null, .int 0, .int 0, .null, .long 0, .int 0, .long 0])) := ⟨_, rfl⟩
            rw [← hg1] at hP1
            have hgS1 : ∀ r ∈ Rs, g1 r = gS ks ad1 np ng G MI MJ XI XJ r := fun r hr => by have hne : r ≠ 22 + 4 * np := fun h => hn2 (h ▸ hr); rw [hg1, va_up_ne _ _ hne, hgad]
            have hgr2 : g1 (22 + 4 * np) = .inr (2, [.null, .int 0, .int 0, .null, .long 0, .int 0, .long 0]) := by rw [hg1, va_up_self]
            have hDT : zD (fun _ => True) ((22 + 4 * np) :: Rs) ad1 := hD1.weak (fun _ _ => trivial)
            refine lv_dup hx hb dX3_begin_78 rfl ?_
            refine lv_aload_n hx hb dX3_begin_79 rfl (lv_at hl 1 rfl) ?_
            refine lv_iload_n hx hb dX3_begin_80 rfl (lv_at hl 2 rfl) ?_
            refine lv_iload_n hx hb dX3_begin_81 rfl (lv_at hl 3 rfl) ?_
            have e13 : ad1 13 = ad 13 := a1 13 (by omega)
            have hn0 : 20 + 4 * ng ∉ (22 + 4 * np) :: Rs := fun h => (List.mem_cons.mp h).elim (fun h => by omega) (hall.not (by omega) (fun i hi => ⟨by omega, by omega⟩) (fun j hj => ⟨by omega, by omega⟩))
            have hn1 : 21 + 4 * ng ∉ (22 + 4 * np) :: Rs := fun h => (List.mem_cons.mp h).elim (fun h => by omega) (hall.not (by omega) (fun i hi => ⟨by omega, by omega⟩) (fun j hj => ⟨by omega, by omega⟩))
            have hM := c_X3_joinGeneration_new (D := D) l (22 + 4 * np) hDT hI hgS1 hG30 te pr hg30 hcnt hn0 hn1 hf H.size
            rw [e13] at hM
            have t13 : va_at D vwCl (ad 13, gS ks ad1 np ng G MI MJ XI XJ 13) H := by have h1 := hP1.at (List.mem_cons_of_mem _ (hI.1 13 (by decide))) (hgS1 13 (hI.1 13 (by decide))); rw [e13] at h1; exact h1
            refine z_backA (z_runV ⟨hx, hb, hml, hown, hT⟩ (rest := [.ref q2, .ref q2, .int (nI np), .ref (ad 14)]) (As := [.int te, .int pr]) hM k_X3_70 (z_preWV hK hP1 t13 rfl) rfl ⟨Nat.le_of_ble_eq_true rfl, Nat.le_of_ble_eq_true rfl⟩ hl.1 rfl (Nat.le_of_ble_eq_true rfl) dX3_begin_82 ⟨Nat.le_of_ble_eq_true rfl, Nat.le_of_ble_eq_true rfl⟩) hS hAc (fun q H1 locs1 hB hz1 hS => ?_)
            obtain ⟨hq, qf, hqf, hP2, hDB⟩ := hB
            have hDA : zD (zA Rs ad s.heap.size) ((21 + 4 * ng) :: (20 + 4 * ng) :: (22 + 4 * np) :: Rs) (va_up (va_up ad1 (20 + 4 * ng) q) (21 + 4 * ng) qf) := hDB.weak hAc
            obtain ⟨ad2, had2⟩ : ∃ z, z = va_up (va_up ad1 (20 + 4 * ng) q) (21 + 4 * ng) qf := ⟨_, rfl⟩
            rw [← had2] at hP2 hDA
            have b1 : ∀ k, k ≠ 20 + 4 * ng → k ≠ 21 + 4 * ng → ad2 k = ad1 k := fun k h1 h2 => by rw [had2, va_up_ne _ _ h2, va_up_ne _ _ h1]
            have hr2m : 22 + 4 * np ∈ ((21 + 4 * ng) :: (20 + 4 * ng) :: (22 + 4 * np) :: Rs) := List.mem_cons_of_mem _ (List.mem_cons_of_mem _ List.mem_cons_self)
            have har2 : ad2 (22 + 4 * np) = q2 := (b1 _ (by omega) (by omega)).trans a2
            have hgr : (jG ks ad1 ng XI XJ te pr q qf g1) (22 + 4 * np) = .inr (2, [.null, .int 0, .int 0, .null, .long 0, .int 0, .long 0]) := by unfold jG; rw [va_up_ne _ _ (by omega), va_up_ne _ _ (by omega), va_up_ne _ _ (by omega), va_up_ne _ _ (by omega)]; exact hgr2
            have hn3 : 23 + 4 * np ∉ ((21 + 4 * ng) :: (20 + 4 * ng) :: (22 + 4 * np) :: Rs) := fun h => (List.mem_cons.mp h).elim (fun h => by omega) (fun h => (List.mem_cons.mp h).elim (fun h => by omega) (fun h => (List.mem_cons.mp h).elim (fun h => by omega) (hall.not (by omega) (fun i hi => ⟨by omega, by omega⟩) (fun j hj => ⟨by omega, by omega⟩))))
            refine lv_iload_n hx hb dX3_begin_85 rfl (lv_at hl 3 rfl) ?_
            refine lv_iload_n hx hb dX3_begin_86 rfl (lv_at hl 4 rfl) ?_
            have hDT2 : zD (fun _ => True) ((21 + 4 * ng) :: (20 + 4 * ng) :: (22 + 4 * np) :: Rs) ad2 := hDA.weak (fun _ _ => trivial)
            have hzH1 : s.heap.size ≤ H1.size := hS.1
            have hAc2 : ∀ x, zA ((21 + 4 * ng) :: (20 + 4 * ng) :: (22 + 4 * np) :: Rs) ad2 H1.size x → zA Rs ad s.heap.size x := hDA.free (fun x hx => hA x (Nat.le_trans hzH1 hx))
            refine z_backW0 (z_runIN ⟨hx, hb, hml, hown, hT⟩ hK (rest := [.ref q2, .int (nI np), .ref (ad 14)]) (As := [.ref q, .int pr, .int su]) (c_X2_init (D := D) (ks := ks) l hDT2 (22 + 4 * np) (23 + 4 * np) q2 hr2m har2 hn3 hgr q pr su H1.size) k_X3_74 (z_preW hK hP2) rfl ⟨Nat.le_of_ble_eq_true rfl, Nat.le_of_ble_eq_true rfl⟩ hl.1 rfl (Nat.le_of_ble_eq_true rfl) dX3_begin_87 ⟨Nat.le_of_ble_eq_true rfl, Nat.le_of_ble_eq_true rfl⟩) hS hAc2 (fun H2 locs2 hB hz2 hk2 hS => ?_)
            obtain ⟨qp, hqp, hP3, hDC⟩ := hB
            have hDE : zD (zA Rs ad s.heap.size) ((23 + 4 * np) :: (21 + 4 * ng) :: (20 + 4 * ng) :: (22 + 4 * np) :: Rs) (va_up ad2 (23 + 4 * np) qp) := hDC.weak hAc2
            obtain ⟨ad3, had3⟩ : ∃ z, z = va_up ad2 (23 + 4 * np) qp := ⟨_, rfl⟩
            rw [← had3] at hP3 hDE
            have c1 : ∀ k, k ≠ 22 + 4 * np → k ≠ 23 + 4 * np → k ≠ 20 + 4 * ng → k ≠ 21 + 4 * ng → ad3 k = ad k := fun k h1 h2 h3 h4 => by rw [had3, va_up_ne _ _ h2, b1 _ h3 h4, a1 _ h1]
            have e14 : ad3 14 = ad 14 := c1 14 (by omega) (by omega) (by omega) (by omega)
            have e13 : ad3 13 = ad 13 := c1 13 (by omega) (by omega) (by omega) (by omega)
            have e22 : ad3 (22 + 4 * np) = q2 := by rw [had3, va_up_ne _ _ (by omega)]; exact har2
            obtain ⟨g3, hg3⟩ : ∃ z, z = va_up (va_up (jG ks ad1 ng XI XJ te pr q qf g1) (22 + 4 * np) (.inr (2, [.ref q, .int pr, .int su, .ref qp, .long 0, .int 0, .long (-1)]))) (23 + 4 * np) (.inr (0, [.long 0])) := ⟨_, rfl⟩
            rw [← hg3] at hP3
            have g14 : g3 14 = gS ks ad1 np ng G MI MJ XI XJ 14 := by rw [hg3, va_up_ne _ _ (by omega), va_up_ne _ _ (by omega)]; unfold jG; rw [va_up_ne _ _ (by omega), va_up_ne _ _ (by omega), va_up_ne _ _ (by omega), va_up_ne _ _ (by omega)]; exact hgS1 14 (hI.1 14 (by decide))
            have g13 : g3 13 = .inr (3, [.ref (ad 14), .ref (ad 15), .ref (ad 16), .ref (ad 17), .int (XI 10 0), .int (nI (ng + 1)), .int (XI 10 2), .int (XI 10 3), .int (XI 10 4), .int (XI 10 5), .int (XI 10 6), .int (XI 10 7), .long (XJ 4 0), .long (XJ 4 1)]) := by rw [hg3, va_up_ne _ _ (by omega), va_up_ne _ _ (by omega)]; unfold jG; rw [va_up_self, a1 14 (by omega), a1 15 (by omega), a1 16 (by omega), a1 17 (by omega)]
            have g22 : g3 (22 + 4 * np) = .inr (2, [.ref q, .int pr, .int su, .ref qp, .long 0, .int 0, .long (-1)]) := by rw [hg3, va_up_ne _ _ (by omega), va_up_self]
            refine pa_past hx hb hK hP3 hDE hS (List.mem_cons_of_mem _ (List.mem_cons_of_mem _ (List.mem_cons_of_mem _ (List.mem_cons_of_mem _ (hI.1 14 (by decide)))))) e14 (g14.trans rfl) (List.mem_cons_of_mem _ hr2m) e22 g22 hnp dX3_begin_90 (fun H locs hP4 hS => ?_)
            refine lv_aload_n hx hb dX3_begin_91 rfl (lv_at hl 1 rfl) ?_
            refine lv_iload hx hb dX3_begin_92 (lv_at hl 0 rfl) ?_
            refine lv_iconst (v := 1) hx hb dX3_begin_94 (by decide) ?_
            refine lv_iadd hx hb dX3_begin_95 ?_
            rw [nI_1 np]
            refine pa_X3_62 hx hb hT hown hK hP4 hDE hS (List.mem_cons_of_mem _ (List.mem_cons_of_mem _ (List.mem_cons_of_mem _ (List.mem_cons_of_mem _ (hI.1 13 (by decide)))))) e13 ((va_up_ne _ _ (by decide)).trans g13) (Nat.le_of_ble_eq_true rfl) dX3_begin_96 (fun H locs hP5 hS => ?_)
            refine lv_iload hx hb dX3_begin_99 (lv_at hl 0 rfl) ?_
            refine zW_i hx hb hr hlk hS (Nat.le_of_ble_eq_true rfl) (Nat.le_of_ble_eq_true rfl) dX3_begin_101 rfl ⟨ad3, ((23 + 4 * np) :: (21 + 4 * ng) :: (20 + 4 * ng) :: (22 + 4 * np) :: Rs), ?_, ?_, ?_, hDE, hP5.cast ?_⟩
            · intro r hr
              have h22 : r ≠ 22 + 4 * np := fun h => hn2 (h ▸ hr)
              have h23 : r ≠ 23 + 4 * np := fun h => hn3 (h ▸ List.mem_cons_of_mem _ (List.mem_cons_of_mem _ (List.mem_cons_of_mem _ hr)))
              exact ⟨List.mem_cons_of_mem _ (List.mem_cons_of_mem _ (List.mem_cons_of_mem _ (List.mem_cons_of_mem _ (hr)))), c1 r h22 h23 (fun h => hn0 (h ▸ List.mem_cons_of_mem _ hr)) (fun h => hn1 (h ▸ List.mem_cons_of_mem _ hr))⟩
            · refine ⟨fun r h => List.mem_cons_of_mem _ (List.mem_cons_of_mem _ (List.mem_cons_of_mem _ (List.mem_cons_of_mem _ (hI.1 r h)))), fun i2 h2 => ?_, fun j2 h2 => ?_⟩
              · rcases Nat.lt_or_ge i2 ng with h | h
                · exact ⟨List.mem_cons_of_mem _ (List.mem_cons_of_mem _ (List.mem_cons_of_mem _ (List.mem_cons_of_mem _ ((hI.2.1 i2 h).1)))), List.mem_cons_of_mem _ (List.mem_cons_of_mem _ (List.mem_cons_of_mem _ (List.mem_cons_of_mem _ ((hI.2.1 i2 h).2))))⟩
                · rw [show i2 = ng by omega]; exact ⟨List.mem_cons_of_mem _ (List.mem_cons_of_mem _ List.mem_cons_self), List.mem_cons_of_mem _ List.mem_cons_self⟩
              · rcases Nat.lt_or_ge j2 np with h | h
                · exact ⟨List.mem_cons_of_mem _ (List.mem_cons_of_mem _ (List.mem_cons_of_mem _ (List.mem_cons_of_mem _ ((hI.2.2 j2 h).1)))), List.mem_cons_of_mem _ (List.mem_cons_of_mem _ (List.mem_cons_of_mem _ (List.mem_cons_of_mem _ ((hI.2.2 j2 h).2))))⟩
                · rw [show j2 = np by omega]; exact ⟨(List.mem_cons_of_mem _ hr2m), List.mem_cons_self⟩
            · intro r hr
              rcases List.mem_cons.mp hr with rfl | hr
              · exact Or.inr (Or.inr ⟨np, by omega, Or.inr rfl⟩)
              rcases List.mem_cons.mp hr with rfl | hr
              · exact Or.inr (Or.inl ⟨ng, by omega, Or.inr rfl⟩)
              rcases List.mem_cons.mp hr with rfl | hr
              · exact Or.inr (Or.inl ⟨ng, by omega, Or.inl rfl⟩)
              rcases List.mem_cons.mp hr with rfl | hr
              · exact Or.inr (Or.inr ⟨np, by omega, Or.inl rfl⟩)
              rcases hall r hr with h | ⟨i2, h2, h⟩ | ⟨j2, h2, h⟩
              · exact Or.inl h
              · exact Or.inr (Or.inl ⟨i2, by omega, h⟩)
              · exact Or.inr (Or.inr ⟨j2, by omega, h⟩)
            · intro r hr
              have ha : ∀ r ∈ Rs, ad3 r = ad r := fun r hr => c1 r (fun h => hn2 (h ▸ hr)) (fun h => hn3 (h ▸ List.mem_cons_of_mem _ (List.mem_cons_of_mem _ (List.mem_cons_of_mem _ hr)))) (fun h => hn0 (h ▸ List.mem_cons_of_mem _ hr)) (fun h => hn1 (h ▸ List.mem_cons_of_mem _ hr))
              have e3 : ad3 (23 + 4 * np) = qp := by rw [had3, va_up_self]
              by_cases h13 : r = 13
              · subst h13; rw [va_up_self, gS_lo (by decide)]; simp only [gLo, eOff]; rw [e14, c1 15 (by omega) (by omega) (by omega) (by omega), c1 16 (by omega) (by omega) (by omega) (by omega), c1 17 (by omega) (by omega) (by omega) (by omega)]; simp [bI, bJ, nIx, nJx, u2]
              by_cases h14 : r = 14
              · subst h14; rw [va_up_ne _ _ h13, va_up_self, gS_lo (by decide)]; simp only [gLo]; rw [show rPol ad3 (np + 1) = va_up (rPol ad1 np) np (some q2) from ?_]
                funext k; simp only [rPol, va_up]
                by_cases hk : k = np
                · subst hk; rw [if_pos (by omega), if_pos rfl, e22]
                · rw [if_neg hk]; by_cases hk2 : k < np
                  · rw [if_pos (by omega), if_pos hk2, c1 _ (by omega) (by omega) (by omega) (by omega), a1 _ (by omega)]
                  · rw [if_neg (by omega), if_neg hk2]
              rw [va_up_ne _ _ h13, va_up_ne _ _ h14]
              by_cases h23 : r = 23 + 4 * np
              · subst h23; rw [hg3, va_up_self, gS_3]; simp only [gHi]; simp [bJ, u2]
              have eq0 : ad3 (20 + 4 * ng) = q := by rw [had3, va_up_ne _ _ (by omega), had2, va_up_ne _ _ (by omega), va_up_self]
              have eq1 : ad3 (21 + 4 * ng) = qf := by rw [had3, va_up_ne _ _ (by omega), had2, va_up_self]
              by_cases h22 : r = 22 + 4 * np
              · subst h22; rw [g22, gS_2]; simp only [gHi]; rw [e3, show bG G np ng np = ng from if_pos rfl, eq0]; simp [bI, bJ, nIx, nJx, u2]
              rw [hg3, va_up_ne _ _ h23, va_up_ne _ _ h22]
              unfold jG
              rw [va_up_ne _ _ h13]
              by_cases h15 : r = 15
              · subst h15; rw [va_up_self, gS_lo (by decide)]; simp only [gLo]; rw [show rGen ad3 (ng + 1) = va_up (rGen ad1 ng) ng (some q) from ?_]
                funext k; simp only [rGen, va_up]
                by_cases hk : k = ng
                · subst hk; rw [if_pos (by omega), if_pos rfl, eq0]
                · rw [if_neg hk]; by_cases hk2 : k < ng
                  · rw [if_pos (by omega), if_pos hk2, c1 _ (by omega) (by omega) (by omega) (by omega), a1 _ (by omega)]
                  · rw [if_neg (by omega), if_neg hk2]
              rw [va_up_ne _ _ h15]
              by_cases h21 : r = 21 + 4 * ng
              · subst h21; rw [va_up_self, gS_1]; simp only [gHi]; simp [bJ, nJx, u2]
              by_cases h20 : r = 20 + 4 * ng
              · subst h20; rw [va_up_ne _ _ h21, va_up_self, gS_0]; simp only [gHi]; rw [eq1]; simp [bI, bJ, nIx, nJx, u2]
              rw [va_up_ne _ _ h21, va_up_ne _ _ h20]
              have hr : r ∈ Rs := (List.mem_cons.mp ((List.mem_cons.mp ((List.mem_cons.mp ((List.mem_cons.mp hr).resolve_left h23)).resolve_left h21)).resolve_left h20)).resolve_left h22
              rw [hgS1 r hr, ← hgad]
              exact gS_more hall hI hG ha (by intro j hj; simp [bG, Nat.ne_of_lt hj]) (by simp [bI, bJ, bG, nIx, nJx, u2]) (by simp [bI, bJ, bG, nIx, nJx, u2]) (by intro k hk; simp [bI, bJ, bG, nIx, nJx, u2, Nat.ne_of_lt hk]) (by intro k hk; simp [bI, bJ, bG, nIx, nJx, u2, Nat.ne_of_lt hk]) (by intro k hk; simp [bI, bJ, bG, nIx, nJx, u2, Nat.ne_of_lt hk]) (by intro k hk; simp [bI, bJ, bG, nIx, nJx, u2, Nat.ne_of_lt hk]) (by intro k hk; simp [bI, bJ, bG, nIx, nJx, u2, Nat.ne_of_lt hk]) (by intro k hk; simp [bI, bJ, bG, nIx, nJx, u2, Nat.ne_of_lt hk]) (by intro k hk; simp [bI, bJ, bG, nIx, nJx, u2, Nat.ne_of_lt hk]) (by intro k hk; simp [bI, bJ, bG, nIx, nJx, u2, Nat.ne_of_lt hk]) (by intro k hk; simp [bI, bJ, bG, nIx, nJx, u2, Nat.ne_of_lt hk]) (by intro k hk; simp [bI, bJ, bG, nIx, nJx, u2, Nat.ne_of_lt hk]) r hr h13 h14 h15
          · exact absurd (nI_lt (a := np) (b := 30) hnp (by decide)) c_5
      · exact absurd ((h2).symm.trans c_3) (by decide)
end ZB3
