/-! the law: its loop, its start -/
section ZLE
variable {D : va_G} {ks : Nat → ClassId} {p : Program} {l : Launch} {e : Env} {s : State} {m : MethodId} {below : List Frame} {meth : Method} {c : Code}
set_option maxHeartbeats 4000000 in
set_option maxRecDepth 100000 in
theorem law_loop {b L : Nat} {xs : Nat → Int32} (hF : lwF p l room_1 s m #[.ref b] c D ks b L xs) (hret : meth.sig.returnType = ret) (hlk : meth.locks = false) : ∀ (d n : Nat) (ad : Nat → Nat) (Rs : List Nat) (np ng : Nat) (G : Nat → Nat) (MI : Nat → Nat → Int32) (MJ : Nat → Nat → Int64) (XI : Nat → Nat → Int32) (XJ : Nat → Nat → Int64) (y : Nat) (H : Heap) (locs : List Loc) (ls : Array Slot) (cells slots : Nat), L < 4 * n + 4 * d + 4 → zIn Rs np ng → zAll Rs np ng → zD (fun q => s.heap.size ≤ q) Rs ad → zP D Rs ad (gS ks ad np ng G MI MJ XI XJ) H → va_S (fun q => s.heap.size ≤ q) s.heap H locs → sim np ng G MI MJ XI XJ y → lv_has ls 8 (lwL ad b n) → 4 * n + 4 * d ≤ 4000 → cells + 4 * d ≤ 700118 → slots + 13 * d ≤ 6995751 →
    W p l e room_1 s m #[.ref b] below meth c H locs cells slots (lw_Z below #[.ref b] s) (F0 m 23 ls []) := by
  have hF0 := hF
  obtain ⟨⟨hx, hb, hml, hown, hT⟩, ⟨hK, hZ, hUn⟩, ⟨hXs, hbl, hL⟩, hst, hRf, hRl⟩ := hF0
  have hLi : (Int32.ofNat L).toInt = L := nI_toInt (by omega)
  have h4 : (4 : Int32).toInt = 4 := by decide
  intro d
  induction d with
  | zero =>
    intro n ad Rs np ng G MI MJ XI XJ y H locs ls cells slots hd hI hall hD hP hS hsim hl h20 hc hs
    have hl0 := hl
    have hl : lv_has ls 8 [(4, .int (nI (4 * n))), (0, .ref b), (1, .ref (ad 13)), (2, .ref (ad 0)), (3, .ref (ad 12))] := hl
    have hni : (nI (4 * n)).toInt = ((4 * n : Nat) : Int) := nI_toInt (by omega)
    refine lv_iload hx hb dL_law_23 (lv_at hl 0 rfl) ?_
    refine lv_aload_n hx hb dL_law_25 rfl (lv_at hl 1 rfl) ?_
    refine va_slen hx hb hXs hbl (fun q => absurd q (Nat.not_le.mpr hbl)) hS dL_law_26 ?_
    refine lv_iconst (v := 4) hx hb dL_law_27 (by decide) ?_
    refine lv_isub hx hb dL_law_28 ?_
    have hsub : (Int32.ofNat L - 4).toInt = L - 4 := by rw [i_sub (by rw [hLi, h4]; omega) (by rw [hLi, h4]; omega), hLi, h4]
    refine lv_icmp_gt (tgt := 1074) hx hb dL_law_29 (by decide) (fun q => ?_) (fun q => ?_)
    · refine lv_iconst (v := 1) hx hb dL_law_1074 (by decide) ?_
      exact W.widen (by omega) (by omega) (W.forget (locs := []) (L := locs) (fun z hz => hS.2.2 z hz) (lw_ret hx hb hret hlk dL_law_1075))
    · exact absurd (Int32.lt_iff_toInt_lt.mpr (by rw [hsub, hni]; omega)) q
  | succ d ih =>
    intro n ad Rs np ng G MI MJ XI XJ y H locs ls cells slots hd hI hall hD hP hS hsim hl h20 hc hs
    have hl0 := hl
    have hl : lv_has ls 8 [(4, .int (nI (4 * n))), (0, .ref b), (1, .ref (ad 13)), (2, .ref (ad 0)), (3, .ref (ad 12))] := hl
    have hni : (nI (4 * n)).toInt = ((4 * n : Nat) : Int) := nI_toInt (by omega)
    refine lv_iload hx hb dL_law_23 (lv_at hl 0 rfl) ?_
    refine lv_aload_n hx hb dL_law_25 rfl (lv_at hl 1 rfl) ?_
    refine va_slen hx hb hXs hbl (fun q => absurd q (Nat.not_le.mpr hbl)) hS dL_law_26 ?_
    refine lv_iconst (v := 4) hx hb dL_law_27 (by decide) ?_
    refine lv_isub hx hb dL_law_28 ?_
    have hsub : (Int32.ofNat L - 4).toInt = L - 4 := by rw [i_sub (by rw [hLi, h4]; omega) (by rw [hLi, h4]; omega), hLi, h4]
    refine lv_icmp_gt (tgt := 1074) hx hb dL_law_29 (by decide) (fun q => ?_) (fun q => ?_)
    · refine lv_iconst (v := 1) hx hb dL_law_1074 (by decide) ?_
      exact W.widen (by omega) (by omega) (W.forget (locs := []) (L := locs) (fun z hz => hS.2.2 z hz) (lw_ret hx hb hret hlk dL_law_1075))
    · have hn : 4 * n + 4 ≤ L := by
        have := fun z => q (Int32.lt_iff_toInt_lt.mpr z)
        rw [hsub, hni] at this
        have := Int.not_lt.mp this
        omega
      have hcs : cells + 4 ≤ room_1.cells ∧ slots + 13 ≤ room_1.slots := ⟨by show cells + 4 ≤ 700118; omega, by show slots + 13 ≤ 6995751; omega⟩
      have KK : lwC p l e room_1 s m #[.ref b] below meth c D ks (lw_Z below #[.ref b] s) b n cells slots := by
        intro ad Rs np ng G MI MJ XI XJ y H locs ls hI hall hD hP hS hsim hl
        refine lv_iinc (v := nI (4 * (n + 1))) (lv' := lwL ad b (n + 1)) hx hb dL_law_1068 hl (k := 0) rfl (nI_add (4 * n) 4) (by decide) rfl (fun ls hl => ?_)
        refine lv_goto (tgt := 23) hx hb dL_law_1071 (by decide) ?_
        exact ih (n + 1) ad Rs np ng G MI MJ XI XJ y H locs ls _ _ (by omega) hI hall hD hP hS hsim hl (by omega) (by omega) (by omega)
      refine lv_aload_n hx hb dL_law_32 rfl (lv_at hl 1 rfl) ?_
      refine lv_iload hx hb dL_law_33 (lv_at hl 0 rfl) ?_
      refine va_sld hx hb hXs hbl (fun q => absurd q (Nat.not_le.mpr hbl)) hS (vp_in_nI (show 4 * n < L by omega) (by omega)) dL_law_35 ?_
      refine lv_bipush (v := 31) hx hb dL_law_36 (by decide) ?_
      refine lv_iand hx hb dL_law_38 ?_
      generalize xs (nI (4 * n)).toNatClampNeg &&& 31 = x
      rcases (show x.toInt = 0 ∨ x.toInt = 1 ∨ x.toInt = 2 ∨ x.toInt = 3 ∨ x.toInt = 4 ∨ x.toInt = 5 ∨ x.toInt = 6 ∨ x.toInt = 7 ∨ x.toInt = 8 ∨ x.toInt = 9 ∨ x.toInt = 10 ∨ x.toInt = 11 ∨ x.toInt = 12 ∨ x.toInt = 13 ∨ x.toInt = 14 ∨ x.toInt = 15 ∨ x.toInt = 16 ∨ x.toInt = 17 ∨ x.toInt = 18 ∨ x.toInt = 19 ∨ (x.toInt < 0 ∨ 19 < x.toInt) by omega) with hk | hk | hk | hk | hk | hk | hk | hk | hk | hk | hk | hk | hk | hk | hk | hk | hk | hk | hk | hk | hk
      · refine lv_tableIn (off := 93) (tgt := 132) hx hb dL_law_39 (by rw [hk]; decide) (by rw [hk]; decide) (by rw [hk]; rfl) (by decide) ?_
        exact s_begin hF hI hall hD hP hS hn hl0 hcs hsim KK
      · refine lv_tableIn (off := 173) (tgt := 212) hx hb dL_law_39 (by rw [hk]; decide) (by rw [hk]; decide) (by rw [hk]; rfl) (by decide) ?_
        exact s_surrender hF hI hall hD hP hS hn hl0 hcs hsim KK
      · refine lv_tableIn (off := 229) (tgt := 268) hx hb dL_law_39 (by rw [hk]; decide) (by rw [hk]; decide) (by rw [hk]; rfl) (by decide) ?_
        exact s_setRates hF hI hall hD hP hS hn hl0 hcs hsim KK
      · refine lv_tableIn (off := 297) (tgt := 336) hx hb dL_law_39 (by rw [hk]; decide) (by rw [hk]; decide) (by rw [hk]; rfl) (by decide) ?_
        exact s_setScale hF hI hall hD hP hS hn hl0 hcs hsim KK
      · refine lv_tableIn (off := 377) (tgt := 416) hx hb dL_law_39 (by rw [hk]; decide) (by rw [hk]; decide) (by rw [hk]; rfl) (by decide) ?_
        exact s_endow hF hI hall hD hP hS hn hl0 hcs hsim KK
      · refine lv_tableIn (off := 432) (tgt := 471) hx hb dL_law_39 (by rw [hk]; decide) (by rw [hk]; decide) (by rw [hk]; rfl) (by decide) ?_
        exact s_run hF hI hall hD hP hS hn hl0 hcs hsim KK
      · refine lv_tableIn (off := 488) (tgt := 527) hx hb dL_law_39 (by rw [hk]; decide) (by rw [hk]; decide) (by rw [hk]; rfl) (by decide) ?_
        exact s_year hF hI hall hD hP hS hn hl0 hcs hsim KK
      · refine lv_tableIn (off := 501) (tgt := 540) hx hb dL_law_39 (by rw [hk]; decide) (by rw [hk]; decide) (by rw [hk]; rfl) (by decide) ?_
        exact s_policies hF hI hall hD hP hS hn hl0 hcs hsim KK
      · refine lv_tableIn (off := 514) (tgt := 553) hx hb dL_law_39 (by rw [hk]; decide) (by rw [hk]; decide) (by rw [hk]; rfl) (by decide) ?_
        exact s_stateOf hF hI hall hD hP hS hn hl0 hcs hsim KK
      · refine lv_tableIn (off := 570) (tgt := 609) hx hb dL_law_39 (by rw [hk]; decide) (by rw [hk]; decide) (by rw [hk]; rfl) (by decide) ?_
        exact s_bonuses hF hI hall hD hP hS hn hl0 hcs hsim KK
      · refine lv_tableIn (off := 626) (tgt := 665) hx hb dL_law_39 (by rw [hk]; decide) (by rw [hk]; decide) (by rw [hk]; rfl) (by decide) ?_
        exact s_shareOf hF hI hall hD hP hS hn hl0 hcs hsim KK
      · refine lv_tableIn (off := 682) (tgt := 721) hx hb dL_law_39 (by rw [hk]; decide) (by rw [hk]; decide) (by rw [hk]; rfl) (by decide) ?_
        exact s_shareAlone hF hI hall hD hP hS hn hl0 hcs hsim KK
      · refine lv_tableIn (off := 738) (tgt := 777) hx hb dL_law_39 (by rw [hk]; decide) (by rw [hk]; decide) (by rw [hk]; rfl) (by decide) ?_
        exact s_generation hF hI hall hD hP hS hn hl0 hcs hsim KK
      · refine lv_tableIn (off := 806) (tgt := 845) hx hb dL_law_39 (by rw [hk]; decide) (by rw [hk]; decide) (by rw [hk]; rfl) (by decide) ?_
        exact s_paid hF hI hall hD hP hS hn hl0 hcs hsim KK
      · refine lv_tableIn (off := 862) (tgt := 901) hx hb dL_law_39 (by rw [hk]; decide) (by rw [hk]; decide) (by rw [hk]; rfl) (by decide) ?_
        exact s_worth hF hI hall hD hP hS hn hl0 hcs hsim KK
      · refine lv_tableIn (off := 918) (tgt := 957) hx hb dL_law_39 (by rw [hk]; decide) (by rw [hk]; decide) (by rw [hk]; rfl) (by decide) ?_
        exact s_lastRatio hF hI hall hD hP hS hn hl0 hcs hsim KK
      · refine lv_tableIn (off := 974) (tgt := 1013) hx hb dL_law_39 (by rw [hk]; decide) (by rw [hk]; decide) (by rw [hk]; rfl) (by decide) ?_
        exact s_estate hF hI hall hD hP hS hn hl0 hcs hsim KK
      · refine lv_tableIn (off := 988) (tgt := 1027) hx hb dL_law_39 (by rw [hk]; decide) (by rw [hk]; decide) (by rw [hk]; rfl) (by decide) ?_
        exact s_sharesAndEstate hF hI hall hD hP hS hn hl0 hcs hsim KK
      · refine lv_tableIn (off := 1002) (tgt := 1041) hx hb dL_law_39 (by rw [hk]; decide) (by rw [hk]; decide) (by rw [hk]; rfl) (by decide) ?_
        exact s_assets hF hI hall hD hP hS hn hl0 hcs hsim KK
      · refine lv_tableIn (off := 1016) (tgt := 1055) hx hb dL_law_39 (by rw [hk]; decide) (by rw [hk]; decide) (by rw [hk]; rfl) (by decide) ?_
        exact s_shortfall hF hI hall hD hP hS hn hl0 hcs hsim KK
      · refine lv_tableOut (tgt := 1068) hx hb dL_law_39 hk (by decide) ?_
        exact W.widen (by omega) (by omega) (KK ad Rs np ng G MI MJ XI XJ y H locs ls hI hall hD hP hS hsim hl0)
end ZLE
set_option maxHeartbeats 8000000 in
set_option maxRecDepth 100000 in
/-- from the entry, for every script of at most 2048 ints, the law comes to its end with true -/
theorem whole_start {p : Program} {e : Env} {s : State} {m : MethodId} {below : List Frame} {meth : Method} {c : Code} (l : Launch) (hflags : l.flags = flags0) {b L : Nat} {xs : Nat → Int32} (hL : L ≤ 2048) (C0 : lw_At p s m meth c b L xs) : W p l e room_1 s m #[Value.ref b] below meth c s.heap [] 0 0 (lw_Z below #[Value.ref b] s) (entryFrame m ([Value.ref b] : List Value).toArray 8) := by
  obtain ⟨hx, hb, hret, hml, hown, hts, hXs, hbl, hlk, hgv⟩ := C0
  have hown : s.vm.findClass RL = some m.cls := hown
  have hT := law_T hts
  obtain ⟨hO2, hO1⟩ := law_AO hts
  obtain ⟨D, ks, hK⟩ := law_K hts
  have hZ := law_Z hts hgv
  have hUn := law_Un hts hgv
  have hst : l.stackTraces = false := by unfold Launch.stackTraces; rw [hflags]; decide +kernel
  have hF : lwF p l room_1 s m #[.ref b] c D ks b L xs := ⟨⟨hx, hb, hml, hown, hT⟩, ⟨hK, hZ, hUn⟩, ⟨hXs, hbl, hL⟩, hst, by decide, by decide⟩
  rw [lg_entry_eq]
  have hl := lv_entry [.ref b] (n := 8) (Nat.le_of_ble_eq_true rfl)
  generalize (lg_sl ([.ref b]) ++ List.replicate (8 - (lg_sl ([.ref b])).length) Slot.unset).toArray = ls at hl ⊢
  have hl : lv_has ls 8 [(0, .ref b)] := hl
  have hA : ∀ q : Nat, s.heap.size ≤ q → (fun q => s.heap.size ≤ q) q := fun q h => h
  have hS : va_S (fun q => s.heap.size ≤ q) s.heap s.heap [] := va_S.rf
  have hP : zP D [] (fun _ => 0) (fun _ => eFund 0) s.heap := fun r hr => absurd hr List.not_mem_nil
  have hD : zD (fun q => s.heap.size ≤ q) [] (fun _ => 0) := ⟨List.nodup_nil, fun r hr => absurd hr List.not_mem_nil, fun r hr => absurd hr List.not_mem_nil⟩
  refine z_new (ci := 3) (fs := [.null, .null, .null, .null, .int 0, .int 0, .int 0, .int 0, .int 0, .int 0, .int 0, .int 0, .long 0, .long 0]) (r := 13) hx hb hT hown hK ly_X3 tyX3 tyX3_ok cl_L_8 mk_X3 in_X3 hP hD hS hA rfl (fun j hj => by rcases (show j = 0 ∨ j = 1 ∨ j = 2 ∨ j = 3 ∨ j = 4 ∨ j = 5 ∨ j = 6 ∨ j = 7 ∨ j = 8 ∨ j = 9 ∨ j = 10 ∨ j = 11 ∨ j = 12 ∨ j = 13 by omega) with rfl | rfl | rfl | rfl | rfl | rfl | rfl | rfl | rfl | rfl | rfl | rfl | rfl | rfl <;> rfl) List.not_mem_nil (Nat.le_of_ble_eq_true rfl) (Nat.le_of_ble_eq_true rfl) dL_law_0 (fun q H hP hD hq hS => ?_)
  refine lv_dup hx hb dL_law_3 rfl ?_
  obtain ⟨ad1, had1⟩ : ∃ z, z = va_up (fun _ => 0) 13 q := ⟨_, rfl⟩
  obtain ⟨g1, hg1⟩ : ∃ z, z = va_up (fun _ => eFund 0) 13 (.inr (3, [.null, .null, .null, .null, .int 0, .int 0, .int 0, .int 0, .int 0, .int 0, .int 0, .int 0, .long 0, .long 0])) := ⟨_, rfl⟩
  rw [← had1] at hP hD
  rw [← hg1] at hP
  have a13 : ad1 13 = q := by rw [had1, va_up_self]
  clear had1
  subst a13
  have e13 : g1 13 = .inr (3, [.null, .null, .null, .null, .int 0, .int 0, .int 0, .int 0, .int 0, .int 0, .int 0, .int 0, .long 0, .long 0]) := by rw [hg1, va_up_self]
  refine z_backW0 (z_runI ⟨hx, hb, hml, hown, hT⟩ (rest := [.ref (ad1 13)]) (As := []) (c_X3_init (D := D) (ks := ks) (Rs := [13]) (ad := ad1) (g := g1) l (hD.weak (fun _ _ => trivial)) List.mem_cons_self (by decide) (by decide) (by decide) (by decide) e13 H.size) k_L_61 ⟨fun a U g mk q => ⟨zPW.blind a U g mk q.1, va_AO.moved (u := U) (U := U.calling g mk a) (Vm.Alike.refl U.vm) q.2.1, va_AO.moved (u := U) (U := U.calling g mk a) (Vm.Alike.refl U.vm) q.2.2⟩, fun U hU hW => ⟨⟨rfl, by rw [hU], by rw [hU]; exact hP, hK.warm hW⟩, hO2.moved hW.alike, hO1.moved hW.alike⟩⟩ rfl ⟨Nat.le_of_ble_eq_true rfl, Nat.le_of_ble_eq_true rfl⟩ hl.1 rfl (Nat.le_of_ble_eq_true rfl) dL_law_4 ⟨Nat.le_of_ble_eq_true rfl, Nat.le_of_ble_eq_true rfl⟩) hS (hD.free (fun q hq => Nat.le_trans hS.1 hq)) (fun H2 locs2 hB hz hk2 hS2 => ?_)
  obtain ⟨ad2, g2, ha2, hg2, e13, e14, e15, e16, e17, hP, hD2⟩ := hB
  have hD2 : zD (fun q => s.heap.size ≤ q) (17 :: 16 :: 15 :: 14 :: 13 :: []) ad2 := hD2.weak (hD.free (fun q hq => Nat.le_trans hS.1 hq))
  have a13 : ad2 13 = ad1 13 := ha2 13 List.mem_cons_self
  refine lv_astore_n (lv' := [(1, .ref (ad1 13)), (0, .ref b)]) hx hb dL_law_7 rfl hl (by decide) rfl (fun ls hl => ?_)
  refine z_new (ci := 4) (fs := [.int 0, .int 0, .int 0, .int 0, .int 0, .int 0, .int 0, .null, .null, .null, .null, .null, .null, .null, .null, .null, .null, .null, .long 0, .long 0, .int 0]) (r := 0) hx hb hT hown hK ly_X4 tyX4 tyX4_ok cl_L_62 mk_X4 in_X4 hP hD2 hS2 hA rfl (fun j hj => by rcases (show j = 0 ∨ j = 1 ∨ j = 2 ∨ j = 3 ∨ j = 4 ∨ j = 5 ∨ j = 6 ∨ j = 7 ∨ j = 8 ∨ j = 9 ∨ j = 10 ∨ j = 11 ∨ j = 12 ∨ j = 13 ∨ j = 14 ∨ j = 15 ∨ j = 16 ∨ j = 17 ∨ j = 18 ∨ j = 19 ∨ j = 20 by omega) with rfl | rfl | rfl | rfl | rfl | rfl | rfl | rfl | rfl | rfl | rfl | rfl | rfl | rfl | rfl | rfl | rfl | rfl | rfl | rfl | rfl <;> rfl) (by decide) (Nat.le_of_ble_eq_true rfl) (Nat.le_of_ble_eq_true rfl) dL_law_8 (fun q H hP hD hq hS => ?_)
  refine lv_dup hx hb dL_law_11 rfl ?_
  obtain ⟨ad3, had3⟩ : ∃ z, z = va_up ad2 0 q := ⟨_, rfl⟩
  obtain ⟨g3, hg3⟩ : ∃ z, z = va_up g2 0 (.inr (4, [.int 0, .int 0, .int 0, .int 0, .int 0, .int 0, .int 0, .null, .null, .null, .null, .null, .null, .null, .null, .null, .null, .null, .long 0, .long 0, .int 0])) := ⟨_, rfl⟩
  rw [← had3] at hP hD
  rw [← hg3] at hP
  have a0 : ad3 0 = q := by rw [had3, va_up_self]
  have a3 : ∀ r, r ≠ 0 → ad3 r = ad2 r := fun r h => by rw [had3, va_up_ne _ _ h]
  clear had3
  subst a0
  have e0 : g3 0 = .inr (4, [.int 0, .int 0, .int 0, .int 0, .int 0, .int 0, .int 0, .null, .null, .null, .null, .null, .null, .null, .null, .null, .null, .null, .long 0, .long 0, .int 0]) := by rw [hg3, va_up_self]
  have g3e : ∀ r, r ≠ 0 → g3 r = g2 r := fun r h => by rw [hg3, va_up_ne _ _ h]
  refine z_backW0 (z_runI ⟨hx, hb, hml, hown, hT⟩ (rest := [.ref (ad3 0)]) (As := []) (c_X4_init (D := D) (ks := ks) (Rs := (0 :: 17 :: 16 :: 15 :: 14 :: 13 :: [])) (ad := ad3) (g := g3) l (hD.weak (fun _ _ => trivial)) List.mem_cons_self (by decide) (by decide) (by decide) (by decide) (by decide) (by decide) (by decide) (by decide) (by decide) (by decide) (by decide) e0 H.size) k_L_64 (z_preW hK hP) rfl ⟨Nat.le_of_ble_eq_true rfl, Nat.le_of_ble_eq_true rfl⟩ hl.1 rfl (Nat.le_of_ble_eq_true rfl) dL_law_12 ⟨Nat.le_of_ble_eq_true rfl, Nat.le_of_ble_eq_true rfl⟩) hS (hD.free (fun q hq => Nat.le_trans hS.1 hq)) (fun H4 locs4 hB hz hk4 hS4 => ?_)
  obtain ⟨ad4, g4, ha4, hg4, f0, f1, f2, f3, f4, f5, f6, f7, f8, f9, f10, f11, hP, hD4⟩ := hB
  have hD4 : zD (fun q => s.heap.size ≤ q) (11 :: 10 :: 9 :: 8 :: 7 :: 6 :: 5 :: 4 :: 3 :: 2 :: 1 :: 0 :: 17 :: 16 :: 15 :: 14 :: 13 :: []) ad4 := hD4.weak (hD.free (fun q hq => Nat.le_trans hS.1 hq))
  refine lv_astore_n (lv' := [(2, .ref (ad3 0)), (1, .ref (ad1 13)), (0, .ref b)]) hx hb dL_law_15 rfl hl (by decide) rfl (fun ls hl => ?_)
  refine lv_iconst (v := 1) hx hb dL_law_16 (by decide) ?_
  refine z_newJ (r := 12) (N := 1) hx hb hT hK hP hD4 hS4 hA (by decide) (by decide) (by decide) (by decide) (Nat.le_of_ble_eq_true rfl) (Nat.le_of_ble_eq_true rfl) dL_law_17 (fun q H hP hD hS => ?_)
  obtain ⟨ad5, had5⟩ : ∃ z, z = va_up ad4 12 q := ⟨_, rfl⟩
  obtain ⟨g5, hg5⟩ : ∃ z, z = va_up g4 12 (aJ (ks 1) 1 (fun _ => 0)) := ⟨_, rfl⟩
  rw [← had5] at hP hD
  rw [← hg5] at hP
  have a12 : ad5 12 = q := by rw [had5, va_up_self]
  have a5 : ∀ r, r ≠ 12 → ad5 r = ad4 r := fun r h => by rw [had5, va_up_ne _ _ h]
  have g5e : ∀ r, r ≠ 12 → g5 r = g4 r := fun r h => by rw [hg5, va_up_ne _ _ h]
  have f12 : g5 12 = aJ (ks 1) 1 (fun _ => 0) := by rw [hg5, va_up_self]
  clear had5
  subst a12
  refine lv_astore_n (lv' := [(3, .ref (ad5 12)), (2, .ref (ad3 0)), (1, .ref (ad1 13)), (0, .ref b)]) hx hb dL_law_19 rfl hl (by decide) rfl (fun ls hl => ?_)
  refine lv_iconst (v := 0) hx hb dL_law_20 (by decide) ?_
  refine lv_istore (lv' := [(4, .int 0), (3, .ref (ad5 12)), (2, .ref (ad3 0)), (1, .ref (ad1 13)), (0, .ref b)]) hx hb dL_law_21 hl (by decide) rfl (fun ls hl => ?_)
  have b13 : ad5 13 = ad2 13 := by rw [a5 _ (by decide), ha4 _ (by decide), a3 _ (by decide)]
  have b14 : ad5 14 = ad2 14 := by rw [a5 _ (by decide), ha4 _ (by decide), a3 _ (by decide)]
  have b15 : ad5 15 = ad2 15 := by rw [a5 _ (by decide), ha4 _ (by decide), a3 _ (by decide)]
  have b16 : ad5 16 = ad2 16 := by rw [a5 _ (by decide), ha4 _ (by decide), a3 _ (by decide)]
  have b17 : ad5 17 = ad2 17 := by rw [a5 _ (by decide), ha4 _ (by decide), a3 _ (by decide)]
  have b0 : ad5 0 = ad3 0 := by rw [a5 _ (by decide), ha4 _ (by decide)]
  have b1 : ad5 1 = ad4 1 := a5 _ (by decide)
  have b2 : ad5 2 = ad4 2 := a5 _ (by decide)
  have b3 : ad5 3 = ad4 3 := a5 _ (by decide)
  have b4 : ad5 4 = ad4 4 := a5 _ (by decide)
  have b5 : ad5 5 = ad4 5 := a5 _ (by decide)
  have b6 : ad5 6 = ad4 6 := a5 _ (by decide)
  have b7 : ad5 7 = ad4 7 := a5 _ (by decide)
  have b8 : ad5 8 = ad4 8 := a5 _ (by decide)
  have b9 : ad5 9 = ad4 9 := a5 _ (by decide)
  have b10 : ad5 10 = ad4 10 := a5 _ (by decide)
  have b11 : ad5 11 = ad4 11 := a5 _ (by decide)
  have h13 : g5 13 = g2 13 := by rw [g5e _ (by decide), hg4 _ (by decide) (by decide), g3e _ (by decide)]
  have h14 : g5 14 = g2 14 := by rw [g5e _ (by decide), hg4 _ (by decide) (by decide), g3e _ (by decide)]
  have h15 : g5 15 = g2 15 := by rw [g5e _ (by decide), hg4 _ (by decide) (by decide), g3e _ (by decide)]
  have h16 : g5 16 = g2 16 := by rw [g5e _ (by decide), hg4 _ (by decide) (by decide), g3e _ (by decide)]
  have h17 : g5 17 = g2 17 := by rw [g5e _ (by decide), hg4 _ (by decide) (by decide), g3e _ (by decide)]
  have hl : lv_has ls 8 (lwL ad5 b 0) := by
    have h2 := lv_sub hl [0, 4, 3, 2, 1] rfl
    unfold lwL
    rw [b13, a13, b0]
    exact h2
  have hW : zP D (12 :: 11 :: 10 :: 9 :: 8 :: 7 :: 6 :: 5 :: 4 :: 3 :: 2 :: 1 :: 0 :: 17 :: 16 :: 15 :: 14 :: 13 :: []) ad5 (gS ks ad5 0 0 (fun _ => 0) MI0 (fun _ _ => 0) XI0 XJ0) H := by
    refine hP.cast (fun r hr => ?_)
    simp only [List.mem_cons, List.not_mem_nil, or_false] at hr
    rcases hr with rfl | rfl | rfl | rfl | rfl | rfl | rfl | rfl | rfl | rfl | rfl | rfl | rfl | rfl | rfl | rfl | rfl | rfl
    · rw [gS_lo (by decide), f12]; rfl
    · rw [gS_lo (by decide), g5e _ (by decide), f11]; rfl
    · rw [gS_lo (by decide), g5e _ (by decide), f10]; rfl
    · rw [gS_lo (by decide), g5e _ (by decide), f9]; rfl
    · rw [gS_lo (by decide), g5e _ (by decide), f8]; rfl
    · rw [gS_lo (by decide), g5e _ (by decide), f7]; rfl
    · rw [gS_lo (by decide), g5e _ (by decide), f6]; rfl
    · rw [gS_lo (by decide), g5e _ (by decide), f5]; rfl
    · rw [gS_lo (by decide), g5e _ (by decide), f4]; rfl
    · rw [gS_lo (by decide), g5e _ (by decide), f3]; rfl
    · rw [gS_lo (by decide), g5e _ (by decide), f2]; rfl
    · rw [gS_lo (by decide), g5e _ (by decide), f1]; rfl
    · rw [gS_lo (by decide), g5e _ (by decide), f0]; simp only [gLo, eMod]; rw [b1, b2, b3, b4, b5, b6, b7, b8, b9, b10, b11]; rfl
    · rw [gS_lo (by decide), h17, e17]; rfl
    · rw [gS_lo (by decide), h16, e16]; rfl
    · rw [gS_lo (by decide), h15, e15]; simp only [gLo]; rw [show rGen ad5 0 = fun _ => none from by funext k; exact if_neg (Nat.not_lt_zero _)]
    · rw [gS_lo (by decide), h14, e14]; simp only [gLo]; rw [show rPol ad5 0 = fun _ => none from by funext k; exact if_neg (Nat.not_lt_zero _)]
    · rw [gS_lo (by decide), h13, e13]; simp only [gLo, eOff]; rw [b14, b15, b16, b17]; rfl
  refine law_loop hF hret hlk 512 0 ad5 (12 :: 11 :: 10 :: 9 :: 8 :: 7 :: 6 :: 5 :: 4 :: 3 :: 2 :: 1 :: 0 :: 17 :: 16 :: 15 :: 14 :: 13 :: []) 0 0 (fun _ => 0) MI0 (fun _ _ => 0) XI0 XJ0 0 H _ ls _ _ (by omega) ⟨fun r h => ?_, fun i h => absurd h (Nat.not_lt_zero _), fun j h => absurd h (Nat.not_lt_zero _)⟩ (fun r hr => Or.inl ?_) hD hW hS sim_start hl (by decide) (Nat.le_of_ble_eq_true rfl) (Nat.le_of_ble_eq_true rfl)
  · have : r = 0 ∨ r = 1 ∨ r = 2 ∨ r = 3 ∨ r = 4 ∨ r = 5 ∨ r = 6 ∨ r = 7 ∨ r = 8 ∨ r = 9 ∨ r = 10 ∨ r = 11 ∨ r = 12 ∨ r = 13 ∨ r = 14 ∨ r = 15 ∨ r = 16 ∨ r = 17 := by omega
    simp only [List.mem_cons, List.not_mem_nil, or_false]; omega
  · simp only [List.mem_cons, List.not_mem_nil, or_false] at hr; omega
