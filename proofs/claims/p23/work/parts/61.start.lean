/-! the law's start -/
theorem ext_start : ext 0 0 (fun _ => 0) XI0 XJ0 0 := by
  refine ⟨?_, fun i h => absurd h (Nat.not_lt_zero _), fun i h => absurd h (Nat.not_lt_zero _), fun i h => absurd h (Nat.not_lt_zero _)⟩
  show (0 : Int64) = 0 + 0
  decide
theorem sI_start : sI 0 0 (fun _ => 0) XI0 XJ0 0 := ⟨MI0, fun _ _ => 0, sim_start, ext_start⟩
theorem last_start : Int64.toInt32 (fRat (XJ0 5) 2) = -1 := by decide
set_option maxHeartbeats 8000000 in
set_option maxRecDepth 100000 in
/-- from the entry, for every script of at most 260 ints, the law comes to its end with true -/
theorem whole_start {p : Program} {e : Env} {s : State} {m : MethodId} {below : List Frame} {meth : Method} {c : Code} (l : Launch) (hflags : l.flags = flags0) {b L : Nat} {xs : Nat → Int32} (hL : L ≤ 260) (C0 : lw_At p s m meth c b L xs) : W p l e room_1 s m #[Value.ref b] below meth c s.heap [] 0 0 (lw_Z below #[Value.ref b] s) (entryFrame m ([Value.ref b] : List Value).toArray 13) := by
  obtain ⟨hx, hb, hret, hml, hown, hts, hXs, hbl, hlk, hgv⟩ := C0
  have hown : s.vm.findClass RL = some m.cls := hown
  have hT := law_T hts
  obtain ⟨hO2, hO1⟩ := law_AO hts
  obtain ⟨D, ks, hK⟩ := law_K hts
  have hZ := law_Z hts hgv
  have hUn := law_Un hts hgv
  have hst : l.stackTraces = false := by unfold Launch.stackTraces; rw [hflags]; decide +kernel
  have hF : lwF p l room_1 s m #[.ref b] c D ks b L xs := ⟨⟨hx, hb, hml, hown, hT⟩, ⟨hK, hZ, hUn⟩, ⟨hXs, hbl, hL⟩, hst, by decide, by decide⟩
  rw [lg_entry_eq]
  have hl := lv_entry [.ref b] (n := 13) (Nat.le_of_ble_eq_true rfl)
  generalize (lg_sl ([.ref b]) ++ List.replicate (13 - (lg_sl ([.ref b])).length) Slot.unset).toArray = ls at hl ⊢
  have hl : lv_has ls 13 [(0, .ref b)] := hl
  have hA : ∀ q : Nat, s.heap.size ≤ q → (fun q => s.heap.size ≤ q) q := fun q h => h
  have hS : va_S (fun q => s.heap.size ≤ q) s.heap s.heap [] := va_S.rf
  have hP : zP D [] (fun _ => 0) (fun _ => eFund 0) s.heap := fun r hr => absurd hr List.not_mem_nil
  have hD : zD (fun q => s.heap.size ≤ q) [] (fun _ => 0) := ⟨List.nodup_nil, fun r hr => absurd hr List.not_mem_nil, fun r hr => absurd hr List.not_mem_nil⟩
  refine z_new (ci := 3) (fs := [.null, .null, .null, .null, .int 0, .int 0, .int 0, .int 0, .int 0, .int 0, .int 0, .int 0, .long 0, .long 0]) (r := 13) hx hb hT hown hK ly_X3 tyX3 tyX3_ok cl_L_10 mk_X3 in_X3 hP hD hS hA rfl (fun j hj => by rcases (show j = 0 ∨ j = 1 ∨ j = 2 ∨ j = 3 ∨ j = 4 ∨ j = 5 ∨ j = 6 ∨ j = 7 ∨ j = 8 ∨ j = 9 ∨ j = 10 ∨ j = 11 ∨ j = 12 ∨ j = 13 by omega) with rfl | rfl | rfl | rfl | rfl | rfl | rfl | rfl | rfl | rfl | rfl | rfl | rfl | rfl <;> rfl) List.not_mem_nil (Nat.le_of_ble_eq_true rfl) (Nat.le_of_ble_eq_true rfl) dL_law_0 (fun q H hP hD hq hS => ?_)
  refine lv_dup hx hb dL_law_3 rfl ?_
  obtain ⟨ad1, had1⟩ : ∃ z, z = va_up (fun _ => 0) 13 q := ⟨_, rfl⟩
  obtain ⟨g1, hg1⟩ : ∃ z, z = va_up (fun _ => eFund 0) 13 (.inr (3, [.null, .null, .null, .null, .int 0, .int 0, .int 0, .int 0, .int 0, .int 0, .int 0, .int 0, .long 0, .long 0])) := ⟨_, rfl⟩
  rw [← had1] at hP hD
  rw [← hg1] at hP
  have a13 : ad1 13 = q := by rw [had1, va_up_self]
  clear had1
  subst a13
  have e13 : g1 13 = .inr (3, [.null, .null, .null, .null, .int 0, .int 0, .int 0, .int 0, .int 0, .int 0, .int 0, .int 0, .long 0, .long 0]) := by rw [hg1, va_up_self]
  have hAo : ∀ q, zA [13] ad1 H.size q → s.heap.size ≤ q := hD.free (fun q hq => Nat.le_trans hS.1 hq)
  refine z_backW0 (z_runI ⟨hx, hb, hml, hown, hT⟩ (rest := [.ref (ad1 13)]) (As := []) (c_X3_init (D := D) (ks := ks) (Rs := [13]) (ad := ad1) (g := g1) l (hD.weak (fun _ _ => trivial)) List.mem_cons_self (by decide) (by decide) (by decide) (by decide) e13 H.size) k_L_63 ⟨fun a U g mk q => ⟨zPW.blind a U g mk q.1, va_AO.moved (u := U) (U := U.calling g mk a) (Vm.Alike.refl U.vm) q.2.1, va_AO.moved (u := U) (U := U.calling g mk a) (Vm.Alike.refl U.vm) q.2.2⟩, fun U hU hW => ⟨⟨rfl, by rw [hU], by rw [hU]; exact hP, hK.warm hW⟩, hO2.moved hW.alike, hO1.moved hW.alike⟩⟩ rfl ⟨Nat.le_of_ble_eq_true rfl, Nat.le_of_ble_eq_true rfl⟩ hl.1 rfl (Nat.le_of_ble_eq_true rfl) dL_law_4 ⟨Nat.le_of_ble_eq_true rfl, Nat.le_of_ble_eq_true rfl⟩) hS (hD.free (fun q hq => Nat.le_trans hS.1 hq)) (fun H locs hB hz hk2 hS => ?_)
  obtain ⟨ad, g2, ha2, hg2, e13, e14, e15, e16, e17, hP, hD2⟩ := hB
  have hD : zD (fun q => s.heap.size ≤ q) (17 :: 16 :: 15 :: 14 :: 13 :: []) ad := hD2.weak hAo
  have a13 : ad 13 = ad1 13 := ha2 13 List.mem_cons_self
  refine lv_astore_n (lv' := [(1, .ref (ad1 13)), (0, .ref b)]) hx hb dL_law_7 rfl hl (by decide) rfl (fun ls hl => ?_)
  have hl : lv_has ls 13 [(1, .ref (ad 13)), (0, .ref b)] := by rw [a13]; exact hl
  have hP : zP D (17 :: 16 :: 15 :: 14 :: 13 :: []) ad (gS ks ad 0 0 (fun _ => 0) MI0 (fun _ _ => 0) XI0 XJ0) H := by
    refine hP.cast (fun r hr => ?_)
    simp only [List.mem_cons, List.not_mem_nil, or_false] at hr
    rcases hr with rfl | rfl | rfl | rfl | rfl
    · rw [gS_lo (by decide), e17]; rfl
    · rw [gS_lo (by decide), e16]; rfl
    · rw [gS_lo (by decide), e15]; simp only [gLo]; rw [show rGen ad 0 = fun _ => none from by funext k; exact if_neg (Nat.not_lt_zero _)]
    · rw [gS_lo (by decide), e14]; simp only [gLo]; rw [show rPol ad 0 = fun _ => none from by funext k; exact if_neg (Nat.not_lt_zero _)]
    · rw [gS_lo (by decide), e13]; simp only [gLo, eOff]; rfl
  have hI : zIn (17 :: 16 :: 15 :: 14 :: 13 :: []) 0 0 := ⟨fun r h => by
    have : r = 13 ∨ r = 14 ∨ r = 15 ∨ r = 16 ∨ r = 17 := by omega
    simp only [List.mem_cons, List.not_mem_nil, or_false]; omega, fun i h => absurd h (Nat.not_lt_zero _), fun j h => absurd h (Nat.not_lt_zero _)⟩
  have hall : zAll (17 :: 16 :: 15 :: 14 :: 13 :: []) 0 0 := fun r hr => Or.inl (by simp only [List.mem_cons, List.not_mem_nil, or_false] at hr; omega)
  have hs := sI_start
  have hl60 := hlk
  obtain ⟨-, -, -, -, hRf, hRl⟩ := hF
  have hrc : room_1.cells = 659795 ∧ room_1.slots = 7122083 := ⟨rfl, rfl⟩
  refine lv_aload_n hx hb dL_law_8 rfl (lv_at hl 0 rfl) ?_
  refine z_backR1 (z_runS ⟨hx, hb, hml, hown, hT⟩ (rest := []) (As := [.ref (ad 13)]) (c_L_holds (G := (fun _ => 0)) (MI := MI0) (MJ := (fun _ _ => 0)) (XI := XI0) (XJ := XJ0) l hI hs) k_L_64 (z_preR hK hP) rfl ⟨by omega, by omega⟩ hl.1 rfl (Nat.le_of_ble_eq_true rfl) dL_law_9 ⟨by omega, by omega⟩) ?_
  refine lv_if_eq (tgt := 42) hx hb dL_law_12 (by decide) (fun c_1 => ?_) (fun c_1 => ?_)
  · exact absurd c_1 (by decide)
  · refine lv_aload_n hx hb dL_law_15 rfl (lv_at hl 0 rfl) ?_
    refine z_backR1 (z_runS ⟨hx, hb, hml, hown, hT⟩ (rest := []) (As := [.ref (ad 13)]) (c_L_generations (G := (fun _ => 0)) (MI := MI0) (MJ := (fun _ _ => 0)) (XI := XI0) (XJ := XJ0) l hI hs) k_L_70 (z_preR hK hP) rfl ⟨by omega, by omega⟩ hl.1 rfl (Nat.le_of_ble_eq_true rfl) dL_law_16 ⟨by omega, by omega⟩) ?_
    refine lv_if_eq (tgt := 42) hx hb dL_law_19 (by decide) (fun c_2 => ?_) (fun c_2 => ?_)
    · exact absurd c_2 (by decide)
    · refine lv_aload_n hx hb dL_law_22 rfl (lv_at hl 0 rfl) ?_
      refine z_backR1 (z_runV ⟨hx, hb, hml, hown, hT⟩ (rest := []) (As := []) (c_X3_year (G := (fun _ => 0)) (MI := MI0) (MJ := (fun _ _ => 0)) (XI := XI0) (XJ := XJ0) l hI ) k_L_73 (z_preRV hK hP (hP.at (hI.1 13 (by decide)) rfl) rfl) rfl ⟨by omega, by omega⟩ hl.1 rfl (Nat.le_of_ble_eq_true rfl) dL_law_23 ⟨by omega, by omega⟩) ?_
      refine lv_if_ne (tgt := 42) hx hb dL_law_26 (by decide) (fun c_3 => ?_) (fun c_3 => ?_)
      · exact absurd (show XI0 10 2 = 0 from rfl) c_3
      · refine lv_aload_n hx hb dL_law_29 rfl (lv_at hl 0 rfl) ?_
        refine lv_iconst (v := 2) hx hb dL_law_30 (by decide) ?_
        refine z_backR1 (z_runV ⟨hx, hb, hml, hown, hT⟩ (rest := []) (As := [.int 2]) (c_X3_lastRatio_ok (G := (fun _ => 0)) (MI := MI0) (MJ := (fun _ _ => 0)) (XI := XI0) (XJ := XJ0) l hI 2 rfl) k_L_76 (z_preRV hK hP (hP.at (hI.1 13 (by decide)) rfl) rfl) rfl ⟨by omega, by omega⟩ hl.1 rfl (Nat.le_of_ble_eq_true rfl) dL_law_31 ⟨by omega, by omega⟩) ?_
        refine lv_iconst (v := (-1)) hx hb dL_law_34 (by decide) ?_
        refine lv_icmp_ne (tgt := 42) hx hb dL_law_35 (by decide) (fun c_4 => ?_) (fun c_4 => ?_)
        · exact absurd last_start c_4
        · refine lv_iconst (v := 1) hx hb dL_law_38 (by decide) ?_
          refine lv_goto (tgt := 43) hx hb dL_law_39 (by decide) ?_
          refine lv_istore_n (lv' := [(2, .int 1), (1, .ref (ad 13)), (0, .ref b)]) hx hb dL_law_43 rfl hl (by decide) rfl (fun ls hl => ?_)
          refine lv_bipush (v := 6) hx hb dL_law_44 (by decide) ?_
          refine lv_aload_n hx hb dL_law_46 rfl (lv_at hl 2 rfl) ?_
          refine lv_iconst (v := nI 0) hx hb dL_law_47 (by decide) ?_
          refine z_backR1 (z_runS ⟨hx, hb, hml, hown, hT⟩ (rest := [.int 6]) (As := [.ref b, .int (nI 0)]) (c_L_cell l b L xs 0 (by omega) (by omega)) k_L_79 (z_preC hXs hbl hS) rfl ⟨by omega, by omega⟩ hl.1 rfl (Nat.le_of_ble_eq_true rfl) dL_law_48 ⟨by omega, by omega⟩) ?_
          refine lv_topi (fun v5 ev5 => ?_)
          clear ev5
          refine lv_bipush (v := 55) hx hb dL_law_51 (by decide) ?_
          refine z_backR1 (z_runS ⟨hx, hb, hml, hown, hT⟩ (rest := [.int 6]) (As := [.int v5, .int 55]) (c_L_low l v5 55 (by decide)) k_L_83 (z_preR hK trivial) rfl ⟨by omega, by omega⟩ hl.1 rfl (Nat.le_of_ble_eq_true rfl) dL_law_53 ⟨by omega, by omega⟩) ?_
          refine lv_topi (fun v6 ev6 => ?_)
          have hv6 : 0 ≤ v6.toInt ∧ v6.toInt < 55 := by rw [ev6]; exact low_b (by decide) (by decide)
          clear ev6
          refine lv_iadd hx hb dL_law_56 ?_
          refine lv_topi (fun v7 ev7 => ?_)
          have hv7 : v7.toInt = 6 + v6.toInt := by rw [ev7, i_add (by rw [show (6 : Int32).toInt = 6 by decide]; omega) (by rw [show (6 : Int32).toInt = 6 by decide]; omega)]; rfl
          clear ev7
          obtain ⟨T, hT60, eT⟩ : ∃ T : Nat, T ≤ 60 ∧ v7 = nI T := ⟨v7.toInt.toNat, by omega, by apply Int32.toInt_inj.mp; rw [nI_toInt (by omega)]; omega⟩
          subst eT
          refine lv_istore_n (lv' := [(3, .int (nI T)), (2, .int 1), (1, .ref (ad 13)), (0, .ref b)]) hx hb dL_law_57 rfl hl (by decide) rfl (fun ls hl => ?_)
          refine lv_iconst (v := 0) hx hb dL_law_58 (by decide) ?_
          refine lv_istore (lv' := [(4, .int 0), (3, .int (nI T)), (2, .int 1), (1, .ref (ad 13)), (0, .ref b)]) hx hb dL_law_59 hl (by decide) rfl (fun ls hl => ?_)
          exact law_loop ⟨⟨hx, hb, hml, hown, hT⟩, ⟨hK, hZ, hUn⟩, ⟨hXs, hbl, hL⟩, hst, hRf, hRl⟩ hret hlk hT60 T 0 ad (17 :: 16 :: 15 :: 14 :: 13 :: []) 0 0 (fun _ => 0) MI0 (fun _ _ => 0) XI0 XJ0 0 H _ ls _ _ (by omega) hI hall hD hP hS hs (lv_sub hl [0, 1, 2, 3, 4] rfl) (by omega) (by omega)
