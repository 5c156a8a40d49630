/-! a policy begins -/
section ZB2
variable {D : va_G} {ks : Nat → ClassId} {ad : Nat → Nat} {np ng : Nat} {G : Nat → Nat} {MI : Nat → Nat → Int32} {MJ : Nat → Nat → Int64} {XI : Nat → Nat → Int32} {XJ : Nat → Nat → Int64} {Rs : List Nat}
theorem zA_cons_le {sz sz2 : Nat} (h : sz ≤ sz2) : ∀ x, zA Rs ad sz2 x → zA Rs ad sz x := by
  rintro x (h1 | h1)
  · exact Or.inl h1
  · exact Or.inr (Nat.le_trans h h1)
set_option maxHeartbeats 4000000 in
set_option maxRecDepth 100000 in
theorem c_X3_joinGeneration_old (l : Launch) (r2 : Nat) (hD0 : zD (fun _ => True) (r2 :: Rs) ad) (hI : zIn Rs np ng) {g : Nat → va_E} (hgS : ∀ r ∈ Rs, g r = gS ks ad np ng G MI MJ XI XJ r) (hG30 : ng ≤ 30) (te pr : Int32) (i : Nat) (hi : i < ng) (hf : xF (XI 11) (XI 12) (XI 10 2) te ng 0 = some i) (sz : Nat) :
    Met l yX3_joinGeneration (Cond.code yX3_joinGeneration cX3_joinGeneration 4 (some (.object "ProfitsOffice$Generation")) :: WS) (zRm 3 60 0 0) (zPW D ks sz [.ref (ad 13), .int te, .int pr] (zP D (r2 :: Rs) ad g)) (zQA (fun q H => q = ad (20 + 4 * i) ∧ zP D (r2 :: Rs) ad (va_up g (20 + 4 * i) (.inr (1, [.int (XI 11 i), .int (XI 12 i), .ref (ad (21 + 4 * i)), .long (XJ 7 i + Int32.toInt64 pr)]))) H) (zA (r2 :: Rs) ad sz)) 0 0 (zA (r2 :: Rs) ad sz) := by
  refine zMA.of (by decide +kernel) (Nat.le_of_ble_eq_true rfl) ?_
  intro p e s m below meth c ls hx hb hr hml hown hlk hT hsz hP hK hl
  have hl : lv_has ls 4 [(0, .ref (ad 13)), (1, .int te), (2, .int pr)] := hl
  subst hsz
  have hD := hD0.self (sz := s.heap.size)
  have hA : ∀ q : Nat, s.heap.size ≤ q → zA (r2 :: Rs) ad s.heap.size q := fun q h => Or.inr h
  have hS : va_S (zA (r2 :: Rs) ad s.heap.size) s.heap s.heap [] := va_S.rf
  have m13 : 13 ∈ r2 :: Rs := List.mem_cons_of_mem _ (hI.1 13 (by decide))
  have mi : 20 + 4 * i ∈ r2 :: Rs := List.mem_cons_of_mem _ (hI.2.1 i hi).1
  have hgi : g (20 + 4 * i) = gHi ad G XI XJ 0 i := (hgS _ (hI.2.1 i hi).1).trans gS_0
  refine lv_aload_n hx hb dX3_joinGeneration_0 rfl (lv_at hl 0 rfl) ?_
  refine lv_aload_n hx hb dX3_joinGeneration_1 rfl (lv_at hl 0 rfl) ?_
  refine gf_X3_110 hx hb hT hown hK (hP.at m13 (hgS 13 (hI.1 13 (by decide)))) rfl dX3_joinGeneration_2 ?_
  refine lv_iload_n hx hb dX3_joinGeneration_5 rfl (lv_at hl 1 rfl) ?_
  have hP0 : zP D Rs ad (gS ks ad np ng G MI MJ XI XJ) s.heap := fun x hx => by rw [← hgS x hx]; exact hP x (List.mem_cons_of_mem _ hx)
  refine z_backR1 (z_runV ⟨hx, hb, hml, hown, hT⟩ (rest := []) (As := [.int (XI 10 2), .int te]) (c_X3_findGeneration l hI (XI 10 2) te hG30) k_X3_158 (z_preRV hK hP0 (hP.at m13 (hgS 13 (hI.1 13 (by decide)))) rfl) rfl ⟨Nat.le_of_ble_eq_true rfl, Nat.le_of_ble_eq_true rfl⟩ hl.1 rfl (Nat.le_of_ble_eq_true rfl) dX3_joinGeneration_6 ⟨Nat.le_of_ble_eq_true rfl, Nat.le_of_ble_eq_true rfl⟩) ?_
  rw [hf]
  show W _ _ _ _ _ _ _ _ _ _ _ _ _ _ _ (F0 m 9 ls [.ref (ad (20 + 4 * i))])
  refine lv_astore_n (lv' := [(3, .ref (ad (20 + 4 * i))), (0, .ref (ad 13)), (1, .int te), (2, .int pr)]) hx hb dX3_joinGeneration_9 rfl hl (by decide) rfl (fun ls hl => ?_)
  refine lv_aload_n hx hb dX3_joinGeneration_10 rfl (lv_at hl 0 rfl) ?_
  refine lv_ifnonnull (tgt := 66) hx hb dX3_joinGeneration_11 (by decide) ?_
  refine lv_aload_n hx hb dX3_joinGeneration_66 rfl (lv_at hl 0 rfl) ?_
  refine lv_dup hx hb dX3_joinGeneration_67 rfl ?_
  refine gf_X3_208 hx hb hT hown hK (hP.at mi hgi) rfl dX3_joinGeneration_68 ?_
  refine lv_iload_n hx hb dX3_joinGeneration_71 rfl (lv_at hl 3 rfl) ?_
  refine lv_i2l hx hb dX3_joinGeneration_72 rfl ?_
  refine lv_ladd hx hb dX3_joinGeneration_73 ?_
  refine pa_X3_208 hx hb hT hown hK hP hD hS mi rfl hgi (Nat.le_of_ble_eq_true rfl) dX3_joinGeneration_74 (fun H locs hP hS => ?_)
  refine lv_aload_n hx hb dX3_joinGeneration_77 rfl (lv_at hl 0 rfl) ?_
  exact zA_a hx hb hr hlk hS (Nat.le_of_ble_eq_true rfl) (Nat.le_of_ble_eq_true rfl) dX3_joinGeneration_78 ⟨rfl, hP⟩
/-- what a joined generation makes of the world -/
def jG (ks : Nat → ClassId) (ad : Nat → Nat) (ng : Nat) (XI : Nat → Nat → Int32) (XJ : Nat → Nat → Int64) (te pr : Int32) (q qf : Nat) (g : Nat → va_E) : Nat → va_E :=
  va_up (va_up (va_up (va_up g (20 + 4 * ng) (.inr (1, [.int (XI 10 2), .int te, .ref qf, .long (0 + Int32.toInt64 pr)]))) (21 + 4 * ng) (.inr (0, [.long 0]))) 15 (.inl (ks 2, 30, .inr (.inr (.inr (.inr (va_up (rGen ad ng) ng (some q)))))))) 13 (.inr (3, [.ref (ad 14), .ref (ad 15), .ref (ad 16), .ref (ad 17), .int (XI 10 0), .int (nI (ng + 1)), .int (XI 10 2), .int (XI 10 3), .int (XI 10 4), .int (XI 10 5), .int (XI 10 6), .int (XI 10 7), .long (XJ 4 0), .long (XJ 4 1)]))
set_option maxHeartbeats 4000000 in
set_option maxRecDepth 100000 in
theorem c_X3_joinGeneration_new (l : Launch) (r2 : Nat) (hD0 : zD (fun _ => True) (r2 :: Rs) ad) (hI : zIn Rs np ng) {g : Nat → va_E} (hgS : ∀ r ∈ Rs, g r = gS ks ad np ng G MI MJ XI XJ r) (hG30 : ng ≤ 30) (te pr : Int32) (hg30 : ng < 30) (hcnt : XI 10 1 = nI ng) (hn0 : 20 + 4 * ng ∉ r2 :: Rs) (hn1 : 21 + 4 * ng ∉ r2 :: Rs) (hf : xF (XI 11) (XI 12) (XI 10 2) te ng 0 = none) (sz : Nat) :
    Met l yX3_joinGeneration (Cond.code yX3_joinGeneration cX3_joinGeneration 4 (some (.object "ProfitsOffice$Generation")) :: WS) (zRm 3 60 2 5) (zPW D ks sz [.ref (ad 13), .int te, .int pr] (zP D (r2 :: Rs) ad g)) (zQA (fun q H => sz ≤ q ∧ ∃ qf : Nat, sz ≤ qf ∧ zP D ((21 + 4 * ng) :: (20 + 4 * ng) :: r2 :: Rs) (va_up (va_up ad (20 + 4 * ng) q) (21 + 4 * ng) qf) (jG ks ad ng XI XJ te pr q qf g) H ∧ zD (zA (r2 :: Rs) ad sz) ((21 + 4 * ng) :: (20 + 4 * ng) :: r2 :: Rs) (va_up (va_up ad (20 + 4 * ng) q) (21 + 4 * ng) qf)) (zA (r2 :: Rs) ad sz)) 2 5 (zA (r2 :: Rs) ad sz) := by
  refine zMA.of (by decide +kernel) (Nat.le_of_ble_eq_true rfl) ?_
  intro p e s m below meth c ls hx hb hr hml hown hlk hT hsz hP hK hl
  have hl : lv_has ls 4 [(0, .ref (ad 13)), (1, .int te), (2, .int pr)] := hl
  subst hsz
  have hD := hD0.self (sz := s.heap.size)
  have hA : ∀ q : Nat, s.heap.size ≤ q → zA (r2 :: Rs) ad s.heap.size q := fun q h => Or.inr h
  have hS : va_S (zA (r2 :: Rs) ad s.heap.size) s.heap s.heap [] := va_S.rf
  have m13 : 13 ∈ r2 :: Rs := List.mem_cons_of_mem _ (hI.1 13 (by decide))
  refine lv_aload_n hx hb dX3_joinGeneration_0 rfl (lv_at hl 0 rfl) ?_
  refine lv_aload_n hx hb dX3_joinGeneration_1 rfl (lv_at hl 0 rfl) ?_
  refine gf_X3_110 hx hb hT hown hK (hP.at m13 (hgS 13 (hI.1 13 (by decide)))) rfl dX3_joinGeneration_2 ?_
  refine lv_iload_n hx hb dX3_joinGeneration_5 rfl (lv_at hl 1 rfl) ?_
  have hP0 : zP D Rs ad (gS ks ad np ng G MI MJ XI XJ) s.heap := fun x hx => by rw [← hgS x hx]; exact hP x (List.mem_cons_of_mem _ hx)
  refine z_backR1 (z_runV ⟨hx, hb, hml, hown, hT⟩ (rest := []) (As := [.int (XI 10 2), .int te]) (c_X3_findGeneration l hI (XI 10 2) te hG30) k_X3_158 (z_preRV hK hP0 (hP.at m13 (hgS 13 (hI.1 13 (by decide)))) rfl) rfl ⟨Nat.le_of_ble_eq_true rfl, Nat.le_of_ble_eq_true rfl⟩ hl.1 rfl (Nat.le_of_ble_eq_true rfl) dX3_joinGeneration_6 ⟨Nat.le_of_ble_eq_true rfl, Nat.le_of_ble_eq_true rfl⟩) ?_
  rw [hf]
  show W _ _ _ _ _ _ _ _ _ _ _ _ _ _ _ (F0 m 9 ls [.null])
  refine lv_astore_nN (lv' := [(3, .null), (0, .ref (ad 13)), (1, .int te), (2, .int pr)]) hx hb dX3_joinGeneration_9 rfl hl (by decide) rfl (fun ls hl => ?_)
  refine lv_aload_nN hx hb dX3_joinGeneration_10 rfl (lv_at hl 0 rfl) ?_
  refine lv_ifnonnullN hx hb dX3_joinGeneration_11 ?_
  refine z_new (ci := 1) (fs := [.int 0, .int 0, .null, .long 0]) (r := 20 + 4 * ng) hx hb hT hown hK ly_X1 tyX1 tyX1_ok cl_X3_15 mk_X1 in_X1 hP hD hS hA rfl (fun j hj => by rcases (show j = 0 ∨ j = 1 ∨ j = 2 ∨ j = 3 by omega) with rfl | rfl | rfl | rfl <;> rfl) hn0 (Nat.le_of_ble_eq_true rfl) (Nat.le_of_ble_eq_true rfl) dX3_joinGeneration_14 (fun q H hP1 hD1 hq hS => ?_)
  have hzH : s.heap.size ≤ H.size := hS.1
  have hr13 : (13 : Nat) ≠ 20 + 4 * ng := by omega
  have hr15 : (15 : Nat) ≠ 20 + 4 * ng := by omega
  have hf13 : (13 : Nat) ≠ 21 + 4 * ng := by omega
  have hf15 : (15 : Nat) ≠ 21 + 4 * ng := by omega
  have hff : 20 + 4 * ng ≠ 21 + 4 * ng := by omega
  have m15 : 15 ∈ r2 :: Rs := List.mem_cons_of_mem _ (hI.1 15 (by decide))
  refine lv_dup hx hb dX3_joinGeneration_17 rfl ?_
  refine lv_aload_n hx hb dX3_joinGeneration_18 rfl (lv_at hl 1 rfl) ?_
  have hat13 : va_at D vwCl (ad 13, gS ks ad np ng G MI MJ XI XJ 13) H := by
    have h1 := hP1.at (List.mem_cons_of_mem _ m13) ((va_up_ne _ _ hr13).trans (hgS 13 (hI.1 13 (by decide))))
    rw [va_up_ne _ _ hr13] at h1
    exact h1
  refine gf_X3_110 hx hb hT hown hK hat13 rfl dX3_joinGeneration_19 ?_
  refine lv_iload_n hx hb dX3_joinGeneration_22 rfl (lv_at hl 2 rfl) ?_
  have hDT : zD (fun _ => True) ((20 + 4 * ng) :: r2 :: Rs) (va_up ad (20 + 4 * ng) q) := hD1.weak (fun _ _ => trivial)
  have hn1' : 21 + 4 * ng ∉ (20 + 4 * ng) :: r2 :: Rs := fun h => (List.mem_cons.mp h).elim (fun e => hff e.symm) hn1
  have hqe : va_up ad (20 + 4 * ng) q (20 + 4 * ng) = q := va_up_self _ _ _
  have hM := c_X1_init (D := D) (ks := ks) (g := va_up g (20 + 4 * ng) (.inr (1, [.int 0, .int 0, .null, .long 0]))) l hDT (20 + 4 * ng) (21 + 4 * ng) List.mem_cons_self hn1' (va_up_self _ _ _) (XI 10 2) te H.size
  rw [hqe] at hM
  refine z_backW0 (z_runIN ⟨hx, hb, hml, hown, hT⟩ hK (rest := [.ref q]) (As := [.int (XI 10 2), .int te]) hM k_X3_202 (z_preW hK hP1) rfl ⟨Nat.le_of_ble_eq_true rfl, Nat.le_of_ble_eq_true rfl⟩ hl.1 rfl (Nat.le_of_ble_eq_true rfl) dX3_joinGeneration_23 ⟨Nat.le_of_ble_eq_true rfl, Nat.le_of_ble_eq_true rfl⟩) hS (fun x hx => zA_cons (Nat.le_refl _) hq x (zA_cons_le hS.1 x hx)) (fun H1 locs1 hB hz1 hk1 hS => ?_)
  obtain ⟨qf, hqf, hP2, hD2⟩ := hB
  have hqf0 : s.heap.size ≤ qf := Nat.le_trans hzH hqf
  have hDA : zD (zA (r2 :: Rs) ad s.heap.size) ((21 + 4 * ng) :: (20 + 4 * ng) :: r2 :: Rs) (va_up (va_up ad (20 + 4 * ng) q) (21 + 4 * ng) qf) := hD2.weak (fun x hx => zA_cons (Nat.le_refl _) hq x (zA_cons_le hzH x hx))
  obtain ⟨ad2, had2⟩ : ∃ z, z = va_up (va_up ad (20 + 4 * ng) q) (21 + 4 * ng) qf := ⟨_, rfl⟩
  rw [← had2] at hP2 hDA
  have a13 : ad2 13 = ad 13 := by rw [had2, va_up_ne _ _ hf13, va_up_ne _ _ hr13]
  have a15 : ad2 15 = ad 15 := by rw [had2, va_up_ne _ _ hf15, va_up_ne _ _ hr15]
  have aq : ad2 (20 + 4 * ng) = q := by rw [had2, va_up_ne _ _ hff, va_up_self]
  obtain ⟨g2, hg2⟩ : ∃ z, z = va_up (va_up (va_up g (20 + 4 * ng) (.inr (1, [.int 0, .int 0, .null, .long 0]))) (20 + 4 * ng) (.inr (1, [.int (XI 10 2), .int te, .ref qf, .long 0]))) (21 + 4 * ng) (.inr (0, [.long 0])) := ⟨_, rfl⟩
  rw [← hg2] at hP2
  have g13 : g2 13 = gS ks ad np ng G MI MJ XI XJ 13 := by rw [hg2, va_up_ne _ _ hf13, va_up_ne _ _ hr13, va_up_ne _ _ hr13]; exact hgS 13 (hI.1 13 (by decide))
  have g15 : g2 15 = gS ks ad np ng G MI MJ XI XJ 15 := by rw [hg2, va_up_ne _ _ hf15, va_up_ne _ _ hr15, va_up_ne _ _ hr15]; exact hgS 15 (hI.1 15 (by decide))
  have gq : g2 (20 + 4 * ng) = .inr (1, [.int (XI 10 2), .int te, .ref qf, .long 0]) := by rw [hg2, va_up_ne _ _ hff, va_up_self]
  have n13 : 13 ∈ (21 + 4 * ng) :: (20 + 4 * ng) :: r2 :: Rs := List.mem_cons_of_mem _ (List.mem_cons_of_mem _ m13)
  have n15 : 15 ∈ (21 + 4 * ng) :: (20 + 4 * ng) :: r2 :: Rs := List.mem_cons_of_mem _ (List.mem_cons_of_mem _ m15)
  have nq : 20 + 4 * ng ∈ (21 + 4 * ng) :: (20 + 4 * ng) :: r2 :: Rs := List.mem_cons_of_mem _ List.mem_cons_self
  have t13 : va_at D vwCl (ad 13, gS ks ad np ng G MI MJ XI XJ 13) H1 := by have h1 := hP2.at n13 g13; rw [a13] at h1; exact h1
  have t15 : va_at D vwCl (ad 15, gS ks ad np ng G MI MJ XI XJ 15) H1 := by have h1 := hP2.at n15 g15; rw [a15] at h1; exact h1
  refine lv_astore_n (lv' := [(3, .ref q), (0, .ref (ad 13)), (1, .int te), (2, .int pr)]) hx hb dX3_joinGeneration_26 rfl hl (by decide) rfl (fun ls hl => ?_)
  refine lv_aload_n hx hb dX3_joinGeneration_27 rfl (lv_at hl 1 rfl) ?_
  refine gf_X3_205 hx hb hT hown hK t13 rfl dX3_joinGeneration_28 ?_
  rw [show XI 10 1 = nI ng from hcnt]
  refine lv_if_lt (tgt := 66) hx hb dX3_joinGeneration_31 (by decide) (fun c_1 => absurd c_1 (nI_pos (by omega))) (fun c_1 => ?_)
  refine lv_aload_n hx hb dX3_joinGeneration_34 rfl (lv_at hl 1 rfl) ?_
  refine gf_X3_205 hx hb hT hown hK t13 rfl dX3_joinGeneration_35 ?_
  rw [show XI 10 1 = nI ng from hcnt]
  refine lv_aload_n hx hb dX3_joinGeneration_38 rfl (lv_at hl 1 rfl) ?_
  refine gf_X3_17 hx hb hT hown hK t13 rfl dX3_joinGeneration_39 ?_
  refine z_glen hx hb hK t15 (v := 30) rfl dX3_joinGeneration_42 ?_
  refine lv_icmp_ge (tgt := 66) hx hb dX3_joinGeneration_43 (by decide) (fun c_2 => absurd c_2 (nI_ge (a := ng) (b := 30) hg30 (by decide))) (fun c_2 => ?_)
  refine lv_aload_n hx hb dX3_joinGeneration_46 rfl (lv_at hl 1 rfl) ?_
  refine gf_X3_17 hx hb hT hown hK t13 rfl dX3_joinGeneration_47 ?_
  refine lv_aload_n hx hb dX3_joinGeneration_50 rfl (lv_at hl 1 rfl) ?_
  refine gf_X3_205 hx hb hT hown hK t13 rfl dX3_joinGeneration_51 ?_
  rw [show XI 10 1 = nI ng from hcnt]
  refine lv_aload_n hx hb dX3_joinGeneration_54 rfl (lv_at hl 0 rfl) ?_
  refine pa_gast hx hb hK hP2 hDA hS n15 a15 (g15.trans rfl) nq aq gq hg30 dX3_joinGeneration_55 (fun H locs hP3 hS => ?_)
  have hne15 : (13 : Nat) ≠ 15 := by decide
  have hq15 : 20 + 4 * ng ≠ 15 := by omega
  have hq13 : 20 + 4 * ng ≠ 13 := by omega
  have t13 : va_at D vwCl (ad 13, gS ks ad np ng G MI MJ XI XJ 13) H := by have h1 := hP3.at n13 ((va_up_ne _ _ hne15).trans g13); rw [a13] at h1; exact h1
  refine lv_aload_n hx hb dX3_joinGeneration_56 rfl (lv_at hl 1 rfl) ?_
  refine lv_dup hx hb dX3_joinGeneration_57 rfl ?_
  refine gf_X3_205 hx hb hT hown hK t13 rfl dX3_joinGeneration_58 ?_
  refine lv_iconst (v := 1) hx hb dX3_joinGeneration_61 (by decide) ?_
  refine lv_iadd hx hb dX3_joinGeneration_62 ?_
  rw [show XI 10 1 + 1 = nI (ng + 1) from by rw [hcnt]; exact nI_1 ng]
  refine pa_X3_205 hx hb hT hown hK hP3 hDA hS n13 a13 ((va_up_ne _ _ hne15).trans (g13.trans rfl)) (Nat.le_of_ble_eq_true rfl) dX3_joinGeneration_63 (fun H locs hP4 hS => ?_)
  have t4 := hP4.at nq ((va_up_ne _ _ hq13).trans ((va_up_ne _ _ hq15).trans gq))
  rw [aq] at t4
  refine lv_aload_n hx hb dX3_joinGeneration_66 rfl (lv_at hl 0 rfl) ?_
  refine lv_dup hx hb dX3_joinGeneration_67 rfl ?_
  refine gf_X3_208 hx hb hT hown hK t4 rfl dX3_joinGeneration_68 ?_
  refine lv_iload_n hx hb dX3_joinGeneration_71 rfl (lv_at hl 3 rfl) ?_
  refine lv_i2l hx hb dX3_joinGeneration_72 rfl ?_
  refine lv_ladd hx hb dX3_joinGeneration_73 ?_
  refine pa_X3_208 hx hb hT hown hK hP4 hDA hS nq aq ((va_up_ne _ _ hq13).trans ((va_up_ne _ _ hq15).trans gq)) (Nat.le_of_ble_eq_true rfl) dX3_joinGeneration_74 (fun H locs hP5 hS => ?_)
  refine lv_aload_n hx hb dX3_joinGeneration_77 rfl (lv_at hl 0 rfl) ?_
  refine zA_a hx hb hr hlk hS (Nat.le_of_ble_eq_true rfl) (Nat.le_of_ble_eq_true rfl) dX3_joinGeneration_78 ⟨hq, qf, hqf0, ?_, ?_⟩
  · rw [← had2]
    refine hP5.cast (fun x _ => ?_)
    subst hg2
    unfold jG
    simp only [va_up]
    by_cases h1 : x = 20 + 4 * ng
    · subst h1; simp [hff, hq15, hq13]
    · by_cases h2 : x = 13
      · subst h2; simp [hr13]
      · by_cases h3 : x = 15
        · subst h3; simp [hr15]
        · simp [h1, h2, h3]
  · rw [← had2]; exact hDA
end ZB2
