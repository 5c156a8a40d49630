/-! what the law's branches rest on -/
section ZQ5
variable {np ng : Nat} {G : Nat → Nat} {XI : Nat → Nat → Int32} {XJ : Nat → Nat → Int64}
theorem low_b {v n : Int32} {N : Int} (hN : n.toInt = N) (h : 0 < N) : 0 ≤ (fLow v n).toInt ∧ (fLow v n).toInt < N := by
  have := low_z (v := v) (n := n) (by omega)
  omega
theorem fIn_of {v lo hi : Int32} {a b : Int} (ha : lo.toInt = a) (hb : hi.toInt = b) (h1 : a ≤ v.toInt) (h2 : v.toInt ≤ b) : fIn v lo hi = 1 :=
  if_pos ⟨Int32.le_iff_toInt_le.mpr (by omega), Int32.le_iff_toInt_le.mpr (by omega)⟩
theorem sI.yr {y : Nat} (hs : sI np ng G XI XJ y) : (XI 10 2).toInt = y ∧ y ≤ 40 := by
  obtain ⟨MI, MJ, h, -⟩ := hs
  exact ⟨by rw [← h.2.2.2.2.1.1.1]; exact h.1.2, h.1.1⟩
theorem sI.gn {y : Nat} (hs : sI np ng G XI XJ y) : (XI 10 0 = nI np ∧ XI 10 1 = nI ng) ∧ (∀ j, j < np → G j < ng) ∧ ng ≤ np ∧ np ≤ 30 := by
  obtain ⟨MI, MJ, h, -⟩ := hs
  exact ⟨h.2.2.2.2.2.2.2.1, fun j hj => (h.2.1.1 j hj).2.2.2.2.2, h.2.1.gle, h.np30⟩
theorem run_f {y : Nat} (hs : sI np ng G XI XJ y) (hy : y < 40) {rt : Int32} (hrt : -200 ≤ rt.toInt ∧ rt.toInt ≤ 200) : sI np ng G (xRunI XI XJ G rt np ng) (xRunJ XI XJ G rt np ng) (y + 1) ∧ xMtN np G 30 (xS0 XI XJ rt np ng) ≤ np ∧ xRunI XI XJ G rt np ng 10 2 = XI 10 2 + 1 := by
  obtain ⟨MI, MJ, h, he⟩ := hs
  refine ⟨⟨_, _, (sim_run h hy hrt).1, ext_run h he hy hrt⟩, ?_, ?_⟩
  · rw [(xMt_ge (np := np) (G := G) (T := xS0 XI XJ rt np ng) 30 h.np30).2]
    exact xMtN_le np
  · unfold xRunI
    rw [u2_s, xMtS_k (by decide)]
    rfl
abbrev fWo (XI : Nat → Nat → Int32) (XJ : Nat → Nat → Int64) (G : Nat → Nat) (j : Nat) : Int64 := fWorth (XI 10 2 - XI 11 (G j)) (XI 12 (G j)) (fAsset (XI 15 j) (XJ 8 (G j)) (XI 13 j) (XJ 7 (G j))) (XI 13 j) (XI 10 7)
theorem sur_f {y : Nat} (hs : sI np ng G XI XJ y) {j : Nat} (hj : j < np) (h0 : XI 15 j = 0) (hyr : 1 ≤ XI 10 2 - XI 11 (G j)) : (0 ≤ (fWo XI XJ G j).toInt ∧ (fWo XI XJ G j).toInt < 2 ^ 31) ∧ sI np ng G (u2 XI 15 j 2) (xCloJ XI G j (fWo XI XJ G j) XJ) y := by
  obtain ⟨MI, MJ, h, he⟩ := hs
  have h5 : MI 5 j = 0 := (h.2.1.1 j hj).2.2.2.2.1.trans h0
  obtain ⟨w1, w2, w3⟩ := worth_eq h hj h5
  rw [← w1] at w2 w3
  exact ⟨⟨w2, w3⟩, _, _, sim_surrender h hj h5 w1, ext_sur h he hj hyr w2 w3⟩
theorem xClo_11 {w : Int64} {j : Nat} : xCloJ XI G j w XJ 11 j = w := by unfold xCloJ; rw [u2_s]
theorem xClo_41 {w : Int64} {j : Nat} : xCloJ XI G j w XJ 4 1 = XJ 4 1 - w := by unfold xCloJ; simp [u2]
theorem rates_f {y : Nat} (hs : sI np ng G XI XJ y) {bo ch : Int32} (h0 : fIn bo 0 200 = 1) (h1 : fIn ch 0 100 = 1) : sI np ng G (u2 (u2 XI 10 3 bo) 10 4 ch) XJ y := by
  obtain ⟨MI, MJ, h, he⟩ := hs
  exact ⟨_, _, sim_rates h h0 h1, ext_rates he⟩
theorem scale_f {y : Nat} (hs : sI np ng G XI XJ y) {sc sp fl : Int32} (h0 : fIn sc 500 1500 = 1) (h1 : fIn sp 0 1000 = 1) (h2 : fIn fl 0 1000 = 1) : sI np ng G (u2 (u2 (u2 XI 10 5 sc) 10 6 sp) 10 7 fl) XJ y := by
  obtain ⟨MI, MJ, h, he⟩ := hs
  exact ⟨_, _, sim_scale h h0 h1 h2, ext_scale he⟩
theorem endow_f {y : Nat} (hs : sI np ng G XI XJ y) (am : Int64) : sI np ng G XI (u2 (u2 XJ 4 0 (XJ 4 0 + am)) 4 1 (XJ 4 1 + am)) y := by
  obtain ⟨MI, MJ, h, he⟩ := hs
  exact ⟨_, _, sim_endow h am, ext_endow he⟩
theorem fShare_0 {p : Int32} {P : Int64} : fShare 0 p P = 0 := by
  unfold fShare fParted
  rw [Int64.zero_mul]
  split
  · exact Int64.zero_div
  · rfl
/-- a policy just begun -/
theorem sh0_f {y : Nat} (hs : sI np ng G XI XJ y) {k : Nat} (hk : k < np) (h0 : XI 15 k = 0) (h1 : XI 11 (G k) = XI 10 2) : shT XI XJ G k = 0 := by
  obtain ⟨MI, MJ, h, he⟩ := hs
  have h8 := he.2.1 (G k) (h.2.1.1 k hk).2.2.2.2.2 h1
  unfold shT fAsset
  rw [if_pos h0, h8, fShare_0]
  rfl
theorem old_f {y : Nat} (hs : sI np ng G XI XJ y) (hn30 : np < 30) {te pr su : Int32} (v0 : 2 ≤ te.toInt ∧ te.toInt ≤ 20) (v1 : 1 ≤ pr.toInt ∧ pr.toInt ≤ 1000) (v2 : 0 ≤ su.toInt ∧ su.toInt ≤ 100000) {i : Nat} (hi : i < ng) (hk1 : XI 11 i = XI 10 2) (hk2 : XI 12 i = te) :
    sI (np + 1) ng (bG G np i) (bI XI np pr su) (bJ (u2 XJ 7 i (XJ 7 i + Int32.toInt64 pr)) np) y ∧ bI XI np pr su 15 np = 0 ∧ bI XI np pr su 11 (bG G np i np) = bI XI np pr su 10 2 := by
  obtain ⟨MI, MJ, h, he⟩ := hs
  have hC := h.2.2.2.2.1
  have hcnt := h.2.2.2.2.2.2.2.1.2
  have hb := sim_begin h hn30 (te := te) (pr := pr) (su := su) v0 v1 v2 (i := i) (ng' := ng) (G' := bG G np i) (M := u2 (u2 (u2 (u2 (u2 (u2 MI 0 7 0) 1 np (MI 0 0)) 2 np (te)) 3 np (pr)) 4 np (su)) 0 6 (nI (np + 1))) (X := bI XI np (pr) (su)) (X' := bJ (u2 XJ 7 i (XJ 7 i + Int32.toInt64 (pr))) np) (Or.inl ⟨hi, rfl⟩) (fun j => by simp [u2]) (fun j => by simp [u2]) (fun j => by simp [u2]) (fun j => by simp [u2]) (rfl) (rfl) (rfl) (rfl) (fun c hc => by rcases (show c = 0 ∨ c = 1 ∨ c = 2 ∨ c = 3 ∨ c = 4 ∨ c = 5 by omega) with rfl | rfl | rfl | rfl | rfl | rfl <;> rfl) (by simp [u2]) (fun j hj => by simp [bG, Nat.ne_of_lt hj]) (by simp [bG]) (fun k hk => by simp [u2, bI, nIx, Nat.ne_of_lt hk]) (fun k hk => by simp [u2, bI, nIx, Nat.ne_of_lt hk]) (by simp [u2, bI]; rw [hk1, hC.1.1]) (by simp [u2, bI]; exact hk2) (fun j => by simp [u2, bI, nIx]) (fun j => by simp [u2, bI, nIx]) (fun j => by simp [u2, bI, nIx]) (fun c hc => by simp [u2, bI, nIx, show c ≠ 0 by omega, show c ≠ 1 by omega]) (by simp [u2, bI]) (by simp [u2, bI]; exact hcnt) (by simp [u2, bJ, nJx]) (by simp [u2, bJ, nJx]) (fun k hk hki => by simp [u2, bJ, nJx, hki]) (by simp [u2, bJ, hi]) (fun k hk => by simp [u2, bJ, nJx, Nat.ne_of_lt hk]) (fun q => by omega) (fun j => by simp [u2, bJ, nJx]) (fun j => by simp [u2, bJ, nJx]) (fun j => by simp [u2, bJ, nJx])
  refine ⟨⟨_, _, hb, ext_old (te := te) h he v2 hi⟩, by simp [u2, bI], ?_⟩
  have e : bG G np i np = i := by simp [bG]
  rw [e]
  simp [u2, bI]
  exact hk1
theorem new_f {y : Nat} (hs : sI np ng G XI XJ y) (hn30 : np < 30) {te pr su : Int32} (v0 : 2 ≤ te.toInt ∧ te.toInt ≤ 20) (v1 : 1 ≤ pr.toInt ∧ pr.toInt ≤ 1000) (v2 : 0 ≤ su.toInt ∧ su.toInt ≤ 100000) (hno : ∀ k, 0 ≤ k → k < 0 + ng → ¬ (XI 11 k = XI 10 2 ∧ XI 12 k = te)) :
    sI (np + 1) (ng + 1) (bG G np ng) (bI (nIx XI ng te) np pr su) (bJ (nJx XJ ng pr) np) y ∧ bI (nIx XI ng te) np pr su 15 np = 0 ∧ bI (nIx XI ng te) np pr su 11 (bG G np ng np) = bI (nIx XI ng te) np pr su 10 2 := by
  obtain ⟨MI, MJ, h, he⟩ := hs
  have hC := h.2.2.2.2.1
  have hcnt := h.2.2.2.2.2.2.2.1.2
  have hno2 : ∀ k, k < ng → ¬ (XI 11 k = MI 0 0 ∧ XI 12 k = te) := fun k hk => by rw [hC.1.1]; exact hno k (Nat.zero_le _) (by omega)
  have hb := sim_begin h hn30 (te := te) (pr := pr) (su := su) v0 v1 v2 (i := ng) (ng' := (ng + 1)) (G' := bG G np ng) (M := u2 (u2 (u2 (u2 (u2 (u2 MI 0 7 0) 1 np (MI 0 0)) 2 np (te)) 3 np (pr)) 4 np (su)) 0 6 (nI (np + 1))) (X := bI (nIx XI ng (te)) np (pr) (su)) (X' := bJ (nJx XJ ng (pr)) np) (Or.inr ⟨rfl, rfl, hno2⟩) (fun j => by simp [u2]) (fun j => by simp [u2]) (fun j => by simp [u2]) (fun j => by simp [u2]) (rfl) (rfl) (rfl) (rfl) (fun c hc => by rcases (show c = 0 ∨ c = 1 ∨ c = 2 ∨ c = 3 ∨ c = 4 ∨ c = 5 by omega) with rfl | rfl | rfl | rfl | rfl | rfl <;> rfl) (by simp [u2]) (fun j hj => by simp [bG, Nat.ne_of_lt hj]) (by simp [bG]) (fun k hk => by simp [u2, bI, nIx, Nat.ne_of_lt hk]) (fun k hk => by simp [u2, bI, nIx, Nat.ne_of_lt hk]) (by simp [u2, bI, nIx]; exact hC.1.1.symm) (by simp [u2, bI, nIx]) (fun j => by simp [u2, bI, nIx]) (fun j => by simp [u2, bI, nIx]) (fun j => by simp [u2, bI, nIx]) (fun c hc => by simp [u2, bI, nIx, show c ≠ 0 by omega, show c ≠ 1 by omega]) (by simp [u2, bI]) (by simp [u2, bI, nIx]) (by simp [u2, bJ, nJx]) (by simp [u2, bJ, nJx]) (fun k hk hki => by simp [u2, bJ, nJx, hki]) (by simp [u2, bJ, nJx]) (fun k hk => by simp [u2, bJ, nJx, Nat.ne_of_lt hk]) (fun _ => by simp [u2, bJ, nJx]) (fun j => by simp [u2, bJ, nJx]) (fun j => by simp [u2, bJ, nJx]) (fun j => by simp [u2, bJ, nJx])
  refine ⟨⟨_, _, hb, ext_new h he v2⟩, by simp [u2, bI], ?_⟩
  have e : bG G np ng np = ng := by simp [bG]
  rw [e]
  simp [u2, bI, nIx]
end ZQ5
