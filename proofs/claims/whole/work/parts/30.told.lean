/-! THE CLASS: what is told, one by one -/
theorem zwat {E : Nat} {v : Int32} (h : v &&& (nI E ^^^ (-1)) = 0) : ∃ a : Nat, a ≤ E ∧ v = nI a := by
  refine ⟨v.toBitVec.toNat &&& E, Nat.and_le_right, ?_⟩
  have e1 : (-1 : Int32) = nI (2 ^ 32 - 1) := by decide +kernel
  rw [e1, zb_xor] at h
  apply Int32.toBitVec_inj.mp
  apply BitVec.eq_of_getLsbD_eq
  intro i hi
  have h2 : (v.toBitVec &&& (nI (E ^^^ (2 ^ 32 - 1))).toBitVec).getLsbD i = false := by
    rw [← Int32.toBitVec_and, h]
    simp
  rw [BitVec.getLsbD_and] at h2
  have e2 : (nI (E ^^^ (2 ^ 32 - 1))).toBitVec.getLsbD i = !(E.testBit i) := by
    rw [nI, Int32.toBitVec_ofNat', BitVec.getLsbD_ofNat, Nat.testBit_xor, Nat.testBit_two_pow_sub_one]
    simp [hi]
  have e3 : (nI (v.toBitVec.toNat &&& E)).toBitVec.getLsbD i = (v.toBitVec.getLsbD i && E.testBit i) := by
    rw [nI, Int32.toBitVec_ofNat', BitVec.getLsbD_ofNat, Nat.testBit_and, BitVec.testBit_toNat]
    simp [hi]
  rw [e3]
  rw [e2] at h2
  revert h2
  cases v.toBitVec.getLsbD i <;> cases E.testBit i <;> simp
theorem zwat_k : ∀ n, n < 8 → ∀ v, v < 128 → v ≤ 2 ^ n - 1 → nI v &&& (nI (2 ^ n - 1) ^^^ (-1)) = 0 := by decide +kernel
theorem zwat_n {E : Nat} (hE : E < 128) {v : Int32} (hv : v < 0 ∨ nI E < v) : ¬ (v &&& (nI E ^^^ (-1)) = 0) := fun h => by
  obtain ⟨a, ha, rfl⟩ := zwat h
  rcases hv with hv | hv
  · exact nI_pos (by omega) hv
  · exact nI_nlt ha (by omega) hv
theorem zne_of {x : Int32} {n k : Nat} (hx : x < 0 ∨ nI n ≤ x) (hk : k < n) (hn : n < 2 ^ 31) : ¬ x = nI k := fun e => by
  subst e
  rcases hx with hx | hx
  · exact nI_pos (by omega) hx
  · exact nI_ge hk hn hx
theorem zc10 {x : Int32} (h : x ≤ nI 10) : x < nI 11 := by
  rw [Int32.le_iff_toInt_le, nI_toInt (by omega)] at h
  rw [Int32.lt_iff_toInt_lt, nI_toInt (by omega)]
  omega
theorem zc17 {x : Int32} (h : nI 17 ≤ x) : nI 16 < x := by
  rw [Int32.le_iff_toInt_le, nI_toInt (by omega)] at h
  rw [Int32.lt_iff_toInt_lt, nI_toInt (by omega)]
  omega
theorem zfire_is {v : Nat} {mi : Int32} (hv : v ≤ 500000) (hmi : 0 ≤ mi) : (if nI 0 < nI v - mi then nI v - mi else nI 0) = zfire 1000000 v mi := by
  obtain ⟨j, hj, rfl⟩ := nI_of (Int32.not_lt.mpr hmi)
  have e0 : ¬ v = 1000000 := by omega
  unfold zfire
  rw [if_neg e0]
  have e1 : (nI 0 < nI v - nI j) ↔ (nI j < nI v) := by
    rw [Int32.lt_iff_toInt_lt, Int32.toInt_sub, nI_toInt (by omega), nI_toInt (by omega), nI_toInt (by omega), Int.bmod_eq_of_le (by omega) (by omega), nI_ltI hj (by omega)]
    omega
  by_cases h : nI j < nI v
  · rw [if_pos (e1.mpr h), if_pos h]
  · rw [if_neg (fun z => h (e1.mp z)), if_neg h]
    rfl
set_option maxHeartbeats 1000000 in
set_option maxRecDepth 100000 in
theorem s3_letter_b {t : zMod} {u : zCls} {c : Int32} (hc : c < nI 0) : Mi mX3_letter 2 [.ref 11, .int (c)] (hA t u) (fun r h' => r = (-4) ∧ h' = hA t (cg_let u, cg_lc u, cg_rt u, cg_rl u, cg_ra u, cg_rf u, cg_rn u, cg_rc u, cg_now u, cg_dra u, cg_kep u, cg_im u, cg_mp u, cg_mw u, cg_mu u, cg_mn u, cg_mi u, cg_mc u, cg_md u, cg_mo u, cg_ms u, cg_mq u, cg_se u, cg_sc u, (va_up (cg_re u) 4 (cg_re u 4 + 1)))) := by
  refine Mi.of (by decide) rfl (Nat.le_of_ble_eq_true rfl) ?_
  refine r_iload_n eX3_letter_0 rfl rfl ?_
  refine r_if_ge eX3_letter_1 (fun hc1 => absurd hc1 (Int32.not_le.mpr hc)) (fun hc1 => ?_)
  refine r_aload_n eX3_letter_4 rfl rfl ?_
  refine r_bipush (v := (-4)) eX3_letter_5 rfl ?_
  refine r_callVi1 eX3_letter_7 lX3_46 (Or.inl ⟨_, _, _, rfl, rfl, rfl⟩) (s3_refuse (t := t) (u := u) (x := (-4)) (c := 4) (by decide) (by decide)) (by omega) (Nat.le_of_ble_eq_true rfl) (fun r1 h1 hq => ?_)
  obtain ⟨rfl, rfl⟩ := (show r1 = (-4) ∧ h1 = hA t (cg_let u, cg_lc u, cg_rt u, cg_rl u, cg_ra u, cg_rf u, cg_rn u, cg_rc u, cg_now u, cg_dra u, cg_kep u, cg_im u, cg_mp u, cg_mw u, cg_mu u, cg_mn u, cg_mi u, cg_mc u, cg_md u, cg_mo u, cg_ms u, cg_mq u, cg_se u, cg_sc u, (va_up (cg_re u) 4 ((cg_re u) 4 + 1))) from hq)
  exact z_iret eX3_letter_10 rfl rfl ⟨_, rfl, rfl, rfl⟩
set_option maxHeartbeats 1000000 in
set_option maxRecDepth 100000 in
theorem s3_letter_r {t : zMod} {u : zCls} {c : Int32} (hc0 : nI 0 ≤ c) (hc : nI 255 < c) : Mi mX3_letter 2 [.ref 11, .int (c)] (hA t u) (fun r h' => r = (-6) ∧ h' = hA t (cg_let u, cg_lc u, cg_rt u, cg_rl u, cg_ra u, cg_rf u, cg_rn u, cg_rc u, cg_now u, cg_dra u, cg_kep u, cg_im u, cg_mp u, cg_mw u, cg_mu u, cg_mn u, cg_mi u, cg_mc u, cg_md u, cg_mo u, cg_ms u, cg_mq u, cg_se u, cg_sc u, (va_up (cg_re u) 6 (cg_re u 6 + 1)))) := by
  refine Mi.of (by decide) rfl (Nat.le_of_ble_eq_true rfl) ?_
  refine r_iload_n eX3_letter_0 rfl rfl ?_
  refine r_if_ge eX3_letter_1 (fun hc1 => ?_) (fun hc1 => absurd hc1 (fun z => z hc0))
  refine r_iload_n eX3_letter_11 rfl rfl ?_
  refine n_sipush 255 eX3_letter_12 rfl ?_
  refine r_icmp_gt eX3_letter_15 (fun hc15 => ?_) (fun hc15 => absurd hc15 (fun z => z hc))
  refine r_aload_n eX3_letter_27 rfl rfl ?_
  refine r_bipush (v := (-6)) eX3_letter_28 rfl ?_
  refine r_callVi1 eX3_letter_30 lX3_46 (Or.inl ⟨_, _, _, rfl, rfl, rfl⟩) (s3_refuse (t := t) (u := u) (x := (-6)) (c := 6) (by decide) (by decide)) (by omega) (Nat.le_of_ble_eq_true rfl) (fun r1 h1 hq => ?_)
  obtain ⟨rfl, rfl⟩ := (show r1 = (-6) ∧ h1 = hA t (cg_let u, cg_lc u, cg_rt u, cg_rl u, cg_ra u, cg_rf u, cg_rn u, cg_rc u, cg_now u, cg_dra u, cg_kep u, cg_im u, cg_mp u, cg_mw u, cg_mu u, cg_mn u, cg_mi u, cg_mc u, cg_md u, cg_mo u, cg_ms u, cg_mq u, cg_se u, cg_sc u, (va_up (cg_re u) 6 ((cg_re u) 6 + 1))) from hq)
  exact z_iret eX3_letter_33 rfl rfl ⟨_, rfl, rfl, rfl⟩
set_option maxHeartbeats 1000000 in
set_option maxRecDepth 100000 in
theorem s3_letter_f {t : zMod} {u : zCls} {c : Nat} (hc : c ≤ 255) (ht : cg_lc u = 80) : Mi mX3_letter 2 [.ref 11, .int (nI (c))] (hA t u) (fun r h' => r = (-6) ∧ h' = hA t (cg_let u, cg_lc u, cg_rt u, cg_rl u, cg_ra u, cg_rf u, cg_rn u, cg_rc u, cg_now u, cg_dra u, cg_kep u, cg_im u, cg_mp u, cg_mw u, cg_mu u, cg_mn u, cg_mi u, cg_mc u, cg_md u, cg_mo u, cg_ms u, cg_mq u, cg_se u, cg_sc u, (va_up (cg_re u) 6 (cg_re u 6 + 1)))) := by
  refine Mi.of (by decide) rfl (Nat.le_of_ble_eq_true rfl) ?_
  refine r_iload_n eX3_letter_0 rfl rfl ?_
  refine n_if_ge eX3_letter_1 (by omega) ?_
  refine r_iload_n eX3_letter_11 rfl rfl ?_
  refine n_sipush 255 eX3_letter_12 rfl ?_
  refine n_icmp_gt eX3_letter_15 (by omega) (by omega) (fun hc15 => absurd hc15 (by omega)) (fun hc15 => ?_)
  refine r_aload_n eX3_letter_18 rfl rfl ?_
  refine r_getf (v := .int (nI (cg_lc u))) eX3_letter_19 fX3_50 rfl rfl ?_
  refine n_bipush 80 eX3_letter_22 rfl ?_
  refine n_icmp_lt eX3_letter_24 (by omega) (by omega) (fun hc24 => absurd hc24 (by omega)) (fun hc24 => ?_)
  refine r_aload_n eX3_letter_27 rfl rfl ?_
  refine r_bipush (v := (-6)) eX3_letter_28 rfl ?_
  refine r_callVi1 eX3_letter_30 lX3_46 (Or.inl ⟨_, _, _, rfl, rfl, rfl⟩) (s3_refuse (t := t) (u := u) (x := (-6)) (c := 6) (by decide) (by decide)) (by omega) (Nat.le_of_ble_eq_true rfl) (fun r1 h1 hq => ?_)
  obtain ⟨rfl, rfl⟩ := (show r1 = (-6) ∧ h1 = hA t (cg_let u, cg_lc u, cg_rt u, cg_rl u, cg_ra u, cg_rf u, cg_rn u, cg_rc u, cg_now u, cg_dra u, cg_kep u, cg_im u, cg_mp u, cg_mw u, cg_mu u, cg_mn u, cg_mi u, cg_mc u, cg_md u, cg_mo u, cg_ms u, cg_mq u, cg_se u, cg_sc u, (va_up (cg_re u) 6 ((cg_re u) 6 + 1))) from hq)
  exact z_iret eX3_letter_33 rfl rfl ⟨_, rfl, rfl, rfl⟩
set_option maxHeartbeats 1000000 in
set_option maxRecDepth 100000 in
theorem s3_letter_k {t : zMod} {u : zCls} {c : Nat} (hc : c ≤ 255) (ht : cg_lc u < 80) : Mi mX3_letter 2 [.ref 11, .int (nI (c))] (hA t u) (fun r h' => r = nI (cg_lc u + 1) ∧ h' = hA t ((va_up (cg_let u) (cg_lc u) c), (cg_lc u + 1), cg_rt u, cg_rl u, cg_ra u, cg_rf u, cg_rn u, cg_rc u, cg_now u, cg_dra u, cg_kep u, cg_im u, cg_mp u, cg_mw u, cg_mu u, cg_mn u, cg_mi u, cg_mc u, cg_md u, cg_mo u, cg_ms u, cg_mq u, cg_se u, cg_sc u, cg_re u)) := by
  refine Mi.of (by decide) rfl (Nat.le_of_ble_eq_true rfl) ?_
  refine r_iload_n eX3_letter_0 rfl rfl ?_
  refine n_if_ge eX3_letter_1 (by omega) ?_
  refine r_iload_n eX3_letter_11 rfl rfl ?_
  refine n_sipush 255 eX3_letter_12 rfl ?_
  refine n_icmp_gt eX3_letter_15 (by omega) (by omega) (fun hc15 => absurd hc15 (by omega)) (fun hc15 => ?_)
  refine r_aload_n eX3_letter_18 rfl rfl ?_
  refine r_getf (v := .int (nI (cg_lc u))) eX3_letter_19 fX3_50 rfl rfl ?_
  refine n_bipush 80 eX3_letter_22 rfl ?_
  refine n_icmp_lt eX3_letter_24 (by omega) (by omega) (fun hc24 => ?_) (fun hc24 => absurd hc24 (by omega))
  refine r_aload_n eX3_letter_34 rfl rfl ?_
  refine r_getf (v := .ref 12) eX3_letter_35 fX3_9 rfl rfl ?_
  refine r_aload_n eX3_letter_38 rfl rfl ?_
  refine r_getf (v := .int (nI (cg_lc u))) eX3_letter_39 fX3_50 rfl rfl ?_
  refine r_iload_n eX3_letter_42 rfl rfl ?_
  refine z_h (h' := hA t (cg_let u, cg_lc u, cg_rt u, cg_rl u, cg_ra u, cg_rf u, cg_rn u, cg_rc u, cg_now u, cg_dra u, cg_kep u, cg_im u, cg_mp u, cg_mw u, cg_mu u, cg_mn u, cg_mi u, cg_mc u, cg_md u, cg_mo u, cg_ms u, cg_mq u, cg_se u, cg_sc u, cg_re u)) rfl ?_
  refine cw_let (j := cg_lc u) (v := c) eX3_letter_43 rfl rfl (by omega) ?_
  refine r_aload_n eX3_letter_44 rfl rfl ?_
  refine r_dup eX3_letter_45 rfl ?_
  refine r_getf (v := .int (nI (cg_lc u))) eX3_letter_46 fX3_50 rfl rfl ?_
  refine n_iconst 1 eX3_letter_49 rfl ?_
  refine n_add eX3_letter_50 ?_
  refine cp_lc (v := (cg_lc u) + 1) eX3_letter_51 fX3_50 rfl ?_
  refine r_aload_n eX3_letter_54 rfl rfl ?_
  refine r_getf (v := .int (nI ((cg_lc u) + 1))) eX3_letter_55 fX3_50 rfl rfl ?_
  exact z_iret eX3_letter_58 rfl rfl ⟨_, rfl, rfl, rfl⟩
set_option maxHeartbeats 1000000 in
set_option maxRecDepth 100000 in
theorem s3_row_b {t : zMod} {u : zCls} {c : Int32} (hc : c < nI 0) : Mi mX3_row 2 [.ref 11, .int (c)] (hA t u) (fun r h' => r = (-4) ∧ h' = hA t (cg_let u, cg_lc u, cg_rt u, cg_rl u, cg_ra u, cg_rf u, cg_rn u, cg_rc u, cg_now u, cg_dra u, cg_kep u, cg_im u, cg_mp u, cg_mw u, cg_mu u, cg_mn u, cg_mi u, cg_mc u, cg_md u, cg_mo u, cg_ms u, cg_mq u, cg_se u, cg_sc u, (va_up (cg_re u) 4 (cg_re u 4 + 1)))) := by
  refine Mi.of (by decide) rfl (Nat.le_of_ble_eq_true rfl) ?_
  refine r_iload_n eX3_row_0 rfl rfl ?_
  refine r_if_ge eX3_row_1 (fun hc1 => absurd hc1 (Int32.not_le.mpr hc)) (fun hc1 => ?_)
  refine r_aload_n eX3_row_4 rfl rfl ?_
  refine r_bipush (v := (-4)) eX3_row_5 rfl ?_
  refine r_callVi1 eX3_row_7 lX3_46 (Or.inl ⟨_, _, _, rfl, rfl, rfl⟩) (s3_refuse (t := t) (u := u) (x := (-4)) (c := 4) (by decide) (by decide)) (by omega) (Nat.le_of_ble_eq_true rfl) (fun r1 h1 hq => ?_)
  obtain ⟨rfl, rfl⟩ := (show r1 = (-4) ∧ h1 = hA t (cg_let u, cg_lc u, cg_rt u, cg_rl u, cg_ra u, cg_rf u, cg_rn u, cg_rc u, cg_now u, cg_dra u, cg_kep u, cg_im u, cg_mp u, cg_mw u, cg_mu u, cg_mn u, cg_mi u, cg_mc u, cg_md u, cg_mo u, cg_ms u, cg_mq u, cg_se u, cg_sc u, (va_up (cg_re u) 4 ((cg_re u) 4 + 1))) from hq)
  exact z_iret eX3_row_10 rfl rfl ⟨_, rfl, rfl, rfl⟩
set_option maxHeartbeats 1000000 in
set_option maxRecDepth 100000 in
theorem s3_row_r {t : zMod} {u : zCls} {c : Int32} (hc0 : nI 0 ≤ c) (hc : nI 999 < c) : Mi mX3_row 2 [.ref 11, .int (c)] (hA t u) (fun r h' => r = (-6) ∧ h' = hA t (cg_let u, cg_lc u, cg_rt u, cg_rl u, cg_ra u, cg_rf u, cg_rn u, cg_rc u, cg_now u, cg_dra u, cg_kep u, cg_im u, cg_mp u, cg_mw u, cg_mu u, cg_mn u, cg_mi u, cg_mc u, cg_md u, cg_mo u, cg_ms u, cg_mq u, cg_se u, cg_sc u, (va_up (cg_re u) 6 (cg_re u 6 + 1)))) := by
  refine Mi.of (by decide) rfl (Nat.le_of_ble_eq_true rfl) ?_
  refine r_iload_n eX3_row_0 rfl rfl ?_
  refine r_if_ge eX3_row_1 (fun hc1 => ?_) (fun hc1 => absurd hc1 (fun z => z hc0))
  refine r_iload_n eX3_row_11 rfl rfl ?_
  refine n_sipush 999 eX3_row_12 rfl ?_
  refine r_icmp_gt eX3_row_15 (fun hc15 => ?_) (fun hc15 => absurd hc15 (fun z => z hc))
  refine r_aload_n eX3_row_27 rfl rfl ?_
  refine r_bipush (v := (-6)) eX3_row_28 rfl ?_
  refine r_callVi1 eX3_row_30 lX3_46 (Or.inl ⟨_, _, _, rfl, rfl, rfl⟩) (s3_refuse (t := t) (u := u) (x := (-6)) (c := 6) (by decide) (by decide)) (by omega) (Nat.le_of_ble_eq_true rfl) (fun r1 h1 hq => ?_)
  obtain ⟨rfl, rfl⟩ := (show r1 = (-6) ∧ h1 = hA t (cg_let u, cg_lc u, cg_rt u, cg_rl u, cg_ra u, cg_rf u, cg_rn u, cg_rc u, cg_now u, cg_dra u, cg_kep u, cg_im u, cg_mp u, cg_mw u, cg_mu u, cg_mn u, cg_mi u, cg_mc u, cg_md u, cg_mo u, cg_ms u, cg_mq u, cg_se u, cg_sc u, (va_up (cg_re u) 6 ((cg_re u) 6 + 1))) from hq)
  exact z_iret eX3_row_33 rfl rfl ⟨_, rfl, rfl, rfl⟩
set_option maxHeartbeats 1000000 in
set_option maxRecDepth 100000 in
theorem s3_row_f {t : zMod} {u : zCls} {c : Nat} (hc : c ≤ 999) (ht : cg_sc u = 7) : Mi mX3_row 2 [.ref 11, .int (nI (c))] (hA t u) (fun r h' => r = (-6) ∧ h' = hA t (cg_let u, cg_lc u, cg_rt u, cg_rl u, cg_ra u, cg_rf u, cg_rn u, cg_rc u, cg_now u, cg_dra u, cg_kep u, cg_im u, cg_mp u, cg_mw u, cg_mu u, cg_mn u, cg_mi u, cg_mc u, cg_md u, cg_mo u, cg_ms u, cg_mq u, cg_se u, cg_sc u, (va_up (cg_re u) 6 (cg_re u 6 + 1)))) := by
  refine Mi.of (by decide) rfl (Nat.le_of_ble_eq_true rfl) ?_
  refine r_iload_n eX3_row_0 rfl rfl ?_
  refine n_if_ge eX3_row_1 (by omega) ?_
  refine r_iload_n eX3_row_11 rfl rfl ?_
  refine n_sipush 999 eX3_row_12 rfl ?_
  refine n_icmp_gt eX3_row_15 (by omega) (by omega) (fun hc15 => absurd hc15 (by omega)) (fun hc15 => ?_)
  refine r_aload_n eX3_row_18 rfl rfl ?_
  refine r_getf (v := .int (nI (cg_sc u))) eX3_row_19 fX3_201 rfl rfl ?_
  refine n_bipush 7 eX3_row_22 rfl ?_
  refine n_icmp_lt eX3_row_24 (by omega) (by omega) (fun hc24 => absurd hc24 (by omega)) (fun hc24 => ?_)
  refine r_aload_n eX3_row_27 rfl rfl ?_
  refine r_bipush (v := (-6)) eX3_row_28 rfl ?_
  refine r_callVi1 eX3_row_30 lX3_46 (Or.inl ⟨_, _, _, rfl, rfl, rfl⟩) (s3_refuse (t := t) (u := u) (x := (-6)) (c := 6) (by decide) (by decide)) (by omega) (Nat.le_of_ble_eq_true rfl) (fun r1 h1 hq => ?_)
  obtain ⟨rfl, rfl⟩ := (show r1 = (-6) ∧ h1 = hA t (cg_let u, cg_lc u, cg_rt u, cg_rl u, cg_ra u, cg_rf u, cg_rn u, cg_rc u, cg_now u, cg_dra u, cg_kep u, cg_im u, cg_mp u, cg_mw u, cg_mu u, cg_mn u, cg_mi u, cg_mc u, cg_md u, cg_mo u, cg_ms u, cg_mq u, cg_se u, cg_sc u, (va_up (cg_re u) 6 ((cg_re u) 6 + 1))) from hq)
  exact z_iret eX3_row_33 rfl rfl ⟨_, rfl, rfl, rfl⟩
set_option maxHeartbeats 1000000 in
set_option maxRecDepth 100000 in
theorem s3_row_k {t : zMod} {u : zCls} {c : Nat} (hc : c ≤ 999) (ht : cg_sc u < 7) : Mi mX3_row 2 [.ref 11, .int (nI (c))] (hA t u) (fun r h' => r = nI (cg_sc u + 1) ∧ h' = hA t (cg_let u, cg_lc u, cg_rt u, cg_rl u, cg_ra u, cg_rf u, cg_rn u, cg_rc u, cg_now u, cg_dra u, cg_kep u, cg_im u, cg_mp u, cg_mw u, cg_mu u, cg_mn u, cg_mi u, cg_mc u, cg_md u, cg_mo u, cg_ms u, cg_mq u, (va_up (cg_se u) (cg_sc u) c), (cg_sc u + 1), cg_re u)) := by
  refine Mi.of (by decide) rfl (Nat.le_of_ble_eq_true rfl) ?_
  refine r_iload_n eX3_row_0 rfl rfl ?_
  refine n_if_ge eX3_row_1 (by omega) ?_
  refine r_iload_n eX3_row_11 rfl rfl ?_
  refine n_sipush 999 eX3_row_12 rfl ?_
  refine n_icmp_gt eX3_row_15 (by omega) (by omega) (fun hc15 => absurd hc15 (by omega)) (fun hc15 => ?_)
  refine r_aload_n eX3_row_18 rfl rfl ?_
  refine r_getf (v := .int (nI (cg_sc u))) eX3_row_19 fX3_201 rfl rfl ?_
  refine n_bipush 7 eX3_row_22 rfl ?_
  refine n_icmp_lt eX3_row_24 (by omega) (by omega) (fun hc24 => ?_) (fun hc24 => absurd hc24 (by omega))
  refine r_aload_n eX3_row_34 rfl rfl ?_
  refine r_getf (v := .ref 57) eX3_row_35 fX3_40 rfl rfl ?_
  refine r_aload_n eX3_row_38 rfl rfl ?_
  refine r_getf (v := .int (nI (cg_sc u))) eX3_row_39 fX3_201 rfl rfl ?_
  refine r_iload_n eX3_row_42 rfl rfl ?_
  refine z_h (h' := hA t (cg_let u, cg_lc u, cg_rt u, cg_rl u, cg_ra u, cg_rf u, cg_rn u, cg_rc u, cg_now u, cg_dra u, cg_kep u, cg_im u, cg_mp u, cg_mw u, cg_mu u, cg_mn u, cg_mi u, cg_mc u, cg_md u, cg_mo u, cg_ms u, cg_mq u, cg_se u, cg_sc u, cg_re u)) rfl ?_
  refine cw_se (j := cg_sc u) (v := c) eX3_row_43 rfl rfl (by omega) ?_
  refine r_aload_n eX3_row_44 rfl rfl ?_
  refine r_dup eX3_row_45 rfl ?_
  refine r_getf (v := .int (nI (cg_sc u))) eX3_row_46 fX3_201 rfl rfl ?_
  refine n_iconst 1 eX3_row_49 rfl ?_
  refine n_add eX3_row_50 ?_
  refine cp_sc (v := (cg_sc u) + 1) eX3_row_51 fX3_201 rfl ?_
  refine r_aload_n eX3_row_54 rfl rfl ?_
  refine r_getf (v := .int (nI ((cg_sc u) + 1))) eX3_row_55 fX3_201 rfl rfl ?_
  exact z_iret eX3_row_58 rfl rfl ⟨_, rfl, rfl, rfl⟩
set_option maxHeartbeats 1000000 in
set_option maxRecDepth 100000 in
theorem s3_person_n {t : zMod} {u : zCls} {v x : Int32} (hv : v < 0 ∨ nI (tg_people (cg_now u)) ≤ v) : Mi mX3_person 2 [.ref 11, .int (v), .int (x)] (hA t u) (fun r h' => r = (-1) ∧ h' = hA t (cg_let u, cg_lc u, cg_rt u, cg_rl u, cg_ra u, cg_rf u, cg_rn u, cg_rc u, cg_now u, cg_dra u, cg_kep u, cg_im u, cg_mp u, cg_mw u, cg_mu u, cg_mn u, cg_mi u, cg_mc u, cg_md u, cg_mo u, cg_ms u, cg_mq u, cg_se u, cg_sc u, (va_up (cg_re u) 1 (cg_re u 1 + 1)))) := by
  refine Mi.of (by decide) rfl (Nat.le_of_ble_eq_true rfl) ?_
  refine r_aload_n eX3_person_0 rfl rfl ?_
  refine r_getf (v := .ref 16) eX3_person_1 fX3_23 rfl rfl ?_
  refine r_iload_n eX3_person_4 rfl rfl ?_
  refine r_callVi1 eX3_person_5 lX3_62 (Or.inl ⟨_, _, _, rfl, rfl, rfl⟩) (s2_hasPerson_n_now (t := t) (u := u) hv) (by omega) (Nat.le_of_ble_eq_true rfl) (fun r1 h1 hq => ?_)
  obtain ⟨rfl, rfl⟩ := (show r1 = nI (0) ∧ h1 = hA t u from hq)
  refine n_if_ne eX3_person_8 (by first | omega | exact zlt (hs _) | exact hou _ | exact hop _) (fun hc8 => absurd hc8 (by decide)) (fun hc8 => ?_)
  refine r_aload_n eX3_person_11 rfl rfl ?_
  refine r_iconst (v := (-1)) eX3_person_12 rfl ?_
  refine r_callVi1 eX3_person_13 lX3_46 (Or.inl ⟨_, _, _, rfl, rfl, rfl⟩) (s3_refuse (t := t) (u := u) (x := (-1)) (c := 1) (by decide) (by decide)) (by omega) (Nat.le_of_ble_eq_true rfl) (fun r1 h1 hq => ?_)
  obtain ⟨rfl, rfl⟩ := (show r1 = (-1) ∧ h1 = hA t (cg_let u, cg_lc u, cg_rt u, cg_rl u, cg_ra u, cg_rf u, cg_rn u, cg_rc u, cg_now u, cg_dra u, cg_kep u, cg_im u, cg_mp u, cg_mw u, cg_mu u, cg_mn u, cg_mi u, cg_mc u, cg_md u, cg_mo u, cg_ms u, cg_mq u, cg_se u, cg_sc u, (va_up (cg_re u) 1 ((cg_re u) 1 + 1))) from hq)
  exact z_iret eX3_person_16 rfl rfl ⟨_, rfl, rfl, rfl⟩
set_option maxHeartbeats 1000000 in
set_option maxRecDepth 100000 in
theorem s3_person_0 {t : zMod} {u : zCls} (ho : tOk (cg_now u)) {v : Nat} (hv : v < tg_people (cg_now u)) : Mi mX3_person 2 [.ref 11, .int (nI (v)), .int (nI (0))] (hA t u) (fun r h' => r = nI (tg_kind (cg_now u) v) ∧ h' = hA t u) := by
  obtain ⟨hp7, hk12, hpc, hwt, hrg, hpp⟩ := id ho
  have hpw : 2 ^ tg_people (cg_now u) ≤ 2 ^ 7 := Nat.pow_le_pow_right (by omega) hp7
  refine Mi.of (by decide) rfl (Nat.le_of_ble_eq_true rfl) ?_
  refine r_aload_n eX3_person_0 rfl rfl ?_
  refine r_getf (v := .ref 16) eX3_person_1 fX3_23 rfl rfl ?_
  refine r_iload_n eX3_person_4 rfl rfl ?_
  refine r_callVi1 eX3_person_5 lX3_62 (Or.inl ⟨_, _, _, rfl, rfl, rfl⟩) (s2_hasPerson_y_now (t := t) (u := u) ho hv) (by omega) (Nat.le_of_ble_eq_true rfl) (fun r1 h1 hq => ?_)
  obtain ⟨rfl, rfl⟩ := (show r1 = nI (1) ∧ h1 = hA t u from hq)
  refine n_if_ne eX3_person_8 (by omega) (fun hc8 => ?_) (fun hc8 => absurd hc8 (by decide))
  refine r_iload_n eX3_person_17 rfl rfl ?_
  refine r_tabIn (off := 46) (tgt := 64) eX3_person_18 (by decide) (by decide) (by decide) (by decide) ?_
  refine r_aload_n eX3_person_64 rfl rfl ?_
  refine r_getf (v := .ref 16) eX3_person_65 fX3_23 rfl rfl ?_
  refine r_getf (v := .ref 17) eX3_person_68 fX3_66 rfl rfl ?_
  refine r_iload_n eX3_person_71 rfl rfl ?_
  refine n_iald (f := tg_kind (cg_now u)) (j := v) eX3_person_72 rfl rfl (by omega) (by decide) ?_
  exact z_iret eX3_person_73 rfl rfl ⟨_, rfl, rfl, rfl⟩
set_option maxHeartbeats 1000000 in
set_option maxRecDepth 100000 in
theorem s3_person_1 {t : zMod} {u : zCls} (ho : tOk (cg_now u)) {v : Nat} (hv : v < tg_people (cg_now u)) : Mi mX3_person 2 [.ref 11, .int (nI (v)), .int (nI (1))] (hA t u) (fun r h' => r = nI (tg_wakes (cg_now u) v) ∧ h' = hA t u) := by
  obtain ⟨hp7, hk12, hpc, hwt, hrg, hpp⟩ := id ho
  have hpw : 2 ^ tg_people (cg_now u) ≤ 2 ^ 7 := Nat.pow_le_pow_right (by omega) hp7
  refine Mi.of (by decide) rfl (Nat.le_of_ble_eq_true rfl) ?_
  refine r_aload_n eX3_person_0 rfl rfl ?_
  refine r_getf (v := .ref 16) eX3_person_1 fX3_23 rfl rfl ?_
  refine r_iload_n eX3_person_4 rfl rfl ?_
  refine r_callVi1 eX3_person_5 lX3_62 (Or.inl ⟨_, _, _, rfl, rfl, rfl⟩) (s2_hasPerson_y_now (t := t) (u := u) ho hv) (by omega) (Nat.le_of_ble_eq_true rfl) (fun r1 h1 hq => ?_)
  obtain ⟨rfl, rfl⟩ := (show r1 = nI (1) ∧ h1 = hA t u from hq)
  refine n_if_ne eX3_person_8 (by omega) (fun hc8 => ?_) (fun hc8 => absurd hc8 (by decide))
  refine r_iload_n eX3_person_17 rfl rfl ?_
  refine r_tabIn (off := 56) (tgt := 74) eX3_person_18 (by decide) (by decide) (by decide) (by decide) ?_
  refine r_aload_n eX3_person_74 rfl rfl ?_
  refine r_getf (v := .ref 16) eX3_person_75 fX3_23 rfl rfl ?_
  refine r_getf (v := .ref 18) eX3_person_78 fX3_69 rfl rfl ?_
  refine r_iload_n eX3_person_81 rfl rfl ?_
  refine n_iald (f := tg_wakes (cg_now u)) (j := v) eX3_person_82 rfl rfl (by omega) (by decide) ?_
  exact z_iret eX3_person_83 rfl rfl ⟨_, rfl, rfl, rfl⟩
set_option maxHeartbeats 1000000 in
set_option maxRecDepth 100000 in
theorem s3_person_2 {t : zMod} {u : zCls} (ho : tOk (cg_now u)) {v : Nat} (hv : v < tg_people (cg_now u)) : Mi mX3_person 2 [.ref 11, .int (nI (v)), .int (nI (2))] (hA t u) (fun r h' => r = nI (tg_takes (cg_now u) v) ∧ h' = hA t u) := by
  obtain ⟨hp7, hk12, hpc, hwt, hrg, hpp⟩ := id ho
  have hpw : 2 ^ tg_people (cg_now u) ≤ 2 ^ 7 := Nat.pow_le_pow_right (by omega) hp7
  refine Mi.of (by decide) rfl (Nat.le_of_ble_eq_true rfl) ?_
  refine r_aload_n eX3_person_0 rfl rfl ?_
  refine r_getf (v := .ref 16) eX3_person_1 fX3_23 rfl rfl ?_
  refine r_iload_n eX3_person_4 rfl rfl ?_
  refine r_callVi1 eX3_person_5 lX3_62 (Or.inl ⟨_, _, _, rfl, rfl, rfl⟩) (s2_hasPerson_y_now (t := t) (u := u) ho hv) (by omega) (Nat.le_of_ble_eq_true rfl) (fun r1 h1 hq => ?_)
  obtain ⟨rfl, rfl⟩ := (show r1 = nI (1) ∧ h1 = hA t u from hq)
  refine n_if_ne eX3_person_8 (by omega) (fun hc8 => ?_) (fun hc8 => absurd hc8 (by decide))
  refine r_iload_n eX3_person_17 rfl rfl ?_
  refine r_tabIn (off := 66) (tgt := 84) eX3_person_18 (by decide) (by decide) (by decide) (by decide) ?_
  refine r_aload_n eX3_person_84 rfl rfl ?_
  refine r_getf (v := .ref 16) eX3_person_85 fX3_23 rfl rfl ?_
  refine r_getf (v := .ref 19) eX3_person_88 fX3_72 rfl rfl ?_
  refine r_iload_n eX3_person_91 rfl rfl ?_
  refine n_iald (f := tg_takes (cg_now u)) (j := v) eX3_person_92 rfl rfl (by omega) (by decide) ?_
  exact z_iret eX3_person_93 rfl rfl ⟨_, rfl, rfl, rfl⟩
set_option maxHeartbeats 1000000 in
set_option maxRecDepth 100000 in
theorem s3_person_3 {t : zMod} {u : zCls} (ho : tOk (cg_now u)) {v : Nat} (hv : v < tg_people (cg_now u)) : Mi mX3_person 2 [.ref 11, .int (nI (v)), .int (nI (3))] (hA t u) (fun r h' => r = nI (tg_due (cg_now u) v) ∧ h' = hA t u) := by
  obtain ⟨hp7, hk12, hpc, hwt, hrg, hpp⟩ := id ho
  have hpw : 2 ^ tg_people (cg_now u) ≤ 2 ^ 7 := Nat.pow_le_pow_right (by omega) hp7
  refine Mi.of (by decide) rfl (Nat.le_of_ble_eq_true rfl) ?_
  refine r_aload_n eX3_person_0 rfl rfl ?_
  refine r_getf (v := .ref 16) eX3_person_1 fX3_23 rfl rfl ?_
  refine r_iload_n eX3_person_4 rfl rfl ?_
  refine r_callVi1 eX3_person_5 lX3_62 (Or.inl ⟨_, _, _, rfl, rfl, rfl⟩) (s2_hasPerson_y_now (t := t) (u := u) ho hv) (by omega) (Nat.le_of_ble_eq_true rfl) (fun r1 h1 hq => ?_)
  obtain ⟨rfl, rfl⟩ := (show r1 = nI (1) ∧ h1 = hA t u from hq)
  refine n_if_ne eX3_person_8 (by omega) (fun hc8 => ?_) (fun hc8 => absurd hc8 (by decide))
  refine r_iload_n eX3_person_17 rfl rfl ?_
  refine r_tabIn (off := 76) (tgt := 94) eX3_person_18 (by decide) (by decide) (by decide) (by decide) ?_
  refine r_aload_n eX3_person_94 rfl rfl ?_
  refine r_getf (v := .ref 16) eX3_person_95 fX3_23 rfl rfl ?_
  refine r_getf (v := .ref 20) eX3_person_98 fX3_75 rfl rfl ?_
  refine r_iload_n eX3_person_101 rfl rfl ?_
  refine n_iald (f := tg_due (cg_now u)) (j := v) eX3_person_102 rfl rfl (by omega) (by decide) ?_
  exact z_iret eX3_person_103 rfl rfl ⟨_, rfl, rfl, rfl⟩
set_option maxHeartbeats 1000000 in
set_option maxRecDepth 100000 in
theorem s3_person_4 {t : zMod} {u : zCls} (ho : tOk (cg_now u)) {v : Nat} (hv : v < tg_people (cg_now u)) : Mi mX3_person 2 [.ref 11, .int (nI (v)), .int (nI (4))] (hA t u) (fun r h' => r = nI (tg_cost (cg_now u) v) ∧ h' = hA t u) := by
  obtain ⟨hp7, hk12, hpc, hwt, hrg, hpp⟩ := id ho
  have hpw : 2 ^ tg_people (cg_now u) ≤ 2 ^ 7 := Nat.pow_le_pow_right (by omega) hp7
  refine Mi.of (by decide) rfl (Nat.le_of_ble_eq_true rfl) ?_
  refine r_aload_n eX3_person_0 rfl rfl ?_
  refine r_getf (v := .ref 16) eX3_person_1 fX3_23 rfl rfl ?_
  refine r_iload_n eX3_person_4 rfl rfl ?_
  refine r_callVi1 eX3_person_5 lX3_62 (Or.inl ⟨_, _, _, rfl, rfl, rfl⟩) (s2_hasPerson_y_now (t := t) (u := u) ho hv) (by omega) (Nat.le_of_ble_eq_true rfl) (fun r1 h1 hq => ?_)
  obtain ⟨rfl, rfl⟩ := (show r1 = nI (1) ∧ h1 = hA t u from hq)
  refine n_if_ne eX3_person_8 (by omega) (fun hc8 => ?_) (fun hc8 => absurd hc8 (by decide))
  refine r_iload_n eX3_person_17 rfl rfl ?_
  refine r_tabIn (off := 86) (tgt := 104) eX3_person_18 (by decide) (by decide) (by decide) (by decide) ?_
  refine r_aload_n eX3_person_104 rfl rfl ?_
  refine r_getf (v := .ref 16) eX3_person_105 fX3_23 rfl rfl ?_
  refine r_getf (v := .ref 21) eX3_person_108 fX3_78 rfl rfl ?_
  refine r_iload_n eX3_person_111 rfl rfl ?_
  refine n_iald (f := tg_cost (cg_now u)) (j := v) eX3_person_112 rfl rfl (by omega) (by decide) ?_
  exact z_iret eX3_person_113 rfl rfl ⟨_, rfl, rfl, rfl⟩
set_option maxHeartbeats 1000000 in
set_option maxRecDepth 100000 in
theorem s3_person_5 {t : zMod} {u : zCls} (ho : tOk (cg_now u)) {v : Nat} (hv : v < tg_people (cg_now u)) : Mi mX3_person 2 [.ref 11, .int (nI (v)), .int (nI (5))] (hA t u) (fun r h' => r = nI (tUp (cg_now u) v) ∧ h' = hA t u) := by
  obtain ⟨hp7, hk12, hpc, hwt, hrg, hpp⟩ := id ho
  have hpw : 2 ^ tg_people (cg_now u) ≤ 2 ^ 7 := Nat.pow_le_pow_right (by omega) hp7
  refine Mi.of (by decide) rfl (Nat.le_of_ble_eq_true rfl) ?_
  refine r_aload_n eX3_person_0 rfl rfl ?_
  refine r_getf (v := .ref 16) eX3_person_1 fX3_23 rfl rfl ?_
  refine r_iload_n eX3_person_4 rfl rfl ?_
  refine r_callVi1 eX3_person_5 lX3_62 (Or.inl ⟨_, _, _, rfl, rfl, rfl⟩) (s2_hasPerson_y_now (t := t) (u := u) ho hv) (by omega) (Nat.le_of_ble_eq_true rfl) (fun r1 h1 hq => ?_)
  obtain ⟨rfl, rfl⟩ := (show r1 = nI (1) ∧ h1 = hA t u from hq)
  refine n_if_ne eX3_person_8 (by omega) (fun hc8 => ?_) (fun hc8 => absurd hc8 (by decide))
  refine r_iload_n eX3_person_17 rfl rfl ?_
  refine r_tabIn (off := 96) (tgt := 114) eX3_person_18 (by decide) (by decide) (by decide) (by decide) ?_
  refine r_aload_n eX3_person_114 rfl rfl ?_
  refine r_getf (v := .ref 16) eX3_person_115 fX3_23 rfl rfl ?_
  refine r_iload_n eX3_person_118 rfl rfl ?_
  refine r_callVi1 eX3_person_119 lX3_81 (Or.inl ⟨_, _, _, rfl, rfl, rfl⟩) (s2_upOf_now (t := t) (u := u) ho hv) (by omega) (Nat.le_of_ble_eq_true rfl) (fun r1 h1 hq => ?_)
  obtain ⟨rfl, rfl⟩ := (show r1 = nI (tUp (cg_now u) v) ∧ h1 = hA t u from hq)
  exact z_iret eX3_person_122 rfl rfl ⟨_, rfl, rfl, rfl⟩
set_option maxHeartbeats 1000000 in
set_option maxRecDepth 100000 in
theorem s3_person_6 {t : zMod} {u : zCls} (ho : tOk (cg_now u)) {v : Nat} (hv : v < tg_people (cg_now u)) : Mi mX3_person 2 [.ref 11, .int (nI (v)), .int (nI (6))] (hA t u) (fun r h' => r = nI (tNd (cg_now u) v) ∧ h' = hA t u) := by
  obtain ⟨hp7, hk12, hpc, hwt, hrg, hpp⟩ := id ho
  have hpw : 2 ^ tg_people (cg_now u) ≤ 2 ^ 7 := Nat.pow_le_pow_right (by omega) hp7
  refine Mi.of (by decide) rfl (Nat.le_of_ble_eq_true rfl) ?_
  refine r_aload_n eX3_person_0 rfl rfl ?_
  refine r_getf (v := .ref 16) eX3_person_1 fX3_23 rfl rfl ?_
  refine r_iload_n eX3_person_4 rfl rfl ?_
  refine r_callVi1 eX3_person_5 lX3_62 (Or.inl ⟨_, _, _, rfl, rfl, rfl⟩) (s2_hasPerson_y_now (t := t) (u := u) ho hv) (by omega) (Nat.le_of_ble_eq_true rfl) (fun r1 h1 hq => ?_)
  obtain ⟨rfl, rfl⟩ := (show r1 = nI (1) ∧ h1 = hA t u from hq)
  refine n_if_ne eX3_person_8 (by omega) (fun hc8 => ?_) (fun hc8 => absurd hc8 (by decide))
  refine r_iload_n eX3_person_17 rfl rfl ?_
  refine r_tabIn (off := 105) (tgt := 123) eX3_person_18 (by decide) (by decide) (by decide) (by decide) ?_
  refine r_aload_n eX3_person_123 rfl rfl ?_
  refine r_getf (v := .ref 16) eX3_person_124 fX3_23 rfl rfl ?_
  refine r_iload_n eX3_person_127 rfl rfl ?_
  refine r_callVi1 eX3_person_128 lX3_84 (Or.inl ⟨_, _, _, rfl, rfl, rfl⟩) (s2_needOf_now (t := t) (u := u) ho hv) (by omega) (Nat.le_of_ble_eq_true rfl) (fun r1 h1 hq => ?_)
  obtain ⟨rfl, rfl⟩ := (show r1 = nI (tNd (cg_now u) v) ∧ h1 = hA t u from hq)
  exact z_iret eX3_person_131 rfl rfl ⟨_, rfl, rfl, rfl⟩
set_option maxHeartbeats 1000000 in
set_option maxRecDepth 100000 in
theorem s3_person_7 {t : zMod} {u : zCls} (ho : tOk (cg_now u)) {v : Nat} (hv : v < tg_people (cg_now u)) : Mi mX3_person 2 [.ref 11, .int (nI (v)), .int (nI (7))] (hA t u) (fun r h' => r = nI (tg_watch (cg_now u) / 2 ^ v &&& 1) ∧ h' = hA t u) := by
  obtain ⟨hp7, hk12, hpc, hwt, hrg, hpp⟩ := id ho
  have hpw : 2 ^ tg_people (cg_now u) ≤ 2 ^ 7 := Nat.pow_le_pow_right (by omega) hp7
  refine Mi.of (by decide) rfl (Nat.le_of_ble_eq_true rfl) ?_
  refine r_aload_n eX3_person_0 rfl rfl ?_
  refine r_getf (v := .ref 16) eX3_person_1 fX3_23 rfl rfl ?_
  refine r_iload_n eX3_person_4 rfl rfl ?_
  refine r_callVi1 eX3_person_5 lX3_62 (Or.inl ⟨_, _, _, rfl, rfl, rfl⟩) (s2_hasPerson_y_now (t := t) (u := u) ho hv) (by omega) (Nat.le_of_ble_eq_true rfl) (fun r1 h1 hq => ?_)
  obtain ⟨rfl, rfl⟩ := (show r1 = nI (1) ∧ h1 = hA t u from hq)
  refine n_if_ne eX3_person_8 (by omega) (fun hc8 => ?_) (fun hc8 => absurd hc8 (by decide))
  refine r_iload_n eX3_person_17 rfl rfl ?_
  refine r_tabIn (off := 114) (tgt := 132) eX3_person_18 (by decide) (by decide) (by decide) (by decide) ?_
  refine r_aload_n eX3_person_132 rfl rfl ?_
  refine r_getf (v := .ref 16) eX3_person_133 fX3_23 rfl rfl ?_
  refine r_getf (v := .int (nI (tg_watch (cg_now u)))) eX3_person_136 fX3_87 rfl rfl ?_
  refine r_iload_n eX3_person_139 rfl rfl ?_
  refine n_shr eX3_person_140 (by omega) (by omega) ?_
  refine n_iconst 1 eX3_person_141 rfl ?_
  refine n_and eX3_person_142 ?_
  exact z_iret eX3_person_143 rfl rfl ⟨_, rfl, rfl, rfl⟩
set_option maxHeartbeats 1000000 in
set_option maxRecDepth 100000 in
theorem s3_person_o {t : zMod} {u : zCls} (ho : tOk (cg_now u)) {v : Nat} (hv : v < tg_people (cg_now u)) {x : Int32} (hx : x.toInt < 0 ∨ 7 < x.toInt) : Mi mX3_person 2 [.ref 11, .int (nI (v)), .int (x)] (hA t u) (fun r h' => r = (-2) ∧ h' = hA t (cg_let u, cg_lc u, cg_rt u, cg_rl u, cg_ra u, cg_rf u, cg_rn u, cg_rc u, cg_now u, cg_dra u, cg_kep u, cg_im u, cg_mp u, cg_mw u, cg_mu u, cg_mn u, cg_mi u, cg_mc u, cg_md u, cg_mo u, cg_ms u, cg_mq u, cg_se u, cg_sc u, (va_up (cg_re u) 2 (cg_re u 2 + 1)))) := by
  obtain ⟨hp7, hk12, hpc, hwt, hrg, hpp⟩ := id ho
  have hpw : 2 ^ tg_people (cg_now u) ≤ 2 ^ 7 := Nat.pow_le_pow_right (by omega) hp7
  refine Mi.of (by decide) rfl (Nat.le_of_ble_eq_true rfl) ?_
  refine r_aload_n eX3_person_0 rfl rfl ?_
  refine r_getf (v := .ref 16) eX3_person_1 fX3_23 rfl rfl ?_
  refine r_iload_n eX3_person_4 rfl rfl ?_
  refine r_callVi1 eX3_person_5 lX3_62 (Or.inl ⟨_, _, _, rfl, rfl, rfl⟩) (s2_hasPerson_y_now (t := t) (u := u) ho hv) (by omega) (Nat.le_of_ble_eq_true rfl) (fun r1 h1 hq => ?_)
  obtain ⟨rfl, rfl⟩ := (show r1 = nI (1) ∧ h1 = hA t u from hq)
  refine n_if_ne eX3_person_8 (by omega) (fun hc8 => ?_) (fun hc8 => absurd hc8 (by decide))
  refine r_iload_n eX3_person_17 rfl rfl ?_
  refine r_tabOut (tgt := 144) eX3_person_18 hx (by decide) ?_
  refine r_aload_n eX3_person_144 rfl rfl ?_
  refine r_bipush (v := (-2)) eX3_person_145 rfl ?_
  refine r_callVi1 eX3_person_147 lX3_46 (Or.inl ⟨_, _, _, rfl, rfl, rfl⟩) (s3_refuse (t := t) (u := u) (x := (-2)) (c := 2) (by decide) (by decide)) (by omega) (Nat.le_of_ble_eq_true rfl) (fun r1 h1 hq => ?_)
  obtain ⟨rfl, rfl⟩ := (show r1 = (-2) ∧ h1 = hA t (cg_let u, cg_lc u, cg_rt u, cg_rl u, cg_ra u, cg_rf u, cg_rn u, cg_rc u, cg_now u, cg_dra u, cg_kep u, cg_im u, cg_mp u, cg_mw u, cg_mu u, cg_mn u, cg_mi u, cg_mc u, cg_md u, cg_mo u, cg_ms u, cg_mq u, cg_se u, cg_sc u, (va_up (cg_re u) 2 ((cg_re u) 2 + 1))) from hq)
  exact z_iret eX3_person_150 rfl rfl ⟨_, rfl, rfl, rfl⟩
set_option maxHeartbeats 1000000 in
set_option maxRecDepth 100000 in
theorem s3_key_n {t : zMod} {u : zCls} {v x : Int32} (hv : v < 0 ∨ nI (tg_keys (cg_now u)) ≤ v) : Mi mX3_key 2 [.ref 11, .int (v), .int (x)] (hA t u) (fun r h' => r = (-1) ∧ h' = hA t (cg_let u, cg_lc u, cg_rt u, cg_rl u, cg_ra u, cg_rf u, cg_rn u, cg_rc u, cg_now u, cg_dra u, cg_kep u, cg_im u, cg_mp u, cg_mw u, cg_mu u, cg_mn u, cg_mi u, cg_mc u, cg_md u, cg_mo u, cg_ms u, cg_mq u, cg_se u, cg_sc u, (va_up (cg_re u) 1 (cg_re u 1 + 1)))) := by
  refine Mi.of (by decide) rfl (Nat.le_of_ble_eq_true rfl) ?_
  refine r_aload_n eX3_key_0 rfl rfl ?_
  refine r_getf (v := .ref 16) eX3_key_1 fX3_23 rfl rfl ?_
  refine r_iload_n eX3_key_4 rfl rfl ?_
  refine r_callVi1 eX3_key_5 lX3_90 (Or.inl ⟨_, _, _, rfl, rfl, rfl⟩) (s2_hasKey_n_now (t := t) (u := u) hv) (by omega) (Nat.le_of_ble_eq_true rfl) (fun r1 h1 hq => ?_)
  obtain ⟨rfl, rfl⟩ := (show r1 = nI (0) ∧ h1 = hA t u from hq)
  refine n_if_ne eX3_key_8 (by first | omega | exact zlt (hs _) | exact hou _ | exact hop _) (fun hc8 => absurd hc8 (by decide)) (fun hc8 => ?_)
  refine r_aload_n eX3_key_11 rfl rfl ?_
  refine r_iconst (v := (-1)) eX3_key_12 rfl ?_
  refine r_callVi1 eX3_key_13 lX3_46 (Or.inl ⟨_, _, _, rfl, rfl, rfl⟩) (s3_refuse (t := t) (u := u) (x := (-1)) (c := 1) (by decide) (by decide)) (by omega) (Nat.le_of_ble_eq_true rfl) (fun r1 h1 hq => ?_)
  obtain ⟨rfl, rfl⟩ := (show r1 = (-1) ∧ h1 = hA t (cg_let u, cg_lc u, cg_rt u, cg_rl u, cg_ra u, cg_rf u, cg_rn u, cg_rc u, cg_now u, cg_dra u, cg_kep u, cg_im u, cg_mp u, cg_mw u, cg_mu u, cg_mn u, cg_mi u, cg_mc u, cg_md u, cg_mo u, cg_ms u, cg_mq u, cg_se u, cg_sc u, (va_up (cg_re u) 1 ((cg_re u) 1 + 1))) from hq)
  exact z_iret eX3_key_16 rfl rfl ⟨_, rfl, rfl, rfl⟩
set_option maxHeartbeats 1000000 in
set_option maxRecDepth 100000 in
theorem s3_key_0 {t : zMod} {u : zCls} (ho : tOk (cg_now u)) (hk10 : tg_keys (cg_now u) ≤ 10) {v : Nat} (hv : v < tg_keys (cg_now u)) : Mi mX3_key 2 [.ref 11, .int (nI (v)), .int (nI (0))] (hA t u) (fun r h' => r = nI (tg_door (cg_now u) v) ∧ h' = hA t u) := by
  obtain ⟨hp7, hk12, hpc, hwt, hrg, hpp⟩ := id ho
  have hpw : 2 ^ tg_people (cg_now u) ≤ 2 ^ 7 := Nat.pow_le_pow_right (by omega) hp7
  refine Mi.of (by decide) rfl (Nat.le_of_ble_eq_true rfl) ?_
  refine r_aload_n eX3_key_0 rfl rfl ?_
  refine r_getf (v := .ref 16) eX3_key_1 fX3_23 rfl rfl ?_
  refine r_iload_n eX3_key_4 rfl rfl ?_
  refine r_callVi1 eX3_key_5 lX3_90 (Or.inl ⟨_, _, _, rfl, rfl, rfl⟩) (s2_hasKey_y_now (t := t) (u := u) ho hv) (by omega) (Nat.le_of_ble_eq_true rfl) (fun r1 h1 hq => ?_)
  obtain ⟨rfl, rfl⟩ := (show r1 = nI (1) ∧ h1 = hA t u from hq)
  refine n_if_ne eX3_key_8 (by omega) (fun hc8 => ?_) (fun hc8 => absurd hc8 (by decide))
  refine r_iload_n eX3_key_17 rfl rfl ?_
  refine r_look (off := 26) (tgt := 44) eX3_key_18 (by decide) (by decide +kernel) (by decide) ?_
  refine r_aload_n eX3_key_44 rfl rfl ?_
  refine r_getf (v := .ref 16) eX3_key_45 fX3_23 rfl rfl ?_
  refine r_getf (v := .ref 22) eX3_key_48 fX3_93 rfl rfl ?_
  refine r_iload_n eX3_key_51 rfl rfl ?_
  refine n_iald (f := tg_door (cg_now u)) (j := v) eX3_key_52 rfl rfl (by omega) (by decide) ?_
  exact z_iret eX3_key_53 rfl rfl ⟨_, rfl, rfl, rfl⟩
set_option maxHeartbeats 1000000 in
set_option maxRecDepth 100000 in
theorem s3_key_1 {t : zMod} {u : zCls} (ho : tOk (cg_now u)) (hk10 : tg_keys (cg_now u) ≤ 10) {v : Nat} (hv : v < tg_keys (cg_now u)) : Mi mX3_key 2 [.ref 11, .int (nI (v)), .int (nI (1))] (hA t u) (fun r h' => r = nI (tg_held (cg_now u) v) ∧ h' = hA t u) := by
  obtain ⟨hp7, hk12, hpc, hwt, hrg, hpp⟩ := id ho
  have hpw : 2 ^ tg_people (cg_now u) ≤ 2 ^ 7 := Nat.pow_le_pow_right (by omega) hp7
  refine Mi.of (by decide) rfl (Nat.le_of_ble_eq_true rfl) ?_
  refine r_aload_n eX3_key_0 rfl rfl ?_
  refine r_getf (v := .ref 16) eX3_key_1 fX3_23 rfl rfl ?_
  refine r_iload_n eX3_key_4 rfl rfl ?_
  refine r_callVi1 eX3_key_5 lX3_90 (Or.inl ⟨_, _, _, rfl, rfl, rfl⟩) (s2_hasKey_y_now (t := t) (u := u) ho hv) (by omega) (Nat.le_of_ble_eq_true rfl) (fun r1 h1 hq => ?_)
  obtain ⟨rfl, rfl⟩ := (show r1 = nI (1) ∧ h1 = hA t u from hq)
  refine n_if_ne eX3_key_8 (by omega) (fun hc8 => ?_) (fun hc8 => absurd hc8 (by decide))
  refine r_iload_n eX3_key_17 rfl rfl ?_
  refine r_look (off := 36) (tgt := 54) eX3_key_18 (by decide) (by decide +kernel) (by decide) ?_
  refine r_aload_n eX3_key_54 rfl rfl ?_
  refine r_getf (v := .ref 16) eX3_key_55 fX3_23 rfl rfl ?_
  refine r_getf (v := .ref 23) eX3_key_58 fX3_96 rfl rfl ?_
  refine r_iload_n eX3_key_61 rfl rfl ?_
  refine n_iald (f := tg_held (cg_now u)) (j := v) eX3_key_62 rfl rfl (by omega) (by decide) ?_
  exact z_iret eX3_key_63 rfl rfl ⟨_, rfl, rfl, rfl⟩
set_option maxHeartbeats 1000000 in
set_option maxRecDepth 100000 in
theorem s3_key_o {t : zMod} {u : zCls} (ho : tOk (cg_now u)) (hk10 : tg_keys (cg_now u) ≤ 10) {v : Nat} (hv : v < tg_keys (cg_now u)) {x : Int32} (hx : x < 0 ∨ nI 2 ≤ x) : Mi mX3_key 2 [.ref 11, .int (nI (v)), .int (x)] (hA t u) (fun r h' => r = (-2) ∧ h' = hA t (cg_let u, cg_lc u, cg_rt u, cg_rl u, cg_ra u, cg_rf u, cg_rn u, cg_rc u, cg_now u, cg_dra u, cg_kep u, cg_im u, cg_mp u, cg_mw u, cg_mu u, cg_mn u, cg_mi u, cg_mc u, cg_md u, cg_mo u, cg_ms u, cg_mq u, cg_se u, cg_sc u, (va_up (cg_re u) 2 (cg_re u 2 + 1)))) := by
  obtain ⟨hp7, hk12, hpc, hwt, hrg, hpp⟩ := id ho
  have hpw : 2 ^ tg_people (cg_now u) ≤ 2 ^ 7 := Nat.pow_le_pow_right (by omega) hp7
  have hx0 : ¬ x = 0 := zne_of (k := 0) hx (by omega) (by omega)
  have hx1 : ¬ x = 1 := zne_of (k := 1) hx (by omega) (by omega)
  refine Mi.of (by decide) rfl (Nat.le_of_ble_eq_true rfl) ?_
  refine r_aload_n eX3_key_0 rfl rfl ?_
  refine r_getf (v := .ref 16) eX3_key_1 fX3_23 rfl rfl ?_
  refine r_iload_n eX3_key_4 rfl rfl ?_
  refine r_callVi1 eX3_key_5 lX3_90 (Or.inl ⟨_, _, _, rfl, rfl, rfl⟩) (s2_hasKey_y_now (t := t) (u := u) ho hv) (by omega) (Nat.le_of_ble_eq_true rfl) (fun r1 h1 hq => ?_)
  obtain ⟨rfl, rfl⟩ := (show r1 = nI (1) ∧ h1 = hA t u from hq)
  refine n_if_ne eX3_key_8 (by omega) (fun hc8 => ?_) (fun hc8 => absurd hc8 (by decide))
  refine r_iload_n eX3_key_17 rfl rfl ?_
  refine r_look (off := 46) (tgt := 64) eX3_key_18 (by decide) (show Op.lookupswitch.offset [(0, 26), (1, 36)] 46 x.toInt = 46 from (lv_osw (k := 0) hx0 (by decide)).trans ((lv_osw (k := 1) hx1 (by decide)).trans rfl)) (by decide) ?_
  refine r_aload_n eX3_key_64 rfl rfl ?_
  refine r_bipush (v := (-2)) eX3_key_65 rfl ?_
  refine r_callVi1 eX3_key_67 lX3_46 (Or.inl ⟨_, _, _, rfl, rfl, rfl⟩) (s3_refuse (t := t) (u := u) (x := (-2)) (c := 2) (by decide) (by decide)) (by omega) (Nat.le_of_ble_eq_true rfl) (fun r1 h1 hq => ?_)
  obtain ⟨rfl, rfl⟩ := (show r1 = (-2) ∧ h1 = hA t (cg_let u, cg_lc u, cg_rt u, cg_rl u, cg_ra u, cg_rf u, cg_rn u, cg_rc u, cg_now u, cg_dra u, cg_kep u, cg_im u, cg_mp u, cg_mw u, cg_mu u, cg_mn u, cg_mi u, cg_mc u, cg_md u, cg_mo u, cg_ms u, cg_mq u, cg_se u, cg_sc u, (va_up (cg_re u) 2 ((cg_re u) 2 + 1))) from hq)
  exact z_iret eX3_key_70 rfl rfl ⟨_, rfl, rfl, rfl⟩
set_option maxHeartbeats 1000000 in
set_option maxRecDepth 100000 in
theorem s3_give_n1 {t : zMod} {u : zCls} {v x : Int32} (hv : v < 0 ∨ nI (tg_keys (cg_now u)) ≤ v) : Mi mX3_give 2 [.ref 11, .int (v), .int (x)] (hA t u) (fun r h' => r = (-1) ∧ h' = hA t (cg_let u, cg_lc u, cg_rt u, cg_rl u, cg_ra u, cg_rf u, cg_rn u, cg_rc u, cg_now u, cg_dra u, cg_kep u, cg_im u, cg_mp u, cg_mw u, cg_mu u, cg_mn u, cg_mi u, cg_mc u, cg_md u, cg_mo u, cg_ms u, cg_mq u, cg_se u, cg_sc u, (va_up (cg_re u) 1 (cg_re u 1 + 1)))) := by
  refine Mi.of (by decide) rfl (Nat.le_of_ble_eq_true rfl) ?_
  refine r_aload_n eX3_give_0 rfl rfl ?_
  refine r_getf (v := .ref 16) eX3_give_1 fX3_23 rfl rfl ?_
  refine r_iload_n eX3_give_4 rfl rfl ?_
  refine r_callVi1 eX3_give_5 lX3_90 (Or.inl ⟨_, _, _, rfl, rfl, rfl⟩) (s2_hasKey_n_now (t := t) (u := u) hv) (by omega) (Nat.le_of_ble_eq_true rfl) (fun r1 h1 hq => ?_)
  obtain ⟨rfl, rfl⟩ := (show r1 = nI (0) ∧ h1 = hA t u from hq)
  refine n_if_eq eX3_give_8 (by first | omega | exact zlt (hs _) | exact hou _ | exact hop _) (fun hc8 => ?_) (fun hc8 => absurd hc8 (by decide))
  refine r_aload_n eX3_give_22 rfl rfl ?_
  refine r_iconst (v := (-1)) eX3_give_23 rfl ?_
  refine r_callVi1 eX3_give_24 lX3_46 (Or.inl ⟨_, _, _, rfl, rfl, rfl⟩) (s3_refuse (t := t) (u := u) (x := (-1)) (c := 1) (by decide) (by decide)) (by omega) (Nat.le_of_ble_eq_true rfl) (fun r1 h1 hq => ?_)
  obtain ⟨rfl, rfl⟩ := (show r1 = (-1) ∧ h1 = hA t (cg_let u, cg_lc u, cg_rt u, cg_rl u, cg_ra u, cg_rf u, cg_rn u, cg_rc u, cg_now u, cg_dra u, cg_kep u, cg_im u, cg_mp u, cg_mw u, cg_mu u, cg_mn u, cg_mi u, cg_mc u, cg_md u, cg_mo u, cg_ms u, cg_mq u, cg_se u, cg_sc u, (va_up (cg_re u) 1 ((cg_re u) 1 + 1))) from hq)
  exact z_iret eX3_give_27 rfl rfl ⟨_, rfl, rfl, rfl⟩
set_option maxHeartbeats 1000000 in
set_option maxRecDepth 100000 in
theorem s3_give_n2 {t : zMod} {u : zCls} (ho : tOk (cg_now u)) (hk10 : tg_keys (cg_now u) ≤ 10) {v : Nat} (hv : v < tg_keys (cg_now u)) {x : Int32} (hx : x < 0 ∨ nI (tg_people (cg_now u)) ≤ x) : Mi mX3_give 2 [.ref 11, .int (nI (v)), .int (x)] (hA t u) (fun r h' => r = (-1) ∧ h' = hA t (cg_let u, cg_lc u, cg_rt u, cg_rl u, cg_ra u, cg_rf u, cg_rn u, cg_rc u, cg_now u, cg_dra u, cg_kep u, cg_im u, cg_mp u, cg_mw u, cg_mu u, cg_mn u, cg_mi u, cg_mc u, cg_md u, cg_mo u, cg_ms u, cg_mq u, cg_se u, cg_sc u, (va_up (cg_re u) 1 (cg_re u 1 + 1)))) := by
  obtain ⟨hp7, hk12, hpc, hwt, hrg, hpp⟩ := id ho
  have hpw : 2 ^ tg_people (cg_now u) ≤ 2 ^ 7 := Nat.pow_le_pow_right (by omega) hp7
  refine Mi.of (by decide) rfl (Nat.le_of_ble_eq_true rfl) ?_
  refine r_aload_n eX3_give_0 rfl rfl ?_
  refine r_getf (v := .ref 16) eX3_give_1 fX3_23 rfl rfl ?_
  refine r_iload_n eX3_give_4 rfl rfl ?_
  refine r_callVi1 eX3_give_5 lX3_90 (Or.inl ⟨_, _, _, rfl, rfl, rfl⟩) (s2_hasKey_y_now (t := t) (u := u) ho hv) (by omega) (Nat.le_of_ble_eq_true rfl) (fun r1 h1 hq => ?_)
  obtain ⟨rfl, rfl⟩ := (show r1 = nI (1) ∧ h1 = hA t u from hq)
  refine n_if_eq eX3_give_8 (by omega) (fun hc8 => absurd hc8 (by decide)) (fun hc8 => ?_)
  refine r_aload_n eX3_give_11 rfl rfl ?_
  refine r_getf (v := .ref 16) eX3_give_12 fX3_23 rfl rfl ?_
  refine r_iload_n eX3_give_15 rfl rfl ?_
  refine r_callVi1 eX3_give_16 lX3_62 (Or.inl ⟨_, _, _, rfl, rfl, rfl⟩) (s2_hasPerson_n_now (t := t) (u := u) hx) (by omega) (Nat.le_of_ble_eq_true rfl) (fun r1 h1 hq => ?_)
  obtain ⟨rfl, rfl⟩ := (show r1 = nI (0) ∧ h1 = hA t u from hq)
  refine n_if_ne eX3_give_19 (by omega) (fun hc19 => absurd hc19 (by decide)) (fun hc19 => ?_)
  refine r_aload_n eX3_give_22 rfl rfl ?_
  refine r_iconst (v := (-1)) eX3_give_23 rfl ?_
  refine r_callVi1 eX3_give_24 lX3_46 (Or.inl ⟨_, _, _, rfl, rfl, rfl⟩) (s3_refuse (t := t) (u := u) (x := (-1)) (c := 1) (by decide) (by decide)) (by omega) (Nat.le_of_ble_eq_true rfl) (fun r1 h1 hq => ?_)
  obtain ⟨rfl, rfl⟩ := (show r1 = (-1) ∧ h1 = hA t (cg_let u, cg_lc u, cg_rt u, cg_rl u, cg_ra u, cg_rf u, cg_rn u, cg_rc u, cg_now u, cg_dra u, cg_kep u, cg_im u, cg_mp u, cg_mw u, cg_mu u, cg_mn u, cg_mi u, cg_mc u, cg_md u, cg_mo u, cg_ms u, cg_mq u, cg_se u, cg_sc u, (va_up (cg_re u) 1 ((cg_re u) 1 + 1))) from hq)
  exact z_iret eX3_give_27 rfl rfl ⟨_, rfl, rfl, rfl⟩
set_option maxHeartbeats 1000000 in
set_option maxRecDepth 100000 in
theorem s3_give_k {t : zMod} {u : zCls} (ho : tOk (cg_now u)) (hk10 : tg_keys (cg_now u) ≤ 10) {v : Nat} (hv : v < tg_keys (cg_now u)) {x : Nat} (hx : x < tg_people (cg_now u)) : Mi mX3_give 2 [.ref 11, .int (nI (v)), .int (nI (x))] (hA t u) (fun r h' => r = nI (tg_held (cg_now u) v) ∧ h' = hA t (cg_let u, cg_lc u, cg_rt u, cg_rl u, cg_ra u, cg_rf u, cg_rn u, cg_rc u, (tg_kind (cg_now u), tg_wakes (cg_now u), tg_takes (cg_now u), tg_due (cg_now u), tg_cost (cg_now u), tg_people (cg_now u), tg_door (cg_now u), (va_up (tg_held (cg_now u)) v x), tg_keys (cg_now u), tg_watch (cg_now u), tg_pace (cg_now u), tg_ring (cg_now u)), cg_dra u, cg_kep u, cg_im u, cg_mp u, cg_mw u, cg_mu u, cg_mn u, cg_mi u, cg_mc u, cg_md u, cg_mo u, cg_ms u, cg_mq u, cg_se u, cg_sc u, cg_re u)) := by
  obtain ⟨hp7, hk12, hpc, hwt, hrg, hpp⟩ := id ho
  have hpw : 2 ^ tg_people (cg_now u) ≤ 2 ^ 7 := Nat.pow_le_pow_right (by omega) hp7
  refine Mi.of (by decide) rfl (Nat.le_of_ble_eq_true rfl) ?_
  refine r_aload_n eX3_give_0 rfl rfl ?_
  refine r_getf (v := .ref 16) eX3_give_1 fX3_23 rfl rfl ?_
  refine r_iload_n eX3_give_4 rfl rfl ?_
  refine r_callVi1 eX3_give_5 lX3_90 (Or.inl ⟨_, _, _, rfl, rfl, rfl⟩) (s2_hasKey_y_now (t := t) (u := u) ho hv) (by omega) (Nat.le_of_ble_eq_true rfl) (fun r1 h1 hq => ?_)
  obtain ⟨rfl, rfl⟩ := (show r1 = nI (1) ∧ h1 = hA t u from hq)
  refine n_if_eq eX3_give_8 (by omega) (fun hc8 => absurd hc8 (by decide)) (fun hc8 => ?_)
  refine r_aload_n eX3_give_11 rfl rfl ?_
  refine r_getf (v := .ref 16) eX3_give_12 fX3_23 rfl rfl ?_
  refine r_iload_n eX3_give_15 rfl rfl ?_
  refine r_callVi1 eX3_give_16 lX3_62 (Or.inl ⟨_, _, _, rfl, rfl, rfl⟩) (s2_hasPerson_y_now (t := t) (u := u) ho hx) (by omega) (Nat.le_of_ble_eq_true rfl) (fun r1 h1 hq => ?_)
  obtain ⟨rfl, rfl⟩ := (show r1 = nI (1) ∧ h1 = hA t u from hq)
  refine n_if_ne eX3_give_19 (by omega) (fun hc19 => ?_) (fun hc19 => absurd hc19 (by decide))
  refine r_aload_n eX3_give_28 rfl rfl ?_
  refine r_getf (v := .ref 16) eX3_give_29 fX3_23 rfl rfl ?_
  refine r_getf (v := .ref 23) eX3_give_32 fX3_96 rfl rfl ?_
  refine r_iload_n eX3_give_35 rfl rfl ?_
  refine n_iald (f := tg_held (cg_now u)) (j := v) eX3_give_36 rfl rfl (by omega) (by decide) ?_
  refine r_istore_n eX3_give_37 rfl (by decide) ?_
  refine r_aload_n eX3_give_38 rfl rfl ?_
  refine r_getf (v := .ref 16) eX3_give_39 fX3_23 rfl rfl ?_
  refine r_getf (v := .ref 23) eX3_give_42 fX3_96 rfl rfl ?_
  refine r_iload_n eX3_give_45 rfl rfl ?_
  refine r_iload_n eX3_give_46 rfl rfl ?_
  refine z_h (h' := hA t (cg_let u, cg_lc u, cg_rt u, cg_rl u, cg_ra u, cg_rf u, cg_rn u, cg_rc u, (tg_kind (cg_now u), tg_wakes (cg_now u), tg_takes (cg_now u), tg_due (cg_now u), tg_cost (cg_now u), tg_people (cg_now u), tg_door (cg_now u), tg_held (cg_now u), tg_keys (cg_now u), tg_watch (cg_now u), tg_pace (cg_now u), tg_ring (cg_now u)), cg_dra u, cg_kep u, cg_im u, cg_mp u, cg_mw u, cg_mu u, cg_mn u, cg_mi u, cg_mc u, cg_md u, cg_mo u, cg_ms u, cg_mq u, cg_se u, cg_sc u, cg_re u)) rfl ?_
  refine cw_now_held (j := v) (v := x) eX3_give_47 rfl rfl (by omega) ?_
  refine r_iload_n eX3_give_48 rfl rfl ?_
  exact z_iret eX3_give_49 rfl rfl ⟨_, rfl, rfl, rfl⟩
set_option maxHeartbeats 1000000 in
set_option maxRecDepth 100000 in
theorem s3_cast_n1 {t : zMod} {u : zCls} {v x : Int32} (hv : v < 0 ∨ nI (tg_people (cg_now u)) ≤ v) : Mi mX3_cast 4 [.ref 11, .int (v), .int (x)] (hA t u) (fun r h' => r = (-1) ∧ h' = hA t (cg_let u, cg_lc u, cg_rt u, cg_rl u, cg_ra u, cg_rf u, cg_rn u, cg_rc u, cg_now u, cg_dra u, cg_kep u, cg_im u, cg_mp u, cg_mw u, cg_mu u, cg_mn u, cg_mi u, cg_mc u, cg_md u, cg_mo u, cg_ms u, cg_mq u, cg_se u, cg_sc u, (va_up (cg_re u) 1 (cg_re u 1 + 1)))) := by
  refine Mi.of (by decide) rfl (Nat.le_of_ble_eq_true rfl) ?_
  refine r_aload_n eX3_cast_0 rfl rfl ?_
  refine r_getf (v := .ref 16) eX3_cast_1 fX3_23 rfl rfl ?_
  refine r_iload_n eX3_cast_4 rfl rfl ?_
  refine r_callVi1 eX3_cast_5 lX3_62 (Or.inl ⟨_, _, _, rfl, rfl, rfl⟩) (s2_hasPerson_n_now (t := t) (u := u) hv) (by omega) (Nat.le_of_ble_eq_true rfl) (fun r1 h1 hq => ?_)
  obtain ⟨rfl, rfl⟩ := (show r1 = nI (0) ∧ h1 = hA t u from hq)
  refine n_if_eq eX3_cast_8 (by first | omega | exact zlt (hs _) | exact hou _ | exact hop _) (fun hc8 => ?_) (fun hc8 => absurd hc8 (by decide))
  refine r_aload_n eX3_cast_22 rfl rfl ?_
  refine r_iconst (v := (-1)) eX3_cast_23 rfl ?_
  refine r_callVi1 eX3_cast_24 lX3_46 (Or.inl ⟨_, _, _, rfl, rfl, rfl⟩) (s3_refuse (t := t) (u := u) (x := (-1)) (c := 1) (by decide) (by decide)) (by omega) (Nat.le_of_ble_eq_true rfl) (fun r1 h1 hq => ?_)
  obtain ⟨rfl, rfl⟩ := (show r1 = (-1) ∧ h1 = hA t (cg_let u, cg_lc u, cg_rt u, cg_rl u, cg_ra u, cg_rf u, cg_rn u, cg_rc u, cg_now u, cg_dra u, cg_kep u, cg_im u, cg_mp u, cg_mw u, cg_mu u, cg_mn u, cg_mi u, cg_mc u, cg_md u, cg_mo u, cg_ms u, cg_mq u, cg_se u, cg_sc u, (va_up (cg_re u) 1 ((cg_re u) 1 + 1))) from hq)
  exact z_iret eX3_cast_27 rfl rfl ⟨_, rfl, rfl, rfl⟩
set_option maxHeartbeats 1000000 in
set_option maxRecDepth 100000 in
theorem s3_cast_n2 {t : zMod} {u : zCls} (ho : tOk (cg_now u)) {v : Nat} (hv : v < tg_people (cg_now u)) {x : Int32} (hx : x < 0 ∨ nI (tg_people (cg_now u)) ≤ x) : Mi mX3_cast 4 [.ref 11, .int (nI (v)), .int (x)] (hA t u) (fun r h' => r = (-1) ∧ h' = hA t (cg_let u, cg_lc u, cg_rt u, cg_rl u, cg_ra u, cg_rf u, cg_rn u, cg_rc u, cg_now u, cg_dra u, cg_kep u, cg_im u, cg_mp u, cg_mw u, cg_mu u, cg_mn u, cg_mi u, cg_mc u, cg_md u, cg_mo u, cg_ms u, cg_mq u, cg_se u, cg_sc u, (va_up (cg_re u) 1 (cg_re u 1 + 1)))) := by
  obtain ⟨hp7, hk12, hpc, hwt, hrg, hpp⟩ := id ho
  have hpw : 2 ^ tg_people (cg_now u) ≤ 2 ^ 7 := Nat.pow_le_pow_right (by omega) hp7
  refine Mi.of (by decide) rfl (Nat.le_of_ble_eq_true rfl) ?_
  refine r_aload_n eX3_cast_0 rfl rfl ?_
  refine r_getf (v := .ref 16) eX3_cast_1 fX3_23 rfl rfl ?_
  refine r_iload_n eX3_cast_4 rfl rfl ?_
  refine r_callVi1 eX3_cast_5 lX3_62 (Or.inl ⟨_, _, _, rfl, rfl, rfl⟩) (s2_hasPerson_y_now (t := t) (u := u) ho hv) (by omega) (Nat.le_of_ble_eq_true rfl) (fun r1 h1 hq => ?_)
  obtain ⟨rfl, rfl⟩ := (show r1 = nI (1) ∧ h1 = hA t u from hq)
  refine n_if_eq eX3_cast_8 (by omega) (fun hc8 => absurd hc8 (by decide)) (fun hc8 => ?_)
  refine r_aload_n eX3_cast_11 rfl rfl ?_
  refine r_getf (v := .ref 16) eX3_cast_12 fX3_23 rfl rfl ?_
  refine r_iload_n eX3_cast_15 rfl rfl ?_
  refine r_callVi1 eX3_cast_16 lX3_62 (Or.inl ⟨_, _, _, rfl, rfl, rfl⟩) (s2_hasPerson_n_now (t := t) (u := u) hx) (by omega) (Nat.le_of_ble_eq_true rfl) (fun r1 h1 hq => ?_)
  obtain ⟨rfl, rfl⟩ := (show r1 = nI (0) ∧ h1 = hA t u from hq)
  refine n_if_ne eX3_cast_19 (by omega) (fun hc19 => absurd hc19 (by decide)) (fun hc19 => ?_)
  refine r_aload_n eX3_cast_22 rfl rfl ?_
  refine r_iconst (v := (-1)) eX3_cast_23 rfl ?_
  refine r_callVi1 eX3_cast_24 lX3_46 (Or.inl ⟨_, _, _, rfl, rfl, rfl⟩) (s3_refuse (t := t) (u := u) (x := (-1)) (c := 1) (by decide) (by decide)) (by omega) (Nat.le_of_ble_eq_true rfl) (fun r1 h1 hq => ?_)
  obtain ⟨rfl, rfl⟩ := (show r1 = (-1) ∧ h1 = hA t (cg_let u, cg_lc u, cg_rt u, cg_rl u, cg_ra u, cg_rf u, cg_rn u, cg_rc u, cg_now u, cg_dra u, cg_kep u, cg_im u, cg_mp u, cg_mw u, cg_mu u, cg_mn u, cg_mi u, cg_mc u, cg_md u, cg_mo u, cg_ms u, cg_mq u, cg_se u, cg_sc u, (va_up (cg_re u) 1 ((cg_re u) 1 + 1))) from hq)
  exact z_iret eX3_cast_27 rfl rfl ⟨_, rfl, rfl, rfl⟩
set_option maxHeartbeats 1000000 in
set_option maxRecDepth 100000 in
theorem s3_cast_f {t : zMod} {u : zCls} (ho : tOk (cg_now u)) {v : Nat} (hv : v < tg_people (cg_now u)) (hk10 : tg_keys (cg_now u) ≤ 10) {x : Nat} (hx : x < tg_people (cg_now u)) (hf : tg_keys (cg_now u) = 10) : Mi mX3_cast 4 [.ref 11, .int (nI (v)), .int (nI (x))] (hA t u) (fun r h' => r = (-6) ∧ h' = hA t (cg_let u, cg_lc u, cg_rt u, cg_rl u, cg_ra u, cg_rf u, cg_rn u, cg_rc u, cg_now u, cg_dra u, cg_kep u, cg_im u, cg_mp u, cg_mw u, cg_mu u, cg_mn u, cg_mi u, cg_mc u, cg_md u, cg_mo u, cg_ms u, cg_mq u, cg_se u, cg_sc u, (va_up (cg_re u) 6 (cg_re u 6 + 1)))) := by
  obtain ⟨hp7, hk12, hpc, hwt, hrg, hpp⟩ := id ho
  have hpw : 2 ^ tg_people (cg_now u) ≤ 2 ^ 7 := Nat.pow_le_pow_right (by omega) hp7
  refine Mi.of (by decide) rfl (Nat.le_of_ble_eq_true rfl) ?_
  refine r_aload_n eX3_cast_0 rfl rfl ?_
  refine r_getf (v := .ref 16) eX3_cast_1 fX3_23 rfl rfl ?_
  refine r_iload_n eX3_cast_4 rfl rfl ?_
  refine r_callVi1 eX3_cast_5 lX3_62 (Or.inl ⟨_, _, _, rfl, rfl, rfl⟩) (s2_hasPerson_y_now (t := t) (u := u) ho hv) (by omega) (Nat.le_of_ble_eq_true rfl) (fun r1 h1 hq => ?_)
  obtain ⟨rfl, rfl⟩ := (show r1 = nI (1) ∧ h1 = hA t u from hq)
  refine n_if_eq eX3_cast_8 (by omega) (fun hc8 => absurd hc8 (by decide)) (fun hc8 => ?_)
  refine r_aload_n eX3_cast_11 rfl rfl ?_
  refine r_getf (v := .ref 16) eX3_cast_12 fX3_23 rfl rfl ?_
  refine r_iload_n eX3_cast_15 rfl rfl ?_
  refine r_callVi1 eX3_cast_16 lX3_62 (Or.inl ⟨_, _, _, rfl, rfl, rfl⟩) (s2_hasPerson_y_now (t := t) (u := u) ho hx) (by omega) (Nat.le_of_ble_eq_true rfl) (fun r1 h1 hq => ?_)
  obtain ⟨rfl, rfl⟩ := (show r1 = nI (1) ∧ h1 = hA t u from hq)
  refine n_if_ne eX3_cast_19 (by omega) (fun hc19 => ?_) (fun hc19 => absurd hc19 (by decide))
  refine r_aload_n eX3_cast_28 rfl rfl ?_
  refine r_getf (v := .ref 16) eX3_cast_29 fX3_23 rfl rfl ?_
  refine r_iload_n eX3_cast_32 rfl rfl ?_
  refine r_iload_n eX3_cast_33 rfl rfl ?_
  refine r_callVi2 eX3_cast_34 lX3_99 (Or.inl ⟨_, _, _, rfl, rfl, rfl⟩) (s2_addKey_f_now (t := t) (u := u) ho hk10 hf) (by omega) (Nat.le_of_ble_eq_true rfl) (fun r1 h1 hq => ?_)
  obtain ⟨rfl, rfl⟩ := (show r1 = nI (0) ∧ h1 = hA t u from hq)
  refine n_if_ne eX3_cast_37 (by omega) (fun hc37 => absurd hc37 (by decide)) (fun hc37 => ?_)
  refine r_aload_n eX3_cast_40 rfl rfl ?_
  refine r_bipush (v := (-6)) eX3_cast_41 rfl ?_
  refine r_callVi1 eX3_cast_43 lX3_46 (Or.inl ⟨_, _, _, rfl, rfl, rfl⟩) (s3_refuse (t := t) (u := u) (x := (-6)) (c := 6) (by decide) (by decide)) (by omega) (Nat.le_of_ble_eq_true rfl) (fun r1 h1 hq => ?_)
  obtain ⟨rfl, rfl⟩ := (show r1 = (-6) ∧ h1 = hA t (cg_let u, cg_lc u, cg_rt u, cg_rl u, cg_ra u, cg_rf u, cg_rn u, cg_rc u, cg_now u, cg_dra u, cg_kep u, cg_im u, cg_mp u, cg_mw u, cg_mu u, cg_mn u, cg_mi u, cg_mc u, cg_md u, cg_mo u, cg_ms u, cg_mq u, cg_se u, cg_sc u, (va_up (cg_re u) 6 ((cg_re u) 6 + 1))) from hq)
  exact z_iret eX3_cast_46 rfl rfl ⟨_, rfl, rfl, rfl⟩
set_option maxHeartbeats 1000000 in
set_option maxRecDepth 100000 in
theorem s3_cast_k {t : zMod} {u : zCls} (ho : tOk (cg_now u)) {v : Nat} (hv : v < tg_people (cg_now u)) (hk10 : tg_keys (cg_now u) ≤ 10) {x : Nat} (hx : x < tg_people (cg_now u)) (hf : tg_keys (cg_now u) < 10) : Mi mX3_cast 4 [.ref 11, .int (nI (v)), .int (nI (x))] (hA t u) (fun r h' => r = nI (tg_keys (cg_now u)) ∧ h' = hA t (cg_let u, cg_lc u, cg_rt u, cg_rl u, cg_ra u, cg_rf u, cg_rn u, cg_rc u, (tg_kind (cg_now u), tg_wakes (cg_now u), tg_takes (cg_now u), tg_due (cg_now u), tg_cost (cg_now u), tg_people (cg_now u), (va_up (tg_door (cg_now u)) (tg_keys (cg_now u)) v), (va_up (tg_held (cg_now u)) (tg_keys (cg_now u)) x), (tg_keys (cg_now u) + 1), tg_watch (cg_now u), tg_pace (cg_now u), tg_ring (cg_now u)), cg_dra u, cg_kep u, cg_im u, cg_mp u, cg_mw u, cg_mu u, cg_mn u, cg_mi u, cg_mc u, cg_md u, cg_mo u, cg_ms u, cg_mq u, cg_se u, cg_sc u, cg_re u)) := by
  obtain ⟨hp7, hk12, hpc, hwt, hrg, hpp⟩ := id ho
  have hpw : 2 ^ tg_people (cg_now u) ≤ 2 ^ 7 := Nat.pow_le_pow_right (by omega) hp7
  refine Mi.of (by decide) rfl (Nat.le_of_ble_eq_true rfl) ?_
  refine r_aload_n eX3_cast_0 rfl rfl ?_
  refine r_getf (v := .ref 16) eX3_cast_1 fX3_23 rfl rfl ?_
  refine r_iload_n eX3_cast_4 rfl rfl ?_
  refine r_callVi1 eX3_cast_5 lX3_62 (Or.inl ⟨_, _, _, rfl, rfl, rfl⟩) (s2_hasPerson_y_now (t := t) (u := u) ho hv) (by omega) (Nat.le_of_ble_eq_true rfl) (fun r1 h1 hq => ?_)
  obtain ⟨rfl, rfl⟩ := (show r1 = nI (1) ∧ h1 = hA t u from hq)
  refine n_if_eq eX3_cast_8 (by omega) (fun hc8 => absurd hc8 (by decide)) (fun hc8 => ?_)
  refine r_aload_n eX3_cast_11 rfl rfl ?_
  refine r_getf (v := .ref 16) eX3_cast_12 fX3_23 rfl rfl ?_
  refine r_iload_n eX3_cast_15 rfl rfl ?_
  refine r_callVi1 eX3_cast_16 lX3_62 (Or.inl ⟨_, _, _, rfl, rfl, rfl⟩) (s2_hasPerson_y_now (t := t) (u := u) ho hx) (by omega) (Nat.le_of_ble_eq_true rfl) (fun r1 h1 hq => ?_)
  obtain ⟨rfl, rfl⟩ := (show r1 = nI (1) ∧ h1 = hA t u from hq)
  refine n_if_ne eX3_cast_19 (by omega) (fun hc19 => ?_) (fun hc19 => absurd hc19 (by decide))
  refine r_aload_n eX3_cast_28 rfl rfl ?_
  refine r_getf (v := .ref 16) eX3_cast_29 fX3_23 rfl rfl ?_
  refine r_iload_n eX3_cast_32 rfl rfl ?_
  refine r_iload_n eX3_cast_33 rfl rfl ?_
  refine r_callVi2 eX3_cast_34 lX3_99 (Or.inl ⟨_, _, _, rfl, rfl, rfl⟩) (s2_addKey_y_now (t := t) (u := u) ho hk10 hf hv hx) (by omega) (Nat.le_of_ble_eq_true rfl) (fun r1 h1 hq => ?_)
  obtain ⟨rfl, rfl⟩ := (show r1 = nI (1) ∧ h1 = hA t (cg_let u, cg_lc u, cg_rt u, cg_rl u, cg_ra u, cg_rf u, cg_rn u, cg_rc u, (tg_kind (cg_now u), tg_wakes (cg_now u), tg_takes (cg_now u), tg_due (cg_now u), tg_cost (cg_now u), tg_people (cg_now u), (va_up (tg_door (cg_now u)) (tg_keys (cg_now u)) v), (va_up (tg_held (cg_now u)) (tg_keys (cg_now u)) x), (tg_keys (cg_now u) + 1), tg_watch (cg_now u), tg_pace (cg_now u), tg_ring (cg_now u)), cg_dra u, cg_kep u, cg_im u, cg_mp u, cg_mw u, cg_mu u, cg_mn u, cg_mi u, cg_mc u, cg_md u, cg_mo u, cg_ms u, cg_mq u, cg_se u, cg_sc u, cg_re u) from hq)
  refine n_if_ne eX3_cast_37 (by omega) (fun hc37 => ?_) (fun hc37 => absurd hc37 (by decide))
  refine r_aload_n eX3_cast_47 rfl rfl ?_
  refine r_getf (v := .ref 16) eX3_cast_48 fX3_23 rfl rfl ?_
  refine r_getf (v := .int (nI ((tg_keys (cg_now u) + 1)))) eX3_cast_51 fX3_103 rfl rfl ?_
  refine n_iconst 1 eX3_cast_54 rfl ?_
  refine n_sub eX3_cast_55 (by omega) ?_
  refine z_top (y := nI (tg_keys (cg_now u))) (congrArg nI (Nat.add_sub_cancel (n := tg_keys (cg_now u)) (m := 1))) ?_
  exact z_iret eX3_cast_56 rfl rfl ⟨_, rfl, rfl, rfl⟩
set_option maxHeartbeats 1000000 in
set_option maxRecDepth 100000 in
theorem s3_lose_n {t : zMod} {u : zCls} {v : Int32} (hv : v < 0 ∨ nI (tg_keys (cg_now u)) ≤ v) : Mi mX3_lose 4 [.ref 11, .int (v)] (hA t u) (fun r h' => r = (-1) ∧ h' = hA t (cg_let u, cg_lc u, cg_rt u, cg_rl u, cg_ra u, cg_rf u, cg_rn u, cg_rc u, cg_now u, cg_dra u, cg_kep u, cg_im u, cg_mp u, cg_mw u, cg_mu u, cg_mn u, cg_mi u, cg_mc u, cg_md u, cg_mo u, cg_ms u, cg_mq u, cg_se u, cg_sc u, (va_up (cg_re u) 1 (cg_re u 1 + 1)))) := by
  refine Mi.of (by decide) rfl (Nat.le_of_ble_eq_true rfl) ?_
  refine r_aload_n eX3_lose_0 rfl rfl ?_
  refine r_getf (v := .ref 16) eX3_lose_1 fX3_23 rfl rfl ?_
  refine r_iload_n eX3_lose_4 rfl rfl ?_
  refine r_callVi1 eX3_lose_5 lX3_90 (Or.inl ⟨_, _, _, rfl, rfl, rfl⟩) (s2_hasKey_n_now (t := t) (u := u) hv) (by omega) (Nat.le_of_ble_eq_true rfl) (fun r1 h1 hq => ?_)
  obtain ⟨rfl, rfl⟩ := (show r1 = nI (0) ∧ h1 = hA t u from hq)
  refine n_if_ne eX3_lose_8 (by first | omega | exact zlt (hs _) | exact hou _ | exact hop _) (fun hc8 => absurd hc8 (by decide)) (fun hc8 => ?_)
  refine r_aload_n eX3_lose_11 rfl rfl ?_
  refine r_iconst (v := (-1)) eX3_lose_12 rfl ?_
  refine r_callVi1 eX3_lose_13 lX3_46 (Or.inl ⟨_, _, _, rfl, rfl, rfl⟩) (s3_refuse (t := t) (u := u) (x := (-1)) (c := 1) (by decide) (by decide)) (by omega) (Nat.le_of_ble_eq_true rfl) (fun r1 h1 hq => ?_)
  obtain ⟨rfl, rfl⟩ := (show r1 = (-1) ∧ h1 = hA t (cg_let u, cg_lc u, cg_rt u, cg_rl u, cg_ra u, cg_rf u, cg_rn u, cg_rc u, cg_now u, cg_dra u, cg_kep u, cg_im u, cg_mp u, cg_mw u, cg_mu u, cg_mn u, cg_mi u, cg_mc u, cg_md u, cg_mo u, cg_ms u, cg_mq u, cg_se u, cg_sc u, (va_up (cg_re u) 1 ((cg_re u) 1 + 1))) from hq)
  exact z_iret eX3_lose_16 rfl rfl ⟨_, rfl, rfl, rfl⟩
set_option maxHeartbeats 1000000 in
set_option maxRecDepth 100000 in
theorem s3_lose_k {t : zMod} {u : zCls} (ho : tOk (cg_now u)) (hk10 : tg_keys (cg_now u) ≤ 10) {v : Nat} (hv : v < tg_keys (cg_now u)) : Mi mX3_lose 4 [.ref 11, .int (nI (v))] (hA t u) (fun r h' => r = nI (tg_keys (cg_now u) - 1) ∧ h' = hA t (cg_let u, cg_lc u, cg_rt u, cg_rl u, cg_ra u, cg_rf u, cg_rn u, cg_rc u, (tDrop (cg_now u) v), cg_dra u, cg_kep u, cg_im u, cg_mp u, cg_mw u, cg_mu u, cg_mn u, cg_mi u, cg_mc u, cg_md u, cg_mo u, cg_ms u, cg_mq u, cg_se u, cg_sc u, cg_re u)) := by
  obtain ⟨hp7, hk12, hpc, hwt, hrg, hpp⟩ := id ho
  have hpw : 2 ^ tg_people (cg_now u) ≤ 2 ^ 7 := Nat.pow_le_pow_right (by omega) hp7
  refine Mi.of (by decide) rfl (Nat.le_of_ble_eq_true rfl) ?_
  refine r_aload_n eX3_lose_0 rfl rfl ?_
  refine r_getf (v := .ref 16) eX3_lose_1 fX3_23 rfl rfl ?_
  refine r_iload_n eX3_lose_4 rfl rfl ?_
  refine r_callVi1 eX3_lose_5 lX3_90 (Or.inl ⟨_, _, _, rfl, rfl, rfl⟩) (s2_hasKey_y_now (t := t) (u := u) ho hv) (by omega) (Nat.le_of_ble_eq_true rfl) (fun r1 h1 hq => ?_)
  obtain ⟨rfl, rfl⟩ := (show r1 = nI (1) ∧ h1 = hA t u from hq)
  refine n_if_ne eX3_lose_8 (by omega) (fun hc8 => ?_) (fun hc8 => absurd hc8 (by decide))
  refine r_aload_n eX3_lose_17 rfl rfl ?_
  refine r_getf (v := .ref 16) eX3_lose_18 fX3_23 rfl rfl ?_
  refine r_iload_n eX3_lose_21 rfl rfl ?_
  refine r_callVv1 eX3_lose_22 lX3_106 (Or.inl ⟨_, _, _, rfl, rfl, rfl⟩) (s2_dropKey_now (t := t) (u := u) ho hk10 hv) (by omega) (Nat.le_of_ble_eq_true rfl) (fun h1 hq => ?_)
  obtain rfl := (show h1 = hA t (cg_let u, cg_lc u, cg_rt u, cg_rl u, cg_ra u, cg_rf u, cg_rn u, cg_rc u, (tDrop (cg_now u) v), cg_dra u, cg_kep u, cg_im u, cg_mp u, cg_mw u, cg_mu u, cg_mn u, cg_mi u, cg_mc u, cg_md u, cg_mo u, cg_ms u, cg_mq u, cg_se u, cg_sc u, cg_re u) from hq)
  refine r_aload_n eX3_lose_25 rfl rfl ?_
  refine r_getf (v := .ref 16) eX3_lose_26 fX3_23 rfl rfl ?_
  refine r_getf (v := .int (nI (tg_keys ((tDrop (cg_now u) v))))) eX3_lose_29 fX3_103 rfl rfl ?_
  exact z_iret eX3_lose_32 rfl rfl ⟨_, rfl, rfl, rfl⟩
set_option maxHeartbeats 1000000 in
set_option maxRecDepth 100000 in
theorem s3_watch_n {t : zMod} {u : zCls} (ho : tOk (cg_now u)) {v : Int32} (hv : v < 0 ∨ nI (2 ^ tg_people (cg_now u) - 1) < v) : Mi mX3_watch 2 [.ref 11, .int (v)] (hA t u) (fun r h' => r = (-1) ∧ h' = hA t (cg_let u, cg_lc u, cg_rt u, cg_rl u, cg_ra u, cg_rf u, cg_rn u, cg_rc u, cg_now u, cg_dra u, cg_kep u, cg_im u, cg_mp u, cg_mw u, cg_mu u, cg_mn u, cg_mi u, cg_mc u, cg_md u, cg_mo u, cg_ms u, cg_mq u, cg_se u, cg_sc u, (va_up (cg_re u) 1 (cg_re u 1 + 1)))) := by
  obtain ⟨hp7, hk12, hpc, hwt, hrg, hpp⟩ := id ho
  have hpw : 2 ^ tg_people (cg_now u) ≤ 2 ^ 7 := Nat.pow_le_pow_right (by omega) hp7
  refine Mi.of (by decide) rfl (Nat.le_of_ble_eq_true rfl) ?_
  refine r_iload_n eX3_watch_0 rfl rfl ?_
  refine r_aload_n eX3_watch_1 rfl rfl ?_
  refine r_getf (v := .ref 16) eX3_watch_2 fX3_23 rfl rfl ?_
  refine r_callVi0 eX3_watch_5 lX3_110 (Or.inl ⟨_, _, _, rfl, rfl, rfl⟩) (s2_everyone_now (t := t) (u := u) ho) (by omega) (Nat.le_of_ble_eq_true rfl) (fun r1 h1 hq => ?_)
  obtain ⟨rfl, rfl⟩ := (show r1 = nI (2 ^ tg_people (cg_now u) - 1) ∧ h1 = hA t u from hq)
  refine r_iconst (v := (-1)) eX3_watch_8 rfl ?_
  refine r_ixor eX3_watch_9 ?_
  refine r_iand eX3_watch_10 ?_
  refine r_if_eq eX3_watch_11 (fun hc11 => absurd hc11 (zwat_n (by omega) hv)) (fun hc11 => ?_)
  refine r_aload_n eX3_watch_14 rfl rfl ?_
  refine r_iconst (v := (-1)) eX3_watch_15 rfl ?_
  refine r_callVi1 eX3_watch_16 lX3_46 (Or.inl ⟨_, _, _, rfl, rfl, rfl⟩) (s3_refuse (t := t) (u := u) (x := (-1)) (c := 1) (by decide) (by decide)) (by omega) (Nat.le_of_ble_eq_true rfl) (fun r1 h1 hq => ?_)
  obtain ⟨rfl, rfl⟩ := (show r1 = (-1) ∧ h1 = hA t (cg_let u, cg_lc u, cg_rt u, cg_rl u, cg_ra u, cg_rf u, cg_rn u, cg_rc u, cg_now u, cg_dra u, cg_kep u, cg_im u, cg_mp u, cg_mw u, cg_mu u, cg_mn u, cg_mi u, cg_mc u, cg_md u, cg_mo u, cg_ms u, cg_mq u, cg_se u, cg_sc u, (va_up (cg_re u) 1 ((cg_re u) 1 + 1))) from hq)
  exact z_iret eX3_watch_19 rfl rfl ⟨_, rfl, rfl, rfl⟩
set_option maxHeartbeats 1000000 in
set_option maxRecDepth 100000 in
theorem s3_watch_k {t : zMod} {u : zCls} (ho : tOk (cg_now u)) {v : Nat} (hv : v ≤ 2 ^ tg_people (cg_now u) - 1) : Mi mX3_watch 2 [.ref 11, .int (nI (v))] (hA t u) (fun r h' => r = nI (tg_watch (cg_now u)) ∧ h' = hA t (cg_let u, cg_lc u, cg_rt u, cg_rl u, cg_ra u, cg_rf u, cg_rn u, cg_rc u, (tg_kind (cg_now u), tg_wakes (cg_now u), tg_takes (cg_now u), tg_due (cg_now u), tg_cost (cg_now u), tg_people (cg_now u), tg_door (cg_now u), tg_held (cg_now u), tg_keys (cg_now u), v, tg_pace (cg_now u), tg_ring (cg_now u)), cg_dra u, cg_kep u, cg_im u, cg_mp u, cg_mw u, cg_mu u, cg_mn u, cg_mi u, cg_mc u, cg_md u, cg_mo u, cg_ms u, cg_mq u, cg_se u, cg_sc u, cg_re u)) := by
  obtain ⟨hp7, hk12, hpc, hwt, hrg, hpp⟩ := id ho
  have hpw : 2 ^ tg_people (cg_now u) ≤ 2 ^ 7 := Nat.pow_le_pow_right (by omega) hp7
  refine Mi.of (by decide) rfl (Nat.le_of_ble_eq_true rfl) ?_
  refine r_iload_n eX3_watch_0 rfl rfl ?_
  refine r_aload_n eX3_watch_1 rfl rfl ?_
  refine r_getf (v := .ref 16) eX3_watch_2 fX3_23 rfl rfl ?_
  refine r_callVi0 eX3_watch_5 lX3_110 (Or.inl ⟨_, _, _, rfl, rfl, rfl⟩) (s2_everyone_now (t := t) (u := u) ho) (by omega) (Nat.le_of_ble_eq_true rfl) (fun r1 h1 hq => ?_)
  obtain ⟨rfl, rfl⟩ := (show r1 = nI (2 ^ tg_people (cg_now u) - 1) ∧ h1 = hA t u from hq)
  refine r_iconst (v := (-1)) eX3_watch_8 rfl ?_
  refine r_ixor eX3_watch_9 ?_
  refine r_iand eX3_watch_10 ?_
  refine r_if_eq eX3_watch_11 (fun hc11 => ?_) (fun hc11 => absurd hc11 (fun z => z (zwat_k (tg_people (cg_now u)) (by omega) v (by omega) hv)))
  refine r_aload_n eX3_watch_20 rfl rfl ?_
  refine r_getf (v := .ref 16) eX3_watch_21 fX3_23 rfl rfl ?_
  refine r_getf (v := .int (nI (tg_watch (cg_now u)))) eX3_watch_24 fX3_87 rfl rfl ?_
  refine r_istore_n eX3_watch_27 rfl (by decide) ?_
  refine r_aload_n eX3_watch_28 rfl rfl ?_
  refine r_getf (v := .ref 16) eX3_watch_29 fX3_23 rfl rfl ?_
  refine r_iload_n eX3_watch_32 rfl rfl ?_
  refine z_h (h' := hA t (cg_let u, cg_lc u, cg_rt u, cg_rl u, cg_ra u, cg_rf u, cg_rn u, cg_rc u, (tg_kind (cg_now u), tg_wakes (cg_now u), tg_takes (cg_now u), tg_due (cg_now u), tg_cost (cg_now u), tg_people (cg_now u), tg_door (cg_now u), tg_held (cg_now u), tg_keys (cg_now u), tg_watch (cg_now u), tg_pace (cg_now u), tg_ring (cg_now u)), cg_dra u, cg_kep u, cg_im u, cg_mp u, cg_mw u, cg_mu u, cg_mn u, cg_mi u, cg_mc u, cg_md u, cg_mo u, cg_ms u, cg_mq u, cg_se u, cg_sc u, cg_re u)) rfl ?_
  refine cp_now_watch (v := v) eX3_watch_33 fX3_87 rfl ?_
  refine r_iload_n eX3_watch_36 rfl rfl ?_
  exact z_iret eX3_watch_37 rfl rfl ⟨_, rfl, rfl, rfl⟩
set_option maxHeartbeats 1000000 in
set_option maxRecDepth 100000 in
theorem s3_wake_n {t : zMod} {u : zCls} {v x : Int32} (hv : v < 0 ∨ nI (tg_people (cg_now u)) ≤ v) : Mi mX3_wake 2 [.ref 11, .int (v), .int (x)] (hA t u) (fun r h' => r = (-1) ∧ h' = hA t (cg_let u, cg_lc u, cg_rt u, cg_rl u, cg_ra u, cg_rf u, cg_rn u, cg_rc u, cg_now u, cg_dra u, cg_kep u, cg_im u, cg_mp u, cg_mw u, cg_mu u, cg_mn u, cg_mi u, cg_mc u, cg_md u, cg_mo u, cg_ms u, cg_mq u, cg_se u, cg_sc u, (va_up (cg_re u) 1 (cg_re u 1 + 1)))) := by
  refine Mi.of (by decide) rfl (Nat.le_of_ble_eq_true rfl) ?_
  refine r_aload_n eX3_wake_0 rfl rfl ?_
  refine r_getf (v := .ref 16) eX3_wake_1 fX3_23 rfl rfl ?_
  refine r_iload_n eX3_wake_4 rfl rfl ?_
  refine r_callVi1 eX3_wake_5 lX3_62 (Or.inl ⟨_, _, _, rfl, rfl, rfl⟩) (s2_hasPerson_n_now (t := t) (u := u) hv) (by omega) (Nat.le_of_ble_eq_true rfl) (fun r1 h1 hq => ?_)
  obtain ⟨rfl, rfl⟩ := (show r1 = nI (0) ∧ h1 = hA t u from hq)
  refine n_if_ne eX3_wake_8 (by first | omega | exact zlt (hs _) | exact hou _ | exact hop _) (fun hc8 => absurd hc8 (by decide)) (fun hc8 => ?_)
  refine r_aload_n eX3_wake_11 rfl rfl ?_
  refine r_iconst (v := (-1)) eX3_wake_12 rfl ?_
  refine r_callVi1 eX3_wake_13 lX3_46 (Or.inl ⟨_, _, _, rfl, rfl, rfl⟩) (s3_refuse (t := t) (u := u) (x := (-1)) (c := 1) (by decide) (by decide)) (by omega) (Nat.le_of_ble_eq_true rfl) (fun r1 h1 hq => ?_)
  obtain ⟨rfl, rfl⟩ := (show r1 = (-1) ∧ h1 = hA t (cg_let u, cg_lc u, cg_rt u, cg_rl u, cg_ra u, cg_rf u, cg_rn u, cg_rc u, cg_now u, cg_dra u, cg_kep u, cg_im u, cg_mp u, cg_mw u, cg_mu u, cg_mn u, cg_mi u, cg_mc u, cg_md u, cg_mo u, cg_ms u, cg_mq u, cg_se u, cg_sc u, (va_up (cg_re u) 1 ((cg_re u) 1 + 1))) from hq)
  exact z_iret eX3_wake_16 rfl rfl ⟨_, rfl, rfl, rfl⟩
set_option maxHeartbeats 1000000 in
set_option maxRecDepth 100000 in
theorem s3_wake_b {t : zMod} {u : zCls} (ho : tOk (cg_now u)) {v : Nat} (hv : v < tg_people (cg_now u)) {x : Int32} (hx : x < nI 0) : Mi mX3_wake 2 [.ref 11, .int (nI (v)), .int (x)] (hA t u) (fun r h' => r = (-4) ∧ h' = hA t (cg_let u, cg_lc u, cg_rt u, cg_rl u, cg_ra u, cg_rf u, cg_rn u, cg_rc u, cg_now u, cg_dra u, cg_kep u, cg_im u, cg_mp u, cg_mw u, cg_mu u, cg_mn u, cg_mi u, cg_mc u, cg_md u, cg_mo u, cg_ms u, cg_mq u, cg_se u, cg_sc u, (va_up (cg_re u) 4 (cg_re u 4 + 1)))) := by
  obtain ⟨hp7, hk12, hpc, hwt, hrg, hpp⟩ := id ho
  have hpw : 2 ^ tg_people (cg_now u) ≤ 2 ^ 7 := Nat.pow_le_pow_right (by omega) hp7
  refine Mi.of (by decide) rfl (Nat.le_of_ble_eq_true rfl) ?_
  refine r_aload_n eX3_wake_0 rfl rfl ?_
  refine r_getf (v := .ref 16) eX3_wake_1 fX3_23 rfl rfl ?_
  refine r_iload_n eX3_wake_4 rfl rfl ?_
  refine r_callVi1 eX3_wake_5 lX3_62 (Or.inl ⟨_, _, _, rfl, rfl, rfl⟩) (s2_hasPerson_y_now (t := t) (u := u) ho hv) (by omega) (Nat.le_of_ble_eq_true rfl) (fun r1 h1 hq => ?_)
  obtain ⟨rfl, rfl⟩ := (show r1 = nI (1) ∧ h1 = hA t u from hq)
  refine n_if_ne eX3_wake_8 (by omega) (fun hc8 => ?_) (fun hc8 => absurd hc8 (by decide))
  refine r_iload_n eX3_wake_17 rfl rfl ?_
  refine r_if_ge eX3_wake_18 (fun hc18 => absurd hc18 (Int32.not_le.mpr hx)) (fun hc18 => ?_)
  refine r_aload_n eX3_wake_21 rfl rfl ?_
  refine r_bipush (v := (-4)) eX3_wake_22 rfl ?_
  refine r_callVi1 eX3_wake_24 lX3_46 (Or.inl ⟨_, _, _, rfl, rfl, rfl⟩) (s3_refuse (t := t) (u := u) (x := (-4)) (c := 4) (by decide) (by decide)) (by omega) (Nat.le_of_ble_eq_true rfl) (fun r1 h1 hq => ?_)
  obtain ⟨rfl, rfl⟩ := (show r1 = (-4) ∧ h1 = hA t (cg_let u, cg_lc u, cg_rt u, cg_rl u, cg_ra u, cg_rf u, cg_rn u, cg_rc u, cg_now u, cg_dra u, cg_kep u, cg_im u, cg_mp u, cg_mw u, cg_mu u, cg_mn u, cg_mi u, cg_mc u, cg_md u, cg_mo u, cg_ms u, cg_mq u, cg_se u, cg_sc u, (va_up (cg_re u) 4 ((cg_re u) 4 + 1))) from hq)
  exact z_iret eX3_wake_27 rfl rfl ⟨_, rfl, rfl, rfl⟩
set_option maxHeartbeats 1000000 in
set_option maxRecDepth 100000 in
theorem s3_wake_r {t : zMod} {u : zCls} (ho : tOk (cg_now u)) {v : Nat} (hv : v < tg_people (cg_now u)) {x : Int32} (hx0 : nI 0 ≤ x) (hx : nI 99 < x) : Mi mX3_wake 2 [.ref 11, .int (nI (v)), .int (x)] (hA t u) (fun r h' => r = (-6) ∧ h' = hA t (cg_let u, cg_lc u, cg_rt u, cg_rl u, cg_ra u, cg_rf u, cg_rn u, cg_rc u, cg_now u, cg_dra u, cg_kep u, cg_im u, cg_mp u, cg_mw u, cg_mu u, cg_mn u, cg_mi u, cg_mc u, cg_md u, cg_mo u, cg_ms u, cg_mq u, cg_se u, cg_sc u, (va_up (cg_re u) 6 (cg_re u 6 + 1)))) := by
  obtain ⟨hp7, hk12, hpc, hwt, hrg, hpp⟩ := id ho
  have hpw : 2 ^ tg_people (cg_now u) ≤ 2 ^ 7 := Nat.pow_le_pow_right (by omega) hp7
  refine Mi.of (by decide) rfl (Nat.le_of_ble_eq_true rfl) ?_
  refine r_aload_n eX3_wake_0 rfl rfl ?_
  refine r_getf (v := .ref 16) eX3_wake_1 fX3_23 rfl rfl ?_
  refine r_iload_n eX3_wake_4 rfl rfl ?_
  refine r_callVi1 eX3_wake_5 lX3_62 (Or.inl ⟨_, _, _, rfl, rfl, rfl⟩) (s2_hasPerson_y_now (t := t) (u := u) ho hv) (by omega) (Nat.le_of_ble_eq_true rfl) (fun r1 h1 hq => ?_)
  obtain ⟨rfl, rfl⟩ := (show r1 = nI (1) ∧ h1 = hA t u from hq)
  refine n_if_ne eX3_wake_8 (by omega) (fun hc8 => ?_) (fun hc8 => absurd hc8 (by decide))
  refine r_iload_n eX3_wake_17 rfl rfl ?_
  refine r_if_ge eX3_wake_18 (fun hc18 => ?_) (fun hc18 => absurd hc18 (fun z => z hx0))
  refine r_iload_n eX3_wake_28 rfl rfl ?_
  refine n_bipush 99 eX3_wake_29 rfl ?_
  refine r_icmp_le eX3_wake_31 (fun hc31 => absurd hc31 (Int32.not_le.mpr hx)) (fun hc31 => ?_)
  refine r_aload_n eX3_wake_34 rfl rfl ?_
  refine r_bipush (v := (-6)) eX3_wake_35 rfl ?_
  refine r_callVi1 eX3_wake_37 lX3_46 (Or.inl ⟨_, _, _, rfl, rfl, rfl⟩) (s3_refuse (t := t) (u := u) (x := (-6)) (c := 6) (by decide) (by decide)) (by omega) (Nat.le_of_ble_eq_true rfl) (fun r1 h1 hq => ?_)
  obtain ⟨rfl, rfl⟩ := (show r1 = (-6) ∧ h1 = hA t (cg_let u, cg_lc u, cg_rt u, cg_rl u, cg_ra u, cg_rf u, cg_rn u, cg_rc u, cg_now u, cg_dra u, cg_kep u, cg_im u, cg_mp u, cg_mw u, cg_mu u, cg_mn u, cg_mi u, cg_mc u, cg_md u, cg_mo u, cg_ms u, cg_mq u, cg_se u, cg_sc u, (va_up (cg_re u) 6 ((cg_re u) 6 + 1))) from hq)
  exact z_iret eX3_wake_40 rfl rfl ⟨_, rfl, rfl, rfl⟩
set_option maxHeartbeats 1000000 in
set_option maxRecDepth 100000 in
theorem s3_wake_k {t : zMod} {u : zCls} (ho : tOk (cg_now u)) {v : Nat} (hv : v < tg_people (cg_now u)) {x : Nat} (hx : x ≤ 99) : Mi mX3_wake 2 [.ref 11, .int (nI (v)), .int (nI (x))] (hA t u) (fun r h' => r = nI (tg_wakes (cg_now u) v) ∧ h' = hA t (cg_let u, cg_lc u, cg_rt u, cg_rl u, cg_ra u, cg_rf u, cg_rn u, cg_rc u, (tg_kind (cg_now u), (va_up (tg_wakes (cg_now u)) v x), tg_takes (cg_now u), tg_due (cg_now u), tg_cost (cg_now u), tg_people (cg_now u), tg_door (cg_now u), tg_held (cg_now u), tg_keys (cg_now u), tg_watch (cg_now u), tg_pace (cg_now u), tg_ring (cg_now u)), cg_dra u, cg_kep u, cg_im u, cg_mp u, cg_mw u, cg_mu u, cg_mn u, cg_mi u, cg_mc u, cg_md u, cg_mo u, cg_ms u, cg_mq u, cg_se u, cg_sc u, cg_re u)) := by
  obtain ⟨hp7, hk12, hpc, hwt, hrg, hpp⟩ := id ho
  have hpw : 2 ^ tg_people (cg_now u) ≤ 2 ^ 7 := Nat.pow_le_pow_right (by omega) hp7
  refine Mi.of (by decide) rfl (Nat.le_of_ble_eq_true rfl) ?_
  refine r_aload_n eX3_wake_0 rfl rfl ?_
  refine r_getf (v := .ref 16) eX3_wake_1 fX3_23 rfl rfl ?_
  refine r_iload_n eX3_wake_4 rfl rfl ?_
  refine r_callVi1 eX3_wake_5 lX3_62 (Or.inl ⟨_, _, _, rfl, rfl, rfl⟩) (s2_hasPerson_y_now (t := t) (u := u) ho hv) (by omega) (Nat.le_of_ble_eq_true rfl) (fun r1 h1 hq => ?_)
  obtain ⟨rfl, rfl⟩ := (show r1 = nI (1) ∧ h1 = hA t u from hq)
  refine n_if_ne eX3_wake_8 (by omega) (fun hc8 => ?_) (fun hc8 => absurd hc8 (by decide))
  refine r_iload_n eX3_wake_17 rfl rfl ?_
  refine n_if_ge eX3_wake_18 (by omega) ?_
  refine r_iload_n eX3_wake_28 rfl rfl ?_
  refine n_bipush 99 eX3_wake_29 rfl ?_
  refine n_icmp_le eX3_wake_31 (by omega) (by omega) (fun hc31 => ?_) (fun hc31 => absurd hc31 (by omega))
  refine r_aload_n eX3_wake_41 rfl rfl ?_
  refine r_getf (v := .ref 16) eX3_wake_42 fX3_23 rfl rfl ?_
  refine r_getf (v := .ref 18) eX3_wake_45 fX3_69 rfl rfl ?_
  refine r_iload_n eX3_wake_48 rfl rfl ?_
  refine n_iald (f := tg_wakes (cg_now u)) (j := v) eX3_wake_49 rfl rfl (by omega) (by decide) ?_
  refine r_istore_n eX3_wake_50 rfl (by decide) ?_
  refine r_aload_n eX3_wake_51 rfl rfl ?_
  refine r_getf (v := .ref 16) eX3_wake_52 fX3_23 rfl rfl ?_
  refine r_getf (v := .ref 18) eX3_wake_55 fX3_69 rfl rfl ?_
  refine r_iload_n eX3_wake_58 rfl rfl ?_
  refine r_iload_n eX3_wake_59 rfl rfl ?_
  refine z_h (h' := hA t (cg_let u, cg_lc u, cg_rt u, cg_rl u, cg_ra u, cg_rf u, cg_rn u, cg_rc u, (tg_kind (cg_now u), tg_wakes (cg_now u), tg_takes (cg_now u), tg_due (cg_now u), tg_cost (cg_now u), tg_people (cg_now u), tg_door (cg_now u), tg_held (cg_now u), tg_keys (cg_now u), tg_watch (cg_now u), tg_pace (cg_now u), tg_ring (cg_now u)), cg_dra u, cg_kep u, cg_im u, cg_mp u, cg_mw u, cg_mu u, cg_mn u, cg_mi u, cg_mc u, cg_md u, cg_mo u, cg_ms u, cg_mq u, cg_se u, cg_sc u, cg_re u)) rfl ?_
  refine cw_now_wakes (j := v) (v := x) eX3_wake_60 rfl rfl (by omega) ?_
  refine r_iload_n eX3_wake_61 rfl rfl ?_
  exact z_iret eX3_wake_62 rfl rfl ⟨_, rfl, rfl, rfl⟩
set_option maxHeartbeats 1000000 in
set_option maxRecDepth 100000 in
theorem s3_walk_b {t : zMod} {u : zCls} {x : Int32} (hx : x < nI 0) : Mi mX3_walk 2 [.ref 11, .int (x)] (hA t u) (fun r h' => r = (-4) ∧ h' = hA t (cg_let u, cg_lc u, cg_rt u, cg_rl u, cg_ra u, cg_rf u, cg_rn u, cg_rc u, cg_now u, cg_dra u, cg_kep u, cg_im u, cg_mp u, cg_mw u, cg_mu u, cg_mn u, cg_mi u, cg_mc u, cg_md u, cg_mo u, cg_ms u, cg_mq u, cg_se u, cg_sc u, (va_up (cg_re u) 4 (cg_re u 4 + 1)))) := by
  refine Mi.of (by decide) rfl (Nat.le_of_ble_eq_true rfl) ?_
  refine r_iload_n eX3_walk_0 rfl rfl ?_
  refine r_if_ge eX3_walk_1 (fun hc1 => absurd hc1 (Int32.not_le.mpr hx)) (fun hc1 => ?_)
  refine r_aload_n eX3_walk_4 rfl rfl ?_
  refine r_bipush (v := (-4)) eX3_walk_5 rfl ?_
  refine r_callVi1 eX3_walk_7 lX3_46 (Or.inl ⟨_, _, _, rfl, rfl, rfl⟩) (s3_refuse (t := t) (u := u) (x := (-4)) (c := 4) (by decide) (by decide)) (by omega) (Nat.le_of_ble_eq_true rfl) (fun r1 h1 hq => ?_)
  obtain ⟨rfl, rfl⟩ := (show r1 = (-4) ∧ h1 = hA t (cg_let u, cg_lc u, cg_rt u, cg_rl u, cg_ra u, cg_rf u, cg_rn u, cg_rc u, cg_now u, cg_dra u, cg_kep u, cg_im u, cg_mp u, cg_mw u, cg_mu u, cg_mn u, cg_mi u, cg_mc u, cg_md u, cg_mo u, cg_ms u, cg_mq u, cg_se u, cg_sc u, (va_up (cg_re u) 4 ((cg_re u) 4 + 1))) from hq)
  exact z_iret eX3_walk_10 rfl rfl ⟨_, rfl, rfl, rfl⟩
set_option maxHeartbeats 1000000 in
set_option maxRecDepth 100000 in
theorem s3_walk_r {t : zMod} {u : zCls} {x : Int32} (hx0 : nI 0 ≤ x) (hx : nI 9 < x) : Mi mX3_walk 2 [.ref 11, .int (x)] (hA t u) (fun r h' => r = (-6) ∧ h' = hA t (cg_let u, cg_lc u, cg_rt u, cg_rl u, cg_ra u, cg_rf u, cg_rn u, cg_rc u, cg_now u, cg_dra u, cg_kep u, cg_im u, cg_mp u, cg_mw u, cg_mu u, cg_mn u, cg_mi u, cg_mc u, cg_md u, cg_mo u, cg_ms u, cg_mq u, cg_se u, cg_sc u, (va_up (cg_re u) 6 (cg_re u 6 + 1)))) := by
  refine Mi.of (by decide) rfl (Nat.le_of_ble_eq_true rfl) ?_
  refine r_iload_n eX3_walk_0 rfl rfl ?_
  refine r_if_ge eX3_walk_1 (fun hc1 => ?_) (fun hc1 => absurd hc1 (fun z => z hx0))
  refine r_iload_n eX3_walk_11 rfl rfl ?_
  refine n_bipush 9 eX3_walk_12 rfl ?_
  refine r_icmp_le eX3_walk_14 (fun hc14 => absurd hc14 (Int32.not_le.mpr hx)) (fun hc14 => ?_)
  refine r_aload_n eX3_walk_17 rfl rfl ?_
  refine r_bipush (v := (-6)) eX3_walk_18 rfl ?_
  refine r_callVi1 eX3_walk_20 lX3_46 (Or.inl ⟨_, _, _, rfl, rfl, rfl⟩) (s3_refuse (t := t) (u := u) (x := (-6)) (c := 6) (by decide) (by decide)) (by omega) (Nat.le_of_ble_eq_true rfl) (fun r1 h1 hq => ?_)
  obtain ⟨rfl, rfl⟩ := (show r1 = (-6) ∧ h1 = hA t (cg_let u, cg_lc u, cg_rt u, cg_rl u, cg_ra u, cg_rf u, cg_rn u, cg_rc u, cg_now u, cg_dra u, cg_kep u, cg_im u, cg_mp u, cg_mw u, cg_mu u, cg_mn u, cg_mi u, cg_mc u, cg_md u, cg_mo u, cg_ms u, cg_mq u, cg_se u, cg_sc u, (va_up (cg_re u) 6 ((cg_re u) 6 + 1))) from hq)
  exact z_iret eX3_walk_23 rfl rfl ⟨_, rfl, rfl, rfl⟩
set_option maxHeartbeats 1000000 in
set_option maxRecDepth 100000 in
theorem s3_walk_k {t : zMod} {u : zCls} {x : Nat} (hx : x ≤ 9) : Mi mX3_walk 2 [.ref 11, .int (nI (x))] (hA t u) (fun r h' => r = nI (tg_pace (cg_now u)) ∧ h' = hA t (cg_let u, cg_lc u, cg_rt u, cg_rl u, cg_ra u, cg_rf u, cg_rn u, cg_rc u, (tg_kind (cg_now u), tg_wakes (cg_now u), tg_takes (cg_now u), tg_due (cg_now u), tg_cost (cg_now u), tg_people (cg_now u), tg_door (cg_now u), tg_held (cg_now u), tg_keys (cg_now u), tg_watch (cg_now u), x, tg_ring (cg_now u)), cg_dra u, cg_kep u, cg_im u, cg_mp u, cg_mw u, cg_mu u, cg_mn u, cg_mi u, cg_mc u, cg_md u, cg_mo u, cg_ms u, cg_mq u, cg_se u, cg_sc u, cg_re u)) := by
  refine Mi.of (by decide) rfl (Nat.le_of_ble_eq_true rfl) ?_
  refine r_iload_n eX3_walk_0 rfl rfl ?_
  refine n_if_ge eX3_walk_1 (by omega) ?_
  refine r_iload_n eX3_walk_11 rfl rfl ?_
  refine n_bipush 9 eX3_walk_12 rfl ?_
  refine n_icmp_le eX3_walk_14 (by omega) (by omega) (fun hc14 => ?_) (fun hc14 => absurd hc14 (by omega))
  refine r_aload_n eX3_walk_24 rfl rfl ?_
  refine r_getf (v := .ref 16) eX3_walk_25 fX3_23 rfl rfl ?_
  refine r_getf (v := .int (nI (tg_pace (cg_now u)))) eX3_walk_28 fX3_114 rfl rfl ?_
  refine r_istore_n eX3_walk_31 rfl (by decide) ?_
  refine r_aload_n eX3_walk_32 rfl rfl ?_
  refine r_getf (v := .ref 16) eX3_walk_33 fX3_23 rfl rfl ?_
  refine r_iload_n eX3_walk_36 rfl rfl ?_
  refine z_h (h' := hA t (cg_let u, cg_lc u, cg_rt u, cg_rl u, cg_ra u, cg_rf u, cg_rn u, cg_rc u, (tg_kind (cg_now u), tg_wakes (cg_now u), tg_takes (cg_now u), tg_due (cg_now u), tg_cost (cg_now u), tg_people (cg_now u), tg_door (cg_now u), tg_held (cg_now u), tg_keys (cg_now u), tg_watch (cg_now u), tg_pace (cg_now u), tg_ring (cg_now u)), cg_dra u, cg_kep u, cg_im u, cg_mp u, cg_mw u, cg_mu u, cg_mn u, cg_mi u, cg_mc u, cg_md u, cg_mo u, cg_ms u, cg_mq u, cg_se u, cg_sc u, cg_re u)) rfl ?_
  refine cp_now_pace (v := x) eX3_walk_37 fX3_114 rfl ?_
  refine r_iload_n eX3_walk_40 rfl rfl ?_
  exact z_iret eX3_walk_41 rfl rfl ⟨_, rfl, rfl, rfl⟩
set_option maxHeartbeats 1000000 in
set_option maxRecDepth 100000 in
theorem s3_image {t : zMod} {u : zCls} (ho : tOk (cg_now u)) : Mi mX3_image 4 [.ref 11] (hA t u) (fun r h' => r = nI (tg_people (cg_now u)) ∧ h' = hA t (cg_let u, cg_lc u, cg_rt u, cg_rl u, cg_ra u, cg_rf u, cg_rn u, cg_rc u, cg_now u, cg_dra u, (zbec (cg_now u) (cg_kep u)), 1, cg_mp u, cg_mw u, cg_mu u, cg_mn u, cg_mi u, cg_mc u, cg_md u, cg_mo u, cg_ms u, cg_mq u, cg_se u, cg_sc u, cg_re u)) := by
  obtain ⟨hp7, hk12, hpc, hwt, hrg, hpp⟩ := id ho
  have hpw : 2 ^ tg_people (cg_now u) ≤ 2 ^ 7 := Nat.pow_le_pow_right (by omega) hp7
  refine Mi.of (by decide) rfl (Nat.le_of_ble_eq_true rfl) ?_
  refine r_aload_n eX3_image_0 rfl rfl ?_
  refine r_getf (v := .ref 32) eX3_image_1 fX3_30 rfl rfl ?_
  refine r_aload_n eX3_image_4 rfl rfl ?_
  refine r_getf (v := .ref 16) eX3_image_5 fX3_23 rfl rfl ?_
  refine r_callVv1 eX3_image_8 lX3_54 (Or.inl ⟨_, _, _, rfl, rfl, rfl⟩) (s2_become_kep_now (t := t) (u := u) hrg) (by omega) (Nat.le_of_ble_eq_true rfl) (fun h1 hq => ?_)
  obtain rfl := (show h1 = hA t (cg_let u, cg_lc u, cg_rt u, cg_rl u, cg_ra u, cg_rf u, cg_rn u, cg_rc u, cg_now u, cg_dra u, (zbec (cg_now u) (cg_kep u)), cg_im u, cg_mp u, cg_mw u, cg_mu u, cg_mn u, cg_mi u, cg_mc u, cg_md u, cg_mo u, cg_ms u, cg_mq u, cg_se u, cg_sc u, cg_re u) from hq)
  refine r_aload_n eX3_image_11 rfl rfl ?_
  refine n_iconst 1 eX3_image_12 rfl ?_
  refine cp_im (v := 1) eX3_image_13 fX3_213 rfl (by omega) ?_
  refine r_aload_n eX3_image_16 rfl rfl ?_
  refine r_getf (v := .ref 32) eX3_image_17 fX3_30 rfl rfl ?_
  refine r_getf (v := .int (nI (tg_people ((zbec (cg_now u) (cg_kep u)))))) eX3_image_20 fX3_130 rfl rfl ?_
  exact z_iret eX3_image_23 rfl rfl ⟨_, rfl, rfl, rfl⟩
set_option maxHeartbeats 1000000 in
set_option maxRecDepth 100000 in
theorem s3_on_n {t : zMod} {u : zCls} (hi : cg_im u = 0) : Mi mX3_on 4 [.ref 11] (hA t u) (fun r h' => r = (-3) ∧ h' = hA t (cg_let u, cg_lc u, cg_rt u, cg_rl u, cg_ra u, cg_rf u, cg_rn u, cg_rc u, cg_now u, cg_dra u, cg_kep u, cg_im u, cg_mp u, cg_mw u, cg_mu u, cg_mn u, cg_mi u, cg_mc u, cg_md u, cg_mo u, cg_ms u, cg_mq u, cg_se u, cg_sc u, (va_up (cg_re u) 3 (cg_re u 3 + 1)))) := by
  refine Mi.of (by decide) rfl (Nat.le_of_ble_eq_true rfl) ?_
  refine r_aload_n eX3_on_0 rfl rfl ?_
  refine r_getf (v := .int (nI (cg_im u))) eX3_on_1 fX3_213 rfl rfl ?_
  refine n_if_ne eX3_on_4 (by omega) (fun hc4 => absurd hc4 (by omega)) (fun hc4 => ?_)
  refine r_aload_n eX3_on_7 rfl rfl ?_
  refine r_bipush (v := (-3)) eX3_on_8 rfl ?_
  refine r_callVi1 eX3_on_10 lX3_46 (Or.inl ⟨_, _, _, rfl, rfl, rfl⟩) (s3_refuse (t := t) (u := u) (x := (-3)) (c := 3) (by decide) (by decide)) (by omega) (Nat.le_of_ble_eq_true rfl) (fun r1 h1 hq => ?_)
  obtain ⟨rfl, rfl⟩ := (show r1 = (-3) ∧ h1 = hA t (cg_let u, cg_lc u, cg_rt u, cg_rl u, cg_ra u, cg_rf u, cg_rn u, cg_rc u, cg_now u, cg_dra u, cg_kep u, cg_im u, cg_mp u, cg_mw u, cg_mu u, cg_mn u, cg_mi u, cg_mc u, cg_md u, cg_mo u, cg_ms u, cg_mq u, cg_se u, cg_sc u, (va_up (cg_re u) 3 ((cg_re u) 3 + 1))) from hq)
  exact z_iret eX3_on_13 rfl rfl ⟨_, rfl, rfl, rfl⟩
set_option maxHeartbeats 1000000 in
set_option maxRecDepth 100000 in
theorem s3_on_k {t : zMod} {u : zCls} (hi : cg_im u = 1) (hr : tg_ring (cg_kep u) ≤ 1) : Mi mX3_on 4 [.ref 11] (hA t u) (fun r h' => r = nI (tg_people (cg_kep u)) ∧ h' = hA t (cg_let u, cg_lc u, cg_rt u, cg_rl u, cg_ra u, cg_rf u, cg_rn u, cg_rc u, (zbec (cg_kep u) (cg_now u)), cg_dra u, cg_kep u, cg_im u, cg_mp u, cg_mw u, cg_mu u, cg_mn u, cg_mi u, cg_mc u, cg_md u, cg_mo u, cg_ms u, cg_mq u, cg_se u, cg_sc u, cg_re u)) := by
  refine Mi.of (by decide) rfl (Nat.le_of_ble_eq_true rfl) ?_
  refine r_aload_n eX3_on_0 rfl rfl ?_
  refine r_getf (v := .int (nI (cg_im u))) eX3_on_1 fX3_213 rfl rfl ?_
  refine n_if_ne eX3_on_4 (by omega) (fun hc4 => ?_) (fun hc4 => absurd hc4 (by omega))
  refine r_aload_n eX3_on_14 rfl rfl ?_
  refine r_getf (v := .ref 16) eX3_on_15 fX3_23 rfl rfl ?_
  refine r_aload_n eX3_on_18 rfl rfl ?_
  refine r_getf (v := .ref 32) eX3_on_19 fX3_30 rfl rfl ?_
  refine r_callVv1 eX3_on_22 lX3_54 (Or.inl ⟨_, _, _, rfl, rfl, rfl⟩) (s2_become_now_kep (t := t) (u := u) hr) (by omega) (Nat.le_of_ble_eq_true rfl) (fun h1 hq => ?_)
  obtain rfl := (show h1 = hA t (cg_let u, cg_lc u, cg_rt u, cg_rl u, cg_ra u, cg_rf u, cg_rn u, cg_rc u, (zbec (cg_kep u) (cg_now u)), cg_dra u, cg_kep u, cg_im u, cg_mp u, cg_mw u, cg_mu u, cg_mn u, cg_mi u, cg_mc u, cg_md u, cg_mo u, cg_ms u, cg_mq u, cg_se u, cg_sc u, cg_re u) from hq)
  refine r_aload_n eX3_on_25 rfl rfl ?_
  refine r_getf (v := .ref 16) eX3_on_26 fX3_23 rfl rfl ?_
  refine r_getf (v := .int (nI (tg_people ((zbec (cg_kep u) (cg_now u)))))) eX3_on_29 fX3_130 rfl rfl ?_
  exact z_iret eX3_on_32 rfl rfl ⟨_, rfl, rfl, rfl⟩
set_option maxHeartbeats 1000000 in
set_option maxRecDepth 100000 in
theorem s3_count_0 {t : zMod} {u : zCls} (ho : tOk (cg_now u)) : Mi mX3_count 2 [.ref 11, .int (nI (0))] (hA t u) (fun r h' => r = nI (tg_people (cg_now u)) ∧ h' = hA t u) := by
  obtain ⟨hp7, hk12, hpc, hwt, hrg, hpp⟩ := id ho
  have hpw : 2 ^ tg_people (cg_now u) ≤ 2 ^ 7 := Nat.pow_le_pow_right (by omega) hp7
  refine Mi.of (by decide) rfl (Nat.le_of_ble_eq_true rfl) ?_
  refine r_iload_n eX3_count_0 rfl rfl ?_
  refine r_tabIn (off := 43) (tgt := 44) eX3_count_1 (by decide) (by decide) (by decide) (by decide) ?_
  refine r_aload_n eX3_count_44 rfl rfl ?_
  refine r_getf (v := .ref 16) eX3_count_45 fX3_23 rfl rfl ?_
  refine r_getf (v := .int (nI (tg_people (cg_now u)))) eX3_count_48 fX3_130 rfl rfl ?_
  exact z_iret eX3_count_51 rfl rfl ⟨_, rfl, rfl, rfl⟩
set_option maxHeartbeats 1000000 in
set_option maxRecDepth 100000 in
theorem s3_count_1 {t : zMod} {u : zCls} (ho : tOk (cg_now u)) : Mi mX3_count 2 [.ref 11, .int (nI (1))] (hA t u) (fun r h' => r = nI (tg_keys (cg_now u)) ∧ h' = hA t u) := by
  obtain ⟨hp7, hk12, hpc, hwt, hrg, hpp⟩ := id ho
  have hpw : 2 ^ tg_people (cg_now u) ≤ 2 ^ 7 := Nat.pow_le_pow_right (by omega) hp7
  refine Mi.of (by decide) rfl (Nat.le_of_ble_eq_true rfl) ?_
  refine r_iload_n eX3_count_0 rfl rfl ?_
  refine r_tabIn (off := 51) (tgt := 52) eX3_count_1 (by decide) (by decide) (by decide) (by decide) ?_
  refine r_aload_n eX3_count_52 rfl rfl ?_
  refine r_getf (v := .ref 16) eX3_count_53 fX3_23 rfl rfl ?_
  refine r_getf (v := .int (nI (tg_keys (cg_now u)))) eX3_count_56 fX3_103 rfl rfl ?_
  exact z_iret eX3_count_59 rfl rfl ⟨_, rfl, rfl, rfl⟩
set_option maxHeartbeats 1000000 in
set_option maxRecDepth 100000 in
theorem s3_count_2 {t : zMod} {u : zCls} (ho : tOk (cg_now u)) : Mi mX3_count 2 [.ref 11, .int (nI (2))] (hA t u) (fun r h' => r = nI (tg_watch (cg_now u)) ∧ h' = hA t u) := by
  obtain ⟨hp7, hk12, hpc, hwt, hrg, hpp⟩ := id ho
  have hpw : 2 ^ tg_people (cg_now u) ≤ 2 ^ 7 := Nat.pow_le_pow_right (by omega) hp7
  refine Mi.of (by decide) rfl (Nat.le_of_ble_eq_true rfl) ?_
  refine r_iload_n eX3_count_0 rfl rfl ?_
  refine r_tabIn (off := 59) (tgt := 60) eX3_count_1 (by decide) (by decide) (by decide) (by decide) ?_
  refine r_aload_n eX3_count_60 rfl rfl ?_
  refine r_getf (v := .ref 16) eX3_count_61 fX3_23 rfl rfl ?_
  refine r_getf (v := .int (nI (tg_watch (cg_now u)))) eX3_count_64 fX3_87 rfl rfl ?_
  exact z_iret eX3_count_67 rfl rfl ⟨_, rfl, rfl, rfl⟩
set_option maxHeartbeats 1000000 in
set_option maxRecDepth 100000 in
theorem s3_count_3 {t : zMod} {u : zCls} (ho : tOk (cg_now u)) : Mi mX3_count 2 [.ref 11, .int (nI (3))] (hA t u) (fun r h' => r = nI (tg_pace (cg_now u)) ∧ h' = hA t u) := by
  obtain ⟨hp7, hk12, hpc, hwt, hrg, hpp⟩ := id ho
  have hpw : 2 ^ tg_people (cg_now u) ≤ 2 ^ 7 := Nat.pow_le_pow_right (by omega) hp7
  refine Mi.of (by decide) rfl (Nat.le_of_ble_eq_true rfl) ?_
  refine r_iload_n eX3_count_0 rfl rfl ?_
  refine r_tabIn (off := 67) (tgt := 68) eX3_count_1 (by decide) (by decide) (by decide) (by decide) ?_
  refine r_aload_n eX3_count_68 rfl rfl ?_
  refine r_getf (v := .ref 16) eX3_count_69 fX3_23 rfl rfl ?_
  refine r_getf (v := .int (nI (tg_pace (cg_now u)))) eX3_count_72 fX3_114 rfl rfl ?_
  exact z_iret eX3_count_75 rfl rfl ⟨_, rfl, rfl, rfl⟩
set_option maxHeartbeats 1000000 in
set_option maxRecDepth 100000 in
theorem s3_count_4 {t : zMod} {u : zCls} (ho : tOk (cg_now u)) : Mi mX3_count 2 [.ref 11, .int (nI (4))] (hA t u) (fun r h' => r = nI (tg_ring (cg_now u)) ∧ h' = hA t u) := by
  obtain ⟨hp7, hk12, hpc, hwt, hrg, hpp⟩ := id ho
  have hpw : 2 ^ tg_people (cg_now u) ≤ 2 ^ 7 := Nat.pow_le_pow_right (by omega) hp7
  refine Mi.of (by decide) rfl (Nat.le_of_ble_eq_true rfl) ?_
  refine r_iload_n eX3_count_0 rfl rfl ?_
  refine r_tabIn (off := 75) (tgt := 76) eX3_count_1 (by decide) (by decide) (by decide) (by decide) ?_
  refine r_aload_n eX3_count_76 rfl rfl ?_
  refine r_getf (v := .ref 16) eX3_count_77 fX3_23 rfl rfl ?_
  refine r_getf (v := .int (nI (tg_ring (cg_now u)))) eX3_count_80 fX3_217 rfl rfl ?_
  refine n_if_eq eX3_count_83 (by omega) (fun hc83 => ?_) (fun hc83 => ?_)
  · refine n_iconst 0 eX3_count_90 rfl ?_
    rw [show tg_ring (cg_now u) = 0 by omega]
    exact z_iret eX3_count_91 rfl rfl ⟨_, rfl, rfl, rfl⟩
  · refine n_iconst 1 eX3_count_86 rfl ?_
    refine r_goto eX3_count_87 ?_
    rw [show tg_ring (cg_now u) = 1 by omega]
    exact z_iret eX3_count_91 rfl rfl ⟨_, rfl, rfl, rfl⟩
set_option maxHeartbeats 1000000 in
set_option maxRecDepth 100000 in
theorem s3_count_5 {t : zMod} {u : zCls} (ho : tOk (cg_now u)) : Mi mX3_count 2 [.ref 11, .int (nI (5))] (hA t u) (fun r h' => r = nI (cg_sc u) ∧ h' = hA t u) := by
  obtain ⟨hp7, hk12, hpc, hwt, hrg, hpp⟩ := id ho
  have hpw : 2 ^ tg_people (cg_now u) ≤ 2 ^ 7 := Nat.pow_le_pow_right (by omega) hp7
  refine Mi.of (by decide) rfl (Nat.le_of_ble_eq_true rfl) ?_
  refine r_iload_n eX3_count_0 rfl rfl ?_
  refine r_tabIn (off := 91) (tgt := 92) eX3_count_1 (by decide) (by decide) (by decide) (by decide) ?_
  refine r_aload_n eX3_count_92 rfl rfl ?_
  refine r_getf (v := .int (nI (cg_sc u))) eX3_count_93 fX3_201 rfl rfl ?_
  exact z_iret eX3_count_96 rfl rfl ⟨_, rfl, rfl, rfl⟩
set_option maxHeartbeats 1000000 in
set_option maxRecDepth 100000 in
theorem s3_count_6 {t : zMod} {u : zCls} (ho : tOk (cg_now u)) : Mi mX3_count 2 [.ref 11, .int (nI (6))] (hA t u) (fun r h' => r = nI (cg_lc u) ∧ h' = hA t u) := by
  obtain ⟨hp7, hk12, hpc, hwt, hrg, hpp⟩ := id ho
  have hpw : 2 ^ tg_people (cg_now u) ≤ 2 ^ 7 := Nat.pow_le_pow_right (by omega) hp7
  refine Mi.of (by decide) rfl (Nat.le_of_ble_eq_true rfl) ?_
  refine r_iload_n eX3_count_0 rfl rfl ?_
  refine r_tabIn (off := 96) (tgt := 97) eX3_count_1 (by decide) (by decide) (by decide) (by decide) ?_
  refine r_aload_n eX3_count_97 rfl rfl ?_
  refine r_getf (v := .int (nI (cg_lc u))) eX3_count_98 fX3_50 rfl rfl ?_
  exact z_iret eX3_count_101 rfl rfl ⟨_, rfl, rfl, rfl⟩
set_option maxHeartbeats 1000000 in
set_option maxRecDepth 100000 in
theorem s3_count_11 {t : zMod} {u : zCls} : Mi mX3_count 2 [.ref 11, .int (nI (11))] (hA t u) (fun r h' => r = nI (cg_re u (11 - 10)) ∧ h' = hA t u) := by
  refine Mi.of (by decide) rfl (Nat.le_of_ble_eq_true rfl) ?_
  refine r_iload_n eX3_count_0 rfl rfl ?_
  refine r_tabOut (tgt := 102) eX3_count_1 (Or.inr (by decide)) (by decide) ?_
  refine r_iload_n eX3_count_102 rfl rfl ?_
  refine n_bipush 11 eX3_count_103 rfl ?_
  refine n_icmp_lt eX3_count_105 (by first | omega | exact zlt (hs _) | exact hou _ | exact hop _) (by first | omega | exact zlt (hs _) | exact hou _ | exact hop _) (fun hc105 => absurd hc105 (by decide)) (fun hc105 => ?_)
  refine r_iload_n eX3_count_108 rfl rfl ?_
  refine n_bipush 16 eX3_count_109 rfl ?_
  refine n_icmp_gt eX3_count_111 (by first | omega | exact zlt (hs _) | exact hou _ | exact hop _) (by first | omega | exact zlt (hs _) | exact hou _ | exact hop _) (fun hc111 => absurd hc111 (by decide)) (fun hc111 => ?_)
  refine r_aload_n eX3_count_114 rfl rfl ?_
  refine r_getf (v := .ref 58) eX3_count_115 fX3_43 rfl rfl ?_
  refine r_iload_n eX3_count_118 rfl rfl ?_
  refine n_bipush 10 eX3_count_119 rfl ?_
  refine n_sub eX3_count_121 (by first | omega | exact zlt (hs _) | exact hou _ | exact hop _) ?_
  refine n_iald (f := cg_re u) (j := 11 - 10) eX3_count_122 rfl rfl (by first | omega | exact zlt (hs _) | exact hou _ | exact hop _) (by decide) ?_
  refine r_goto eX3_count_123 ?_
  exact z_iret eX3_count_128 rfl rfl ⟨_, rfl, rfl, rfl⟩
set_option maxHeartbeats 1000000 in
set_option maxRecDepth 100000 in
theorem s3_count_12 {t : zMod} {u : zCls} : Mi mX3_count 2 [.ref 11, .int (nI (12))] (hA t u) (fun r h' => r = nI (cg_re u (12 - 10)) ∧ h' = hA t u) := by
  refine Mi.of (by decide) rfl (Nat.le_of_ble_eq_true rfl) ?_
  refine r_iload_n eX3_count_0 rfl rfl ?_
  refine r_tabOut (tgt := 102) eX3_count_1 (Or.inr (by decide)) (by decide) ?_
  refine r_iload_n eX3_count_102 rfl rfl ?_
  refine n_bipush 11 eX3_count_103 rfl ?_
  refine n_icmp_lt eX3_count_105 (by first | omega | exact zlt (hs _) | exact hou _ | exact hop _) (by first | omega | exact zlt (hs _) | exact hou _ | exact hop _) (fun hc105 => absurd hc105 (by decide)) (fun hc105 => ?_)
  refine r_iload_n eX3_count_108 rfl rfl ?_
  refine n_bipush 16 eX3_count_109 rfl ?_
  refine n_icmp_gt eX3_count_111 (by first | omega | exact zlt (hs _) | exact hou _ | exact hop _) (by first | omega | exact zlt (hs _) | exact hou _ | exact hop _) (fun hc111 => absurd hc111 (by decide)) (fun hc111 => ?_)
  refine r_aload_n eX3_count_114 rfl rfl ?_
  refine r_getf (v := .ref 58) eX3_count_115 fX3_43 rfl rfl ?_
  refine r_iload_n eX3_count_118 rfl rfl ?_
  refine n_bipush 10 eX3_count_119 rfl ?_
  refine n_sub eX3_count_121 (by first | omega | exact zlt (hs _) | exact hou _ | exact hop _) ?_
  refine n_iald (f := cg_re u) (j := 12 - 10) eX3_count_122 rfl rfl (by first | omega | exact zlt (hs _) | exact hou _ | exact hop _) (by decide) ?_
  refine r_goto eX3_count_123 ?_
  exact z_iret eX3_count_128 rfl rfl ⟨_, rfl, rfl, rfl⟩
set_option maxHeartbeats 1000000 in
set_option maxRecDepth 100000 in
theorem s3_count_13 {t : zMod} {u : zCls} : Mi mX3_count 2 [.ref 11, .int (nI (13))] (hA t u) (fun r h' => r = nI (cg_re u (13 - 10)) ∧ h' = hA t u) := by
  refine Mi.of (by decide) rfl (Nat.le_of_ble_eq_true rfl) ?_
  refine r_iload_n eX3_count_0 rfl rfl ?_
  refine r_tabOut (tgt := 102) eX3_count_1 (Or.inr (by decide)) (by decide) ?_
  refine r_iload_n eX3_count_102 rfl rfl ?_
  refine n_bipush 11 eX3_count_103 rfl ?_
  refine n_icmp_lt eX3_count_105 (by first | omega | exact zlt (hs _) | exact hou _ | exact hop _) (by first | omega | exact zlt (hs _) | exact hou _ | exact hop _) (fun hc105 => absurd hc105 (by decide)) (fun hc105 => ?_)
  refine r_iload_n eX3_count_108 rfl rfl ?_
  refine n_bipush 16 eX3_count_109 rfl ?_
  refine n_icmp_gt eX3_count_111 (by first | omega | exact zlt (hs _) | exact hou _ | exact hop _) (by first | omega | exact zlt (hs _) | exact hou _ | exact hop _) (fun hc111 => absurd hc111 (by decide)) (fun hc111 => ?_)
  refine r_aload_n eX3_count_114 rfl rfl ?_
  refine r_getf (v := .ref 58) eX3_count_115 fX3_43 rfl rfl ?_
  refine r_iload_n eX3_count_118 rfl rfl ?_
  refine n_bipush 10 eX3_count_119 rfl ?_
  refine n_sub eX3_count_121 (by first | omega | exact zlt (hs _) | exact hou _ | exact hop _) ?_
  refine n_iald (f := cg_re u) (j := 13 - 10) eX3_count_122 rfl rfl (by first | omega | exact zlt (hs _) | exact hou _ | exact hop _) (by decide) ?_
  refine r_goto eX3_count_123 ?_
  exact z_iret eX3_count_128 rfl rfl ⟨_, rfl, rfl, rfl⟩
set_option maxHeartbeats 1000000 in
set_option maxRecDepth 100000 in
theorem s3_count_14 {t : zMod} {u : zCls} : Mi mX3_count 2 [.ref 11, .int (nI (14))] (hA t u) (fun r h' => r = nI (cg_re u (14 - 10)) ∧ h' = hA t u) := by
  refine Mi.of (by decide) rfl (Nat.le_of_ble_eq_true rfl) ?_
  refine r_iload_n eX3_count_0 rfl rfl ?_
  refine r_tabOut (tgt := 102) eX3_count_1 (Or.inr (by decide)) (by decide) ?_
  refine r_iload_n eX3_count_102 rfl rfl ?_
  refine n_bipush 11 eX3_count_103 rfl ?_
  refine n_icmp_lt eX3_count_105 (by first | omega | exact zlt (hs _) | exact hou _ | exact hop _) (by first | omega | exact zlt (hs _) | exact hou _ | exact hop _) (fun hc105 => absurd hc105 (by decide)) (fun hc105 => ?_)
  refine r_iload_n eX3_count_108 rfl rfl ?_
  refine n_bipush 16 eX3_count_109 rfl ?_
  refine n_icmp_gt eX3_count_111 (by first | omega | exact zlt (hs _) | exact hou _ | exact hop _) (by first | omega | exact zlt (hs _) | exact hou _ | exact hop _) (fun hc111 => absurd hc111 (by decide)) (fun hc111 => ?_)
  refine r_aload_n eX3_count_114 rfl rfl ?_
  refine r_getf (v := .ref 58) eX3_count_115 fX3_43 rfl rfl ?_
  refine r_iload_n eX3_count_118 rfl rfl ?_
  refine n_bipush 10 eX3_count_119 rfl ?_
  refine n_sub eX3_count_121 (by first | omega | exact zlt (hs _) | exact hou _ | exact hop _) ?_
  refine n_iald (f := cg_re u) (j := 14 - 10) eX3_count_122 rfl rfl (by first | omega | exact zlt (hs _) | exact hou _ | exact hop _) (by decide) ?_
  refine r_goto eX3_count_123 ?_
  exact z_iret eX3_count_128 rfl rfl ⟨_, rfl, rfl, rfl⟩
set_option maxHeartbeats 1000000 in
set_option maxRecDepth 100000 in
theorem s3_count_15 {t : zMod} {u : zCls} : Mi mX3_count 2 [.ref 11, .int (nI (15))] (hA t u) (fun r h' => r = nI (cg_re u (15 - 10)) ∧ h' = hA t u) := by
  refine Mi.of (by decide) rfl (Nat.le_of_ble_eq_true rfl) ?_
  refine r_iload_n eX3_count_0 rfl rfl ?_
  refine r_tabOut (tgt := 102) eX3_count_1 (Or.inr (by decide)) (by decide) ?_
  refine r_iload_n eX3_count_102 rfl rfl ?_
  refine n_bipush 11 eX3_count_103 rfl ?_
  refine n_icmp_lt eX3_count_105 (by first | omega | exact zlt (hs _) | exact hou _ | exact hop _) (by first | omega | exact zlt (hs _) | exact hou _ | exact hop _) (fun hc105 => absurd hc105 (by decide)) (fun hc105 => ?_)
  refine r_iload_n eX3_count_108 rfl rfl ?_
  refine n_bipush 16 eX3_count_109 rfl ?_
  refine n_icmp_gt eX3_count_111 (by first | omega | exact zlt (hs _) | exact hou _ | exact hop _) (by first | omega | exact zlt (hs _) | exact hou _ | exact hop _) (fun hc111 => absurd hc111 (by decide)) (fun hc111 => ?_)
  refine r_aload_n eX3_count_114 rfl rfl ?_
  refine r_getf (v := .ref 58) eX3_count_115 fX3_43 rfl rfl ?_
  refine r_iload_n eX3_count_118 rfl rfl ?_
  refine n_bipush 10 eX3_count_119 rfl ?_
  refine n_sub eX3_count_121 (by first | omega | exact zlt (hs _) | exact hou _ | exact hop _) ?_
  refine n_iald (f := cg_re u) (j := 15 - 10) eX3_count_122 rfl rfl (by first | omega | exact zlt (hs _) | exact hou _ | exact hop _) (by decide) ?_
  refine r_goto eX3_count_123 ?_
  exact z_iret eX3_count_128 rfl rfl ⟨_, rfl, rfl, rfl⟩
set_option maxHeartbeats 1000000 in
set_option maxRecDepth 100000 in
theorem s3_count_16 {t : zMod} {u : zCls} : Mi mX3_count 2 [.ref 11, .int (nI (16))] (hA t u) (fun r h' => r = nI (cg_re u (16 - 10)) ∧ h' = hA t u) := by
  refine Mi.of (by decide) rfl (Nat.le_of_ble_eq_true rfl) ?_
  refine r_iload_n eX3_count_0 rfl rfl ?_
  refine r_tabOut (tgt := 102) eX3_count_1 (Or.inr (by decide)) (by decide) ?_
  refine r_iload_n eX3_count_102 rfl rfl ?_
  refine n_bipush 11 eX3_count_103 rfl ?_
  refine n_icmp_lt eX3_count_105 (by first | omega | exact zlt (hs _) | exact hou _ | exact hop _) (by first | omega | exact zlt (hs _) | exact hou _ | exact hop _) (fun hc105 => absurd hc105 (by decide)) (fun hc105 => ?_)
  refine r_iload_n eX3_count_108 rfl rfl ?_
  refine n_bipush 16 eX3_count_109 rfl ?_
  refine n_icmp_gt eX3_count_111 (by first | omega | exact zlt (hs _) | exact hou _ | exact hop _) (by first | omega | exact zlt (hs _) | exact hou _ | exact hop _) (fun hc111 => absurd hc111 (by decide)) (fun hc111 => ?_)
  refine r_aload_n eX3_count_114 rfl rfl ?_
  refine r_getf (v := .ref 58) eX3_count_115 fX3_43 rfl rfl ?_
  refine r_iload_n eX3_count_118 rfl rfl ?_
  refine n_bipush 10 eX3_count_119 rfl ?_
  refine n_sub eX3_count_121 (by first | omega | exact zlt (hs _) | exact hou _ | exact hop _) ?_
  refine n_iald (f := cg_re u) (j := 16 - 10) eX3_count_122 rfl rfl (by first | omega | exact zlt (hs _) | exact hou _ | exact hop _) (by decide) ?_
  refine r_goto eX3_count_123 ?_
  exact z_iret eX3_count_128 rfl rfl ⟨_, rfl, rfl, rfl⟩
set_option maxHeartbeats 1000000 in
set_option maxRecDepth 100000 in
theorem s3_count_o {t : zMod} {u : zCls} {x : Int32} (h1 : x ≤ nI 10 ∨ nI 17 ≤ x) (h2 : x.toInt < 0 ∨ 6 < x.toInt) : Mi mX3_count 2 [.ref 11, .int (x)] (hA t u) (fun r h' => r = (-9) ∧ h' = hA t u) := by
  refine Mi.of (by decide) rfl (Nat.le_of_ble_eq_true rfl) ?_
  refine r_iload_n eX3_count_0 rfl rfl ?_
  refine r_tabOut (tgt := 102) eX3_count_1 h2 (by decide) ?_
  refine r_iload_n eX3_count_102 rfl rfl ?_
  refine n_bipush 11 eX3_count_103 rfl ?_
  refine r_icmp_lt eX3_count_105 (fun hc105 => ?_) (fun hc105 => ?_)
  · refine r_bipush (v := (-9)) eX3_count_126 rfl ?_
    exact z_iret eX3_count_128 rfl rfl ⟨_, rfl, rfl, rfl⟩
  · refine r_iload_n eX3_count_108 rfl rfl ?_
    refine n_bipush 16 eX3_count_109 rfl ?_
    refine r_icmp_gt eX3_count_111 (fun hc111 => ?_) (fun hc111 => absurd hc111 (fun z => z (zc17 (h1.resolve_left (fun y => hc105 (zc10 y))))))
    refine r_bipush (v := (-9)) eX3_count_126 rfl ?_
    exact z_iret eX3_count_128 rfl rfl ⟨_, rfl, rfl, rfl⟩
