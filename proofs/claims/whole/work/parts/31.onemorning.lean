/-! THE CLASS: what stands on one morning -/
set_option maxHeartbeats 1000000 in
set_option maxRecDepth 100000 in
theorem s3_out_n {t : zMod} {u : zCls} {v : Int32} (hv : v < 0 ∨ nI (tg_people (cg_now u)) ≤ v) : Mi mX3_out 7 [.ref 11, .int (v)] (hA t u) (fun r h' => r = (-1) ∧ h' = hA t (cg_let u, cg_lc u, cg_rt u, cg_rl u, cg_ra u, cg_rf u, cg_rn u, cg_rc u, cg_now u, cg_dra u, cg_kep u, cg_im u, cg_mp u, cg_mw u, cg_mu u, cg_mn u, cg_mi u, cg_mc u, cg_md u, cg_mo u, cg_ms u, cg_mq u, cg_se u, cg_sc u, (va_up (cg_re u) 1 (cg_re u 1 + 1)))) := by
  refine Mi.of (by decide) rfl (Nat.le_of_ble_eq_true rfl) ?_
  refine r_aload_n eX3_out_0 rfl rfl ?_
  refine r_getf (v := .ref 16) eX3_out_1 fX3_23 rfl rfl ?_
  refine r_iload_n eX3_out_4 rfl rfl ?_
  refine r_callVi1 eX3_out_5 lX3_62 (Or.inl ⟨_, _, _, rfl, rfl, rfl⟩) (s2_hasPerson_n_now (t := t) (u := u) hv) (by omega) (Nat.le_of_ble_eq_true rfl) (fun r1 h1 hq => ?_)
  obtain ⟨rfl, rfl⟩ := (show r1 = nI (0) ∧ h1 = hA t u from hq)
  refine n_if_ne eX3_out_8 (by first | omega | exact zlt (hs _) | exact hou _ | exact hop _) (fun hc8 => absurd hc8 (by decide)) (fun hc8 => ?_)
  refine r_aload_n eX3_out_11 rfl rfl ?_
  refine r_iconst (v := (-1)) eX3_out_12 rfl ?_
  refine r_callVi1 eX3_out_13 lX3_46 (Or.inl ⟨_, _, _, rfl, rfl, rfl⟩) (s3_refuse (t := t) (u := u) (x := (-1)) (c := 1) (by decide) (by decide)) (by omega) (Nat.le_of_ble_eq_true rfl) (fun r1 h1 hq => ?_)
  obtain ⟨rfl, rfl⟩ := (show r1 = (-1) ∧ h1 = hA t (cg_let u, cg_lc u, cg_rt u, cg_rl u, cg_ra u, cg_rf u, cg_rn u, cg_rc u, cg_now u, cg_dra u, cg_kep u, cg_im u, cg_mp u, cg_mw u, cg_mu u, cg_mn u, cg_mi u, cg_mc u, cg_md u, cg_mo u, cg_ms u, cg_mq u, cg_se u, cg_sc u, (va_up (cg_re u) 1 ((cg_re u) 1 + 1))) from hq)
  exact z_iret eX3_out_16 rfl rfl ⟨_, rfl, rfl, rfl⟩
set_option maxHeartbeats 1000000 in
set_option maxRecDepth 100000 in
theorem s3_out_y {t : zMod} {u : zCls} {T : zTown} (hc : cT (cg_now u) T) (hms : ∀ i, cg_ms u i ≤ 2147483647) {v : Nat} (hv : v < tg_people T) : Mi mX3_out 7 [.ref 11, .int (nI (v))] (hA t u) (fun r h' => ∃ (M' : zMp) (R' : zMr), h' = hA t (cg_let u, cg_lc u, cg_rt u, cg_rl u, cg_ra u, cg_rf u, cg_rn u, cg_rc u, cg_now u, cg_dra u, cg_kep u, cg_im u, (pg_mp M'), (pg_mw M'), (pg_mu M'), (pg_mn M'), (pg_mi M'), (pg_mc M'), (pg_md M'), (qg_mo R'), (qg_ms R'), (qg_mq R'), cg_se u, cg_sc u, cg_re u) ∧ r = zon 1000000 (tO T 0 0 v) ∧ (∀ i, qg_ms R' i ≤ 2147483647)) := by
  obtain ⟨he, hT, hty, hk10⟩ := id hc
  have h7 := hT.1
  have hpw9 : 2 ^ tg_people T ≤ 2 ^ 7 := Nat.pow_le_pow_right (by omega) h7
  have ho := he.ok hT
  obtain ⟨he1, he2, he3, he4, he5, he6, he7⟩ := id he
  have hwt9 := hT.2.2.2.1
  have hv9 : v < tg_people (cg_now u) := by omega
  refine Mi.of (by decide) rfl (Nat.le_of_ble_eq_true rfl) ?_
  refine r_aload_n eX3_out_0 rfl rfl ?_
  refine r_getf (v := .ref 16) eX3_out_1 fX3_23 rfl rfl ?_
  refine r_iload_n eX3_out_4 rfl rfl ?_
  refine r_callVi1 eX3_out_5 lX3_62 (Or.inl ⟨_, _, _, rfl, rfl, rfl⟩) (s2_hasPerson_y_now (t := t) (u := u) ho hv9) (by omega) (Nat.le_of_ble_eq_true rfl) (fun r1 h1 hq => ?_)
  obtain ⟨rfl, rfl⟩ := (show r1 = nI (1) ∧ h1 = hA t u from hq)
  refine n_if_ne eX3_out_8 (by omega) (fun hc8 => ?_) (fun hc8 => absurd hc8 (by decide))
  refine r_aload_n eX3_out_17 rfl rfl ?_
  refine r_aload_n eX3_out_18 rfl rfl ?_
  refine r_getf (v := .ref 16) eX3_out_19 fX3_23 rfl rfl ?_
  refine r_callVv1 eX3_out_22 lX3_117 (Or.inl ⟨_, _, _, rfl, rfl, rfl⟩) (s3_morningOf_now (t := t) (u := u) (T := T) hc hms) (by omega) (Nat.le_of_ble_eq_true rfl) (fun h1 hq => ?_)
  obtain ⟨M22, R22, hh, hM22, hR22⟩ := hq
  obtain rfl := (show h1 = hA t (cg_let u, cg_lc u, cg_rt u, cg_rl u, cg_ra u, cg_rf u, cg_rn u, cg_rc u, cg_now u, cg_dra u, cg_kep u, cg_im u, (pg_mp M22), (pg_mw M22), (pg_mu M22), (pg_mn M22), (pg_mi M22), (pg_mc M22), (pg_md M22), (qg_mo R22), (qg_ms R22), (qg_mq R22), cg_se u, cg_sc u, cg_re u) from hh)
  refine r_aload_n eX3_out_25 rfl rfl ?_
  refine r_getf (v := .ref 40) eX3_out_26 fX3_36 rfl rfl ?_
  refine r_getf (v := .ref 54) eX3_out_29 fX3_120 rfl rfl ?_
  refine r_iload_n eX3_out_32 rfl rfl ?_
  refine n_iald (f := (qg_mo R22)) (j := v) eX3_out_33 rfl rfl (by omega) (by decide) ?_
  have hz9 := zV2_or (hR22.1 v hv)
  refine r_callSi1 eX3_out_34 lX3_123 (s3_mon (by omega)) (by omega) (Nat.le_of_ble_eq_true rfl) (fun r1 h1 hq => ?_)
  obtain ⟨rfl, rfl⟩ := hq
  exact z_iret eX3_out_37 rfl rfl ⟨_, rfl, M22, R22, rfl, zon_V2 (hR22.1 v hv), hR22.2.1⟩
set_option maxHeartbeats 1000000 in
set_option maxRecDepth 100000 in
theorem s3_all {t : zMod} {u : zCls} {T : zTown} (hc : cT (cg_now u) T) (hms : ∀ i, cg_ms u i ≤ 2147483647) : Mi mX3_all 8 [.ref 11] (hA t u) (fun r h' => ∃ (M' : zMp) (R' : zMr), h' = hA t (cg_let u, cg_lc u, cg_rt u, cg_rl u, cg_ra u, cg_rf u, cg_rn u, cg_rc u, cg_now u, cg_dra u, cg_kep u, cg_im u, (pg_mp M'), (pg_mw M'), (pg_mu M'), (pg_mn M'), (pg_mi M'), (pg_mc M'), (pg_md M'), (qg_mo R'), (qg_ms R'), (qg_mq R'), cg_se u, cg_sc u, cg_re u) ∧ r = zon 1000000 (tAll T 0 0) ∧ (∀ i, qg_ms R' i ≤ 2147483647)) := by
  obtain ⟨he, hT, hty, hk10⟩ := id hc
  have h7 := hT.1
  have hpw9 : 2 ^ tg_people T ≤ 2 ^ 7 := Nat.pow_le_pow_right (by omega) h7
  have ho := he.ok hT
  obtain ⟨he1, he2, he3, he4, he5, he6, he7⟩ := id he
  have hwt9 := hT.2.2.2.1
  refine Mi.of (by decide) rfl (Nat.le_of_ble_eq_true rfl) ?_
  refine r_aload_n eX3_all_0 rfl rfl ?_
  refine r_aload_n eX3_all_1 rfl rfl ?_
  refine r_getf (v := .ref 16) eX3_all_2 fX3_23 rfl rfl ?_
  refine r_callVi1 eX3_all_5 lX3_126 (Or.inl ⟨_, _, _, rfl, rfl, rfl⟩) (s3_lastOutOf_now (t := t) (u := u) (T := T) hc hms) (by omega) (Nat.le_of_ble_eq_true rfl) (fun r1 h1 hq => ?_)
  obtain ⟨M5, R5, hh, hr, hM5, hR5⟩ := hq
  obtain rfl := (show h1 = hA t (cg_let u, cg_lc u, cg_rt u, cg_rl u, cg_ra u, cg_rf u, cg_rn u, cg_rc u, cg_now u, cg_dra u, cg_kep u, cg_im u, (pg_mp M5), (pg_mw M5), (pg_mu M5), (pg_mn M5), (pg_mi M5), (pg_mc M5), (pg_md M5), (qg_mo R5), (qg_ms R5), (qg_mq R5), cg_se u, cg_sc u, cg_re u) from hh)
  obtain rfl := (show r1 = nI (zmx (qg_mo R5) (tg_people T)) from hr)
  have hz5 := zV2_or (qRs_all hR5)
  refine r_callSi1 eX3_all_8 lX3_123 (s3_mon (by omega)) (by omega) (Nat.le_of_ble_eq_true rfl) (fun r1 h1 hq => ?_)
  obtain ⟨rfl, rfl⟩ := hq
  exact z_iret eX3_all_11 rfl rfl ⟨_, rfl, M5, R5, rfl, zon_V2 (qRs_all hR5), hR5.2.1⟩
set_option maxHeartbeats 1000000 in
set_option maxRecDepth 100000 in
theorem s3_by_n {t : zMod} {u : zCls} {v : Int32} (hv : v < 0 ∨ nI (tg_people (cg_now u)) ≤ v) : Mi mX3_by 7 [.ref 11, .int (v)] (hA t u) (fun r h' => r = (-1) ∧ h' = hA t (cg_let u, cg_lc u, cg_rt u, cg_rl u, cg_ra u, cg_rf u, cg_rn u, cg_rc u, cg_now u, cg_dra u, cg_kep u, cg_im u, cg_mp u, cg_mw u, cg_mu u, cg_mn u, cg_mi u, cg_mc u, cg_md u, cg_mo u, cg_ms u, cg_mq u, cg_se u, cg_sc u, (va_up (cg_re u) 1 (cg_re u 1 + 1)))) := by
  refine Mi.of (by decide) rfl (Nat.le_of_ble_eq_true rfl) ?_
  refine r_aload_n eX3_by_0 rfl rfl ?_
  refine r_getf (v := .ref 16) eX3_by_1 fX3_23 rfl rfl ?_
  refine r_iload_n eX3_by_4 rfl rfl ?_
  refine r_callVi1 eX3_by_5 lX3_62 (Or.inl ⟨_, _, _, rfl, rfl, rfl⟩) (s2_hasPerson_n_now (t := t) (u := u) hv) (by omega) (Nat.le_of_ble_eq_true rfl) (fun r1 h1 hq => ?_)
  obtain ⟨rfl, rfl⟩ := (show r1 = nI (0) ∧ h1 = hA t u from hq)
  refine n_if_ne eX3_by_8 (by first | omega | exact zlt (hs _) | exact hou _ | exact hop _) (fun hc8 => absurd hc8 (by decide)) (fun hc8 => ?_)
  refine r_aload_n eX3_by_11 rfl rfl ?_
  refine r_iconst (v := (-1)) eX3_by_12 rfl ?_
  refine r_callVi1 eX3_by_13 lX3_46 (Or.inl ⟨_, _, _, rfl, rfl, rfl⟩) (s3_refuse (t := t) (u := u) (x := (-1)) (c := 1) (by decide) (by decide)) (by omega) (Nat.le_of_ble_eq_true rfl) (fun r1 h1 hq => ?_)
  obtain ⟨rfl, rfl⟩ := (show r1 = (-1) ∧ h1 = hA t (cg_let u, cg_lc u, cg_rt u, cg_rl u, cg_ra u, cg_rf u, cg_rn u, cg_rc u, cg_now u, cg_dra u, cg_kep u, cg_im u, cg_mp u, cg_mw u, cg_mu u, cg_mn u, cg_mi u, cg_mc u, cg_md u, cg_mo u, cg_ms u, cg_mq u, cg_se u, cg_sc u, (va_up (cg_re u) 1 ((cg_re u) 1 + 1))) from hq)
  exact z_iret eX3_by_16 rfl rfl ⟨_, rfl, rfl, rfl⟩
set_option maxHeartbeats 1000000 in
set_option maxRecDepth 100000 in
theorem s3_by_y {t : zMod} {u : zCls} {T : zTown} (hc : cT (cg_now u) T) (hms : ∀ i, cg_ms u i ≤ 2147483647) {v : Nat} (hv : v < tg_people T) : Mi mX3_by 7 [.ref 11, .int (nI (v))] (hA t u) (fun r h' => ∃ (M' : zMp) (R' : zMr), h' = hA t (cg_let u, cg_lc u, cg_rt u, cg_rl u, cg_ra u, cg_rf u, cg_rn u, cg_rc u, cg_now u, cg_dra u, cg_kep u, cg_im u, (pg_mp M'), (pg_mw M'), (pg_mu M'), (pg_mn M'), (pg_mi M'), (pg_mc M'), (pg_md M'), (qg_mo R'), (qg_ms R'), (qg_mq R'), cg_se u, cg_sc u, cg_re u) ∧ r = zor (zfind (tBy T (tO T 0 0) (tP T 0 0 v) v) (tg_people T)) ∧ (∀ i, qg_ms R' i ≤ 2147483647)) := by
  obtain ⟨he, hT, hty, hk10⟩ := id hc
  have h7 := hT.1
  have hpw9 : 2 ^ tg_people T ≤ 2 ^ 7 := Nat.pow_le_pow_right (by omega) h7
  have ho := he.ok hT
  obtain ⟨he1, he2, he3, he4, he5, he6, he7⟩ := id he
  have hwt9 := hT.2.2.2.1
  have hv9 : v < tg_people (cg_now u) := by omega
  refine Mi.of (by decide) rfl (Nat.le_of_ble_eq_true rfl) ?_
  refine r_aload_n eX3_by_0 rfl rfl ?_
  refine r_getf (v := .ref 16) eX3_by_1 fX3_23 rfl rfl ?_
  refine r_iload_n eX3_by_4 rfl rfl ?_
  refine r_callVi1 eX3_by_5 lX3_62 (Or.inl ⟨_, _, _, rfl, rfl, rfl⟩) (s2_hasPerson_y_now (t := t) (u := u) ho hv9) (by omega) (Nat.le_of_ble_eq_true rfl) (fun r1 h1 hq => ?_)
  obtain ⟨rfl, rfl⟩ := (show r1 = nI (1) ∧ h1 = hA t u from hq)
  refine n_if_ne eX3_by_8 (by omega) (fun hc8 => ?_) (fun hc8 => absurd hc8 (by decide))
  refine r_aload_n eX3_by_17 rfl rfl ?_
  refine r_aload_n eX3_by_18 rfl rfl ?_
  refine r_getf (v := .ref 16) eX3_by_19 fX3_23 rfl rfl ?_
  refine r_callVv1 eX3_by_22 lX3_117 (Or.inl ⟨_, _, _, rfl, rfl, rfl⟩) (s3_morningOf_now (t := t) (u := u) (T := T) hc hms) (by omega) (Nat.le_of_ble_eq_true rfl) (fun h1 hq => ?_)
  obtain ⟨M22, R22, hh, hM22, hR22⟩ := hq
  obtain rfl := (show h1 = hA t (cg_let u, cg_lc u, cg_rt u, cg_rl u, cg_ra u, cg_rf u, cg_rn u, cg_rc u, cg_now u, cg_dra u, cg_kep u, cg_im u, (pg_mp M22), (pg_mw M22), (pg_mu M22), (pg_mn M22), (pg_mi M22), (pg_mc M22), (pg_md M22), (qg_mo R22), (qg_ms R22), (qg_mq R22), cg_se u, cg_sc u, cg_re u) from hh)
  refine r_aload_n eX3_by_25 rfl rfl ?_
  refine r_getf (v := .ref 40) eX3_by_26 fX3_36 rfl rfl ?_
  refine r_getf (v := .ref 56) eX3_by_29 fX3_133 rfl rfl ?_
  refine r_iload_n eX3_by_32 rfl rfl ?_
  refine r_iald (f := (qg_mq R22)) (j := v) eX3_by_33 rfl rfl (by omega) (by decide) ?_
  exact z_iret eX3_by_34 rfl rfl ⟨_, rfl, M22, R22, rfl, hR22.2.2 rfl v hv, hR22.2.1⟩
set_option maxHeartbeats 1000000 in
set_option maxRecDepth 100000 in
theorem s3_fire_n {t : zMod} {u : zCls} {v mi : Int32} (hv : v < 0 ∨ nI (tg_people (cg_now u)) ≤ v) : Mi mX3_fire 7 [.ref 11, .int (v), .int (mi)] (hA t u) (fun r h' => r = (-1) ∧ h' = hA t (cg_let u, cg_lc u, cg_rt u, cg_rl u, cg_ra u, cg_rf u, cg_rn u, cg_rc u, cg_now u, cg_dra u, cg_kep u, cg_im u, cg_mp u, cg_mw u, cg_mu u, cg_mn u, cg_mi u, cg_mc u, cg_md u, cg_mo u, cg_ms u, cg_mq u, cg_se u, cg_sc u, (va_up (cg_re u) 1 (cg_re u 1 + 1)))) := by
  refine Mi.of (by decide) rfl (Nat.le_of_ble_eq_true rfl) ?_
  refine r_aload_n eX3_fire_0 rfl rfl ?_
  refine r_getf (v := .ref 16) eX3_fire_1 fX3_23 rfl rfl ?_
  refine r_iload_n eX3_fire_4 rfl rfl ?_
  refine r_callVi1 eX3_fire_5 lX3_62 (Or.inl ⟨_, _, _, rfl, rfl, rfl⟩) (s2_hasPerson_n_now (t := t) (u := u) hv) (by omega) (Nat.le_of_ble_eq_true rfl) (fun r1 h1 hq => ?_)
  obtain ⟨rfl, rfl⟩ := (show r1 = nI (0) ∧ h1 = hA t u from hq)
  refine n_if_ne eX3_fire_8 (by first | omega | exact zlt (hs _) | exact hou _ | exact hop _) (fun hc8 => absurd hc8 (by decide)) (fun hc8 => ?_)
  refine r_aload_n eX3_fire_11 rfl rfl ?_
  refine r_iconst (v := (-1)) eX3_fire_12 rfl ?_
  refine r_callVi1 eX3_fire_13 lX3_46 (Or.inl ⟨_, _, _, rfl, rfl, rfl⟩) (s3_refuse (t := t) (u := u) (x := (-1)) (c := 1) (by decide) (by decide)) (by omega) (Nat.le_of_ble_eq_true rfl) (fun r1 h1 hq => ?_)
  obtain ⟨rfl, rfl⟩ := (show r1 = (-1) ∧ h1 = hA t (cg_let u, cg_lc u, cg_rt u, cg_rl u, cg_ra u, cg_rf u, cg_rn u, cg_rc u, cg_now u, cg_dra u, cg_kep u, cg_im u, cg_mp u, cg_mw u, cg_mu u, cg_mn u, cg_mi u, cg_mc u, cg_md u, cg_mo u, cg_ms u, cg_mq u, cg_se u, cg_sc u, (va_up (cg_re u) 1 ((cg_re u) 1 + 1))) from hq)
  exact z_iret eX3_fire_16 rfl rfl ⟨_, rfl, rfl, rfl⟩
set_option maxHeartbeats 1000000 in
set_option maxRecDepth 100000 in
theorem s3_fire_b {t : zMod} {u : zCls} {T : zTown} (hc : cT (cg_now u) T) (hms : ∀ i, cg_ms u i ≤ 2147483647) {v : Nat} (hv : v < tg_people T) {mi : Int32} (hmi : mi < 0) : Mi mX3_fire 7 [.ref 11, .int (nI (v)), .int (mi)] (hA t u) (fun r h' => r = (-4) ∧ h' = hA t (cg_let u, cg_lc u, cg_rt u, cg_rl u, cg_ra u, cg_rf u, cg_rn u, cg_rc u, cg_now u, cg_dra u, cg_kep u, cg_im u, cg_mp u, cg_mw u, cg_mu u, cg_mn u, cg_mi u, cg_mc u, cg_md u, cg_mo u, cg_ms u, cg_mq u, cg_se u, cg_sc u, (va_up (cg_re u) 4 (cg_re u 4 + 1)))) := by
  obtain ⟨he, hT, hty, hk10⟩ := id hc
  have h7 := hT.1
  have hpw9 : 2 ^ tg_people T ≤ 2 ^ 7 := Nat.pow_le_pow_right (by omega) h7
  have ho := he.ok hT
  obtain ⟨he1, he2, he3, he4, he5, he6, he7⟩ := id he
  have hwt9 := hT.2.2.2.1
  have hv9 : v < tg_people (cg_now u) := by omega
  refine Mi.of (by decide) rfl (Nat.le_of_ble_eq_true rfl) ?_
  refine r_aload_n eX3_fire_0 rfl rfl ?_
  refine r_getf (v := .ref 16) eX3_fire_1 fX3_23 rfl rfl ?_
  refine r_iload_n eX3_fire_4 rfl rfl ?_
  refine r_callVi1 eX3_fire_5 lX3_62 (Or.inl ⟨_, _, _, rfl, rfl, rfl⟩) (s2_hasPerson_y_now (t := t) (u := u) ho hv9) (by omega) (Nat.le_of_ble_eq_true rfl) (fun r1 h1 hq => ?_)
  obtain ⟨rfl, rfl⟩ := (show r1 = nI (1) ∧ h1 = hA t u from hq)
  refine n_if_ne eX3_fire_8 (by omega) (fun hc8 => ?_) (fun hc8 => absurd hc8 (by decide))
  refine r_iload_n eX3_fire_17 rfl rfl ?_
  refine r_if_ge eX3_fire_18 (fun hc18 => absurd hc18 (Int32.not_le.mpr hmi)) (fun hc18 => ?_)
  refine r_aload_n eX3_fire_21 rfl rfl ?_
  refine r_bipush (v := (-4)) eX3_fire_22 rfl ?_
  refine r_callVi1 eX3_fire_24 lX3_46 (Or.inl ⟨_, _, _, rfl, rfl, rfl⟩) (s3_refuse (t := t) (u := u) (x := (-4)) (c := 4) (by decide) (by decide)) (by omega) (Nat.le_of_ble_eq_true rfl) (fun r1 h1 hq => ?_)
  obtain ⟨rfl, rfl⟩ := (show r1 = (-4) ∧ h1 = hA t (cg_let u, cg_lc u, cg_rt u, cg_rl u, cg_ra u, cg_rf u, cg_rn u, cg_rc u, cg_now u, cg_dra u, cg_kep u, cg_im u, cg_mp u, cg_mw u, cg_mu u, cg_mn u, cg_mi u, cg_mc u, cg_md u, cg_mo u, cg_ms u, cg_mq u, cg_se u, cg_sc u, (va_up (cg_re u) 4 ((cg_re u) 4 + 1))) from hq)
  exact z_iret eX3_fire_27 rfl rfl ⟨_, rfl, rfl, rfl⟩
set_option maxHeartbeats 1000000 in
set_option maxRecDepth 100000 in
theorem s3_fire_y {t : zMod} {u : zCls} {T : zTown} (hc : cT (cg_now u) T) (hms : ∀ i, cg_ms u i ≤ 2147483647) {v : Nat} (hv : v < tg_people T) {mi : Int32} (hmi : 0 ≤ mi) : Mi mX3_fire 7 [.ref 11, .int (nI (v)), .int (mi)] (hA t u) (fun r h' => ∃ (M' : zMp) (R' : zMr), h' = hA t (cg_let u, cg_lc u, cg_rt u, cg_rl u, cg_ra u, cg_rf u, cg_rn u, cg_rc u, cg_now u, cg_dra u, cg_kep u, cg_im u, (pg_mp M'), (pg_mw M'), (pg_mu M'), (pg_mn M'), (pg_mi M'), (pg_mc M'), (pg_md M'), (qg_mo R'), (qg_ms R'), (qg_mq R'), cg_se u, cg_sc u, cg_re u) ∧ r = zfire 1000000 (tO T 0 0 v) mi ∧ (∀ i, qg_ms R' i ≤ 2147483647)) := by
  obtain ⟨he, hT, hty, hk10⟩ := id hc
  have h7 := hT.1
  have hpw9 : 2 ^ tg_people T ≤ 2 ^ 7 := Nat.pow_le_pow_right (by omega) h7
  have ho := he.ok hT
  obtain ⟨he1, he2, he3, he4, he5, he6, he7⟩ := id he
  have hwt9 := hT.2.2.2.1
  have hv9 : v < tg_people (cg_now u) := by omega
  refine Mi.of (by decide) rfl (Nat.le_of_ble_eq_true rfl) ?_
  refine r_aload_n eX3_fire_0 rfl rfl ?_
  refine r_getf (v := .ref 16) eX3_fire_1 fX3_23 rfl rfl ?_
  refine r_iload_n eX3_fire_4 rfl rfl ?_
  refine r_callVi1 eX3_fire_5 lX3_62 (Or.inl ⟨_, _, _, rfl, rfl, rfl⟩) (s2_hasPerson_y_now (t := t) (u := u) ho hv9) (by omega) (Nat.le_of_ble_eq_true rfl) (fun r1 h1 hq => ?_)
  obtain ⟨rfl, rfl⟩ := (show r1 = nI (1) ∧ h1 = hA t u from hq)
  refine n_if_ne eX3_fire_8 (by omega) (fun hc8 => ?_) (fun hc8 => absurd hc8 (by decide))
  refine r_iload_n eX3_fire_17 rfl rfl ?_
  refine r_if_ge eX3_fire_18 (fun hc18 => ?_) (fun hc18 => absurd hc18 (fun z => z hmi))
  refine r_aload_n eX3_fire_28 rfl rfl ?_
  refine r_aload_n eX3_fire_29 rfl rfl ?_
  refine r_getf (v := .ref 16) eX3_fire_30 fX3_23 rfl rfl ?_
  refine r_callVv1 eX3_fire_33 lX3_117 (Or.inl ⟨_, _, _, rfl, rfl, rfl⟩) (s3_morningOf_now (t := t) (u := u) (T := T) hc hms) (by omega) (Nat.le_of_ble_eq_true rfl) (fun h1 hq => ?_)
  obtain ⟨M33, R33, hh, hM33, hR33⟩ := hq
  obtain rfl := (show h1 = hA t (cg_let u, cg_lc u, cg_rt u, cg_rl u, cg_ra u, cg_rf u, cg_rn u, cg_rc u, cg_now u, cg_dra u, cg_kep u, cg_im u, (pg_mp M33), (pg_mw M33), (pg_mu M33), (pg_mn M33), (pg_mi M33), (pg_mc M33), (pg_md M33), (qg_mo R33), (qg_ms R33), (qg_mq R33), cg_se u, cg_sc u, cg_re u) from hh)
  refine r_aload_n eX3_fire_36 rfl rfl ?_
  refine r_getf (v := .ref 40) eX3_fire_37 fX3_36 rfl rfl ?_
  refine r_getf (v := .ref 54) eX3_fire_40 fX3_120 rfl rfl ?_
  refine r_iload_n eX3_fire_43 rfl rfl ?_
  refine n_iald (f := (qg_mo R33)) (j := v) eX3_fire_44 rfl rfl (by omega) (by decide) ?_
  refine r_istore_n eX3_fire_45 rfl (by decide) ?_
  have hz9 := zV2_or (hR33.1 v hv)
  refine r_iload_n eX3_fire_46 rfl rfl ?_
  refine n_ldc 2147483647 eX3_fire_47 kX3_188 rfl ?_
  refine n_icmp_ne eX3_fire_49 (by omega) (by omega) (fun hc49 => ?_) (fun hc49 => ?_)
  · refine n_iconst 0 eX3_fire_55 rfl ?_
    refine r_iload_n eX3_fire_56 rfl rfl ?_
    refine r_iload_n eX3_fire_57 rfl rfl ?_
    refine r_isub eX3_fire_58 ?_
    refine r_max eX3_fire_59 lX3_192 (by omega) (Nat.le_of_ble_eq_true rfl) ?_
    have e9 : qg_mo R33 v = tO T 0 0 v := by omega
    have q9 : zfire 1000000 (tO T 0 0 v) mi = (if nI (0) < (nI ((qg_mo R33) (v)) - mi) then (nI ((qg_mo R33) (v)) - mi) else nI (0)) := by
      rw [e9]
      exact (zfire_is (by omega) hmi).symm
    rw [← q9]
    exact z_iret eX3_fire_62 rfl rfl ⟨_, rfl, M33, R33, rfl, rfl, hR33.2.1⟩
  · refine r_bipush (v := (-9)) eX3_fire_52 rfl ?_
    have q9 : zfire 1000000 (tO T 0 0 v) mi = (-9) := if_pos (by omega)
    rw [← q9]
    exact z_iret eX3_fire_54 rfl rfl ⟨_, rfl, M33, R33, rfl, rfl, hR33.2.1⟩
set_option maxHeartbeats 1000000 in
set_option maxRecDepth 100000 in
theorem s3_late_l {t : zMod} {u : zCls} {T : zTown} (hc : cT (cg_now u) T) {M : zMp} {R : zMr} (hmo : ∀ i, i < tg_people T → qg_mo R i ≤ 2147483647) : ∀ (k : Nat) (p : Nat) (hd : p + k = tg_people (cg_now u)), Rq mX3_late 7 none 12 [.ref 11, .int (nI (zbs (fun p => decide (tg_due (cg_now u) p < qg_mo R p)) p)), .int (nI (p))] [] (hA t (cg_let u, cg_lc u, cg_rt u, cg_rl u, cg_ra u, cg_rf u, cg_rn u, cg_rc u, cg_now u, cg_dra u, cg_kep u, cg_im u, (pg_mp M), (pg_mw M), (pg_mu M), (pg_mn M), (pg_mi M), (pg_mc M), (pg_md M), (qg_mo R), (qg_ms R), (qg_mq R), cg_se u, cg_sc u, cg_re u)) (fun r h' => ∃ x, r = some x ∧ (x = nI (zbs (fun p => decide (tg_due (cg_now u) p < qg_mo R p)) (tg_people (cg_now u))) ∧ h' = hA t (cg_let u, cg_lc u, cg_rt u, cg_rl u, cg_ra u, cg_rf u, cg_rn u, cg_rc u, cg_now u, cg_dra u, cg_kep u, cg_im u, (pg_mp M), (pg_mw M), (pg_mu M), (pg_mn M), (pg_mi M), (pg_mc M), (pg_md M), (qg_mo R), (qg_ms R), (qg_mq R), cg_se u, cg_sc u, cg_re u))) := by
  intro k
  induction k with
  | zero =>
    intro p hd
    obtain ⟨he, hT, hty, hk10⟩ := id hc
    have h7 := hT.1
    have hpw9 : 2 ^ tg_people T ≤ 2 ^ 7 := Nat.pow_le_pow_right (by omega) h7
    have ho := he.ok hT
    obtain ⟨he1, he2, he3, he4, he5, he6, he7⟩ := id he
    have hwt9 := hT.2.2.2.1
    have e9 : p = tg_people (cg_now u) := by omega
    subst e9
    refine r_iload_n eX3_late_12 rfl rfl ?_
    refine r_aload_n eX3_late_13 rfl rfl ?_
    refine r_getf (v := .ref 16) eX3_late_14 fX3_23 rfl rfl ?_
    refine r_getf (v := .int (nI (tg_people (cg_now u)))) eX3_late_17 fX3_130 rfl rfl ?_
    refine n_icmp_ge eX3_late_20 (by omega) (by omega) (fun hc20 => ?_) (fun hc20 => absurd hc20 (by omega))
    refine r_iload_n eX3_late_56 rfl rfl ?_
    exact z_iret eX3_late_57 rfl rfl ⟨_, rfl, rfl, rfl⟩
  | succ k ih =>
    intro p hd
    obtain ⟨he, hT, hty, hk10⟩ := id hc
    have h7 := hT.1
    have hpw9 : 2 ^ tg_people T ≤ 2 ^ 7 := Nat.pow_le_pow_right (by omega) h7
    have ho := he.ok hT
    obtain ⟨he1, he2, he3, he4, he5, he6, he7⟩ := id he
    have hwt9 := hT.2.2.2.1
    have hpw := Nat.pow_lt_pow_right (show 1 < 2 by omega) (show p < 7 by omega)
    have h9 := hmo p (by omega)
    obtain ⟨i1, i2, i3, i4, i5⟩ := ho.2.2.2.2.2 p (by omega)
    refine r_iload_n eX3_late_12 rfl rfl ?_
    refine r_aload_n eX3_late_13 rfl rfl ?_
    refine r_getf (v := .ref 16) eX3_late_14 fX3_23 rfl rfl ?_
    refine r_getf (v := .int (nI (tg_people (cg_now u)))) eX3_late_17 fX3_130 rfl rfl ?_
    refine n_icmp_ge eX3_late_20 (by omega) (by omega) (fun hc20 => absurd hc20 (by omega)) (fun hc20 => ?_)
    refine r_aload_n eX3_late_23 rfl rfl ?_
    refine r_getf (v := .ref 40) eX3_late_24 fX3_36 rfl rfl ?_
    refine r_getf (v := .ref 54) eX3_late_27 fX3_120 rfl rfl ?_
    refine r_iload_n eX3_late_30 rfl rfl ?_
    refine n_iald (f := (qg_mo R)) (j := p) eX3_late_31 rfl rfl (by omega) (by decide) ?_
    refine r_aload_n eX3_late_32 rfl rfl ?_
    refine r_getf (v := .ref 16) eX3_late_33 fX3_23 rfl rfl ?_
    refine r_getf (v := .ref 20) eX3_late_36 fX3_75 rfl rfl ?_
    refine r_iload_n eX3_late_39 rfl rfl ?_
    refine n_iald (f := tg_due (cg_now u)) (j := p) eX3_late_40 rfl rfl (by omega) (by decide) ?_
    refine n_icmp_le eX3_late_41 (by omega) (by omega) (fun hc41 => ?_) (fun hc41 => ?_)
    · refine n_iinc (k := 1) eX3_late_50 rfl (by decide) rfl ?_
      refine r_goto eX3_late_53 ?_
      have ih9 := ih (p + 1) (by omega)
      rw [zbs_n (decide_eq_false (Nat.not_lt.mpr hc41))] at ih9
      exact ih9
    · refine r_iload_n eX3_late_44 rfl rfl ?_
      refine n_iconst 1 eX3_late_45 rfl ?_
      refine r_iload_n eX3_late_46 rfl rfl ?_
      refine n_shl eX3_late_47 (by omega) (by omega) ?_
      refine n_or eX3_late_48 ?_
      refine r_istore_n eX3_late_49 rfl (by decide) ?_
      refine n_iinc (k := 1) eX3_late_50 rfl (by decide) rfl ?_
      refine r_goto eX3_late_53 ?_
      have ih9 := ih (p + 1) (by omega)
      rw [zbs_y (decide_eq_true hc41)] at ih9
      exact ih9
set_option maxHeartbeats 1000000 in
set_option maxRecDepth 100000 in
theorem s3_late {t : zMod} {u : zCls} {T : zTown} (hc : cT (cg_now u) T) (hms : ∀ i, cg_ms u i ≤ 2147483647) : Mi mX3_late 7 [.ref 11] (hA t u) (fun r h' => ∃ (M' : zMp) (R' : zMr), h' = hA t (cg_let u, cg_lc u, cg_rt u, cg_rl u, cg_ra u, cg_rf u, cg_rn u, cg_rc u, cg_now u, cg_dra u, cg_kep u, cg_im u, (pg_mp M'), (pg_mw M'), (pg_mu M'), (pg_mn M'), (pg_mi M'), (pg_mc M'), (pg_md M'), (qg_mo R'), (qg_ms R'), (qg_mq R'), cg_se u, cg_sc u, cg_re u) ∧ r = nI (zbs (fun p => decide (tg_due T p < tO T 0 0 p)) (tg_people T)) ∧ (∀ i, qg_ms R' i ≤ 2147483647)) := by
  obtain ⟨he, hT, hty, hk10⟩ := id hc
  have h7 := hT.1
  have hpw9 : 2 ^ tg_people T ≤ 2 ^ 7 := Nat.pow_le_pow_right (by omega) h7
  have ho := he.ok hT
  obtain ⟨he1, he2, he3, he4, he5, he6, he7⟩ := id he
  have hwt9 := hT.2.2.2.1
  refine Mi.of (by decide) rfl (Nat.le_of_ble_eq_true rfl) ?_
  refine r_aload_n eX3_late_0 rfl rfl ?_
  refine r_aload_n eX3_late_1 rfl rfl ?_
  refine r_getf (v := .ref 16) eX3_late_2 fX3_23 rfl rfl ?_
  refine r_callVv1 eX3_late_5 lX3_117 (Or.inl ⟨_, _, _, rfl, rfl, rfl⟩) (s3_morningOf_now (t := t) (u := u) (T := T) hc hms) (by omega) (Nat.le_of_ble_eq_true rfl) (fun h1 hq => ?_)
  obtain ⟨M5, R5, hh, hM5, hR5⟩ := hq
  obtain rfl := (show h1 = hA t (cg_let u, cg_lc u, cg_rt u, cg_rl u, cg_ra u, cg_rf u, cg_rn u, cg_rc u, cg_now u, cg_dra u, cg_kep u, cg_im u, (pg_mp M5), (pg_mw M5), (pg_mu M5), (pg_mn M5), (pg_mi M5), (pg_mc M5), (pg_md M5), (qg_mo R5), (qg_ms R5), (qg_mq R5), cg_se u, cg_sc u, cg_re u) from hh)
  refine n_iconst 0 eX3_late_8 rfl ?_
  refine r_istore_n eX3_late_9 rfl (by decide) ?_
  refine n_iconst 0 eX3_late_10 rfl ?_
  refine r_istore_n eX3_late_11 rfl (by decide) ?_
  refine Rq.mono (s3_late_l (M := M5) (R := R5) hc (fun i hi => by have := zV2_or (hR5.1 i hi); omega) (tg_people (cg_now u)) 0 (Nat.zero_add _)) (fun r h' hq => ?_)
  obtain ⟨x, rfl, rfl, rfl⟩ := hq
  refine ⟨_, rfl, M5, R5, rfl, congrArg nI ?_, hR5.2.1⟩
  rw [← he1]
  refine zbs_cong fun i hi => decide_eq_decide.mpr ?_
  have h2 := zV2_or (hR5.1 i hi)
  obtain ⟨i1, i2, i3, i4, i5⟩ := hT.2.2.2.2.2 i hi
  obtain ⟨j1, j2, j3, j4, j5⟩ := he6 i hi
  rw [← j4]
  omega
set_option maxHeartbeats 1000000 in
set_option maxRecDepth 100000 in
theorem s3_overslept_n {t : zMod} {u : zCls} (ho : tOk (cg_now u)) (hn : ¬ cg_sc u = tg_people (cg_now u)) (hrc : cg_sc u ≤ 7) : Mi mX3_overslept 7 [.ref 11] (hA t u) (fun r h' => r = (-3) ∧ h' = hA t (cg_let u, cg_lc u, cg_rt u, cg_rl u, cg_ra u, cg_rf u, cg_rn u, cg_rc u, cg_now u, cg_dra u, cg_kep u, cg_im u, cg_mp u, cg_mw u, cg_mu u, cg_mn u, cg_mi u, cg_mc u, cg_md u, cg_mo u, cg_ms u, cg_mq u, cg_se u, cg_sc u, (va_up (cg_re u) 3 (cg_re u 3 + 1)))) := by
  obtain ⟨hp7, hk12, hpc, hwt, hrg, hpp⟩ := id ho
  refine Mi.of (by decide) rfl (Nat.le_of_ble_eq_true rfl) ?_
  refine r_aload_n eX3_overslept_0 rfl rfl ?_
  refine r_getf (v := .int (nI (cg_sc u))) eX3_overslept_1 fX3_201 rfl rfl ?_
  refine r_aload_n eX3_overslept_4 rfl rfl ?_
  refine r_getf (v := .ref 16) eX3_overslept_5 fX3_23 rfl rfl ?_
  refine r_getf (v := .int (nI (tg_people (cg_now u)))) eX3_overslept_8 fX3_130 rfl rfl ?_
  refine n_icmp_eq eX3_overslept_11 (by omega) (by omega) (fun hc11 => absurd hc11 (by omega)) (fun hc11 => ?_)
  refine r_aload_n eX3_overslept_14 rfl rfl ?_
  refine r_bipush (v := (-3)) eX3_overslept_15 rfl ?_
  refine r_callVi1 eX3_overslept_17 lX3_46 (Or.inl ⟨_, _, _, rfl, rfl, rfl⟩) (s3_refuse (t := t) (u := u) (x := (-3)) (c := 3) (by decide) (by decide)) (by omega) (Nat.le_of_ble_eq_true rfl) (fun r1 h1 hq => ?_)
  obtain ⟨rfl, rfl⟩ := (show r1 = (-3) ∧ h1 = hA t (cg_let u, cg_lc u, cg_rt u, cg_rl u, cg_ra u, cg_rf u, cg_rn u, cg_rc u, cg_now u, cg_dra u, cg_kep u, cg_im u, cg_mp u, cg_mw u, cg_mu u, cg_mn u, cg_mi u, cg_mc u, cg_md u, cg_mo u, cg_ms u, cg_mq u, cg_se u, cg_sc u, (va_up (cg_re u) 3 ((cg_re u) 3 + 1))) from hq)
  exact z_iret eX3_overslept_20 rfl rfl ⟨_, rfl, rfl, rfl⟩
set_option maxHeartbeats 1000000 in
set_option maxRecDepth 100000 in
theorem s3_overslept_l {t : zMod} {u : zCls} {T : zTown} (hc : cT (cg_now u) T) {M : zMp} {R : zMr} (hmo : ∀ i, i < tg_people T → qg_mo R i ≤ 2147483647) (hse : ∀ i, cg_se u i ≤ 1000) : ∀ (k : Nat) (p : Nat) (hd : p + k = tg_people (cg_now u)), Rq mX3_overslept 7 none 33 [.ref 11, .int (nI (zbs (fun p => decide (qg_mo R p < cg_se u p)) p)), .int (nI (p))] [] (hA t (cg_let u, cg_lc u, cg_rt u, cg_rl u, cg_ra u, cg_rf u, cg_rn u, cg_rc u, cg_now u, cg_dra u, cg_kep u, cg_im u, (pg_mp M), (pg_mw M), (pg_mu M), (pg_mn M), (pg_mi M), (pg_mc M), (pg_md M), (qg_mo R), (qg_ms R), (qg_mq R), cg_se u, cg_sc u, cg_re u)) (fun r h' => ∃ x, r = some x ∧ (x = nI (zbs (fun p => decide (qg_mo R p < cg_se u p)) (tg_people (cg_now u))) ∧ h' = hA t (cg_let u, cg_lc u, cg_rt u, cg_rl u, cg_ra u, cg_rf u, cg_rn u, cg_rc u, cg_now u, cg_dra u, cg_kep u, cg_im u, (pg_mp M), (pg_mw M), (pg_mu M), (pg_mn M), (pg_mi M), (pg_mc M), (pg_md M), (qg_mo R), (qg_ms R), (qg_mq R), cg_se u, cg_sc u, cg_re u))) := by
  intro k
  induction k with
  | zero =>
    intro p hd
    obtain ⟨he, hT, hty, hk10⟩ := id hc
    have h7 := hT.1
    have hpw9 : 2 ^ tg_people T ≤ 2 ^ 7 := Nat.pow_le_pow_right (by omega) h7
    have ho := he.ok hT
    obtain ⟨he1, he2, he3, he4, he5, he6, he7⟩ := id he
    have hwt9 := hT.2.2.2.1
    have e9 : p = tg_people (cg_now u) := by omega
    subst e9
    refine r_iload_n eX3_overslept_33 rfl rfl ?_
    refine r_aload_n eX3_overslept_34 rfl rfl ?_
    refine r_getf (v := .ref 16) eX3_overslept_35 fX3_23 rfl rfl ?_
    refine r_getf (v := .int (nI (tg_people (cg_now u)))) eX3_overslept_38 fX3_130 rfl rfl ?_
    refine n_icmp_ge eX3_overslept_41 (by omega) (by omega) (fun hc41 => ?_) (fun hc41 => absurd hc41 (by omega))
    refine r_iload_n eX3_overslept_74 rfl rfl ?_
    exact z_iret eX3_overslept_75 rfl rfl ⟨_, rfl, rfl, rfl⟩
  | succ k ih =>
    intro p hd
    obtain ⟨he, hT, hty, hk10⟩ := id hc
    have h7 := hT.1
    have hpw9 : 2 ^ tg_people T ≤ 2 ^ 7 := Nat.pow_le_pow_right (by omega) h7
    have ho := he.ok hT
    obtain ⟨he1, he2, he3, he4, he5, he6, he7⟩ := id he
    have hwt9 := hT.2.2.2.1
    have hpw := Nat.pow_lt_pow_right (show 1 < 2 by omega) (show p < 7 by omega)
    have h9 := hmo p (by omega)
    have hse9 := hse p
    refine r_iload_n eX3_overslept_33 rfl rfl ?_
    refine r_aload_n eX3_overslept_34 rfl rfl ?_
    refine r_getf (v := .ref 16) eX3_overslept_35 fX3_23 rfl rfl ?_
    refine r_getf (v := .int (nI (tg_people (cg_now u)))) eX3_overslept_38 fX3_130 rfl rfl ?_
    refine n_icmp_ge eX3_overslept_41 (by omega) (by omega) (fun hc41 => absurd hc41 (by omega)) (fun hc41 => ?_)
    refine r_aload_n eX3_overslept_44 rfl rfl ?_
    refine r_getf (v := .ref 57) eX3_overslept_45 fX3_40 rfl rfl ?_
    refine r_iload_n eX3_overslept_48 rfl rfl ?_
    refine n_iald (f := cg_se u) (j := p) eX3_overslept_49 rfl rfl (by omega) (by decide) ?_
    refine r_aload_n eX3_overslept_50 rfl rfl ?_
    refine r_getf (v := .ref 40) eX3_overslept_51 fX3_36 rfl rfl ?_
    refine r_getf (v := .ref 54) eX3_overslept_54 fX3_120 rfl rfl ?_
    refine r_iload_n eX3_overslept_57 rfl rfl ?_
    refine n_iald (f := (qg_mo R)) (j := p) eX3_overslept_58 rfl rfl (by omega) (by decide) ?_
    refine n_icmp_le eX3_overslept_59 (by omega) (by omega) (fun hc59 => ?_) (fun hc59 => ?_)
    · refine n_iinc (k := 1) eX3_overslept_68 rfl (by decide) rfl ?_
      refine r_goto eX3_overslept_71 ?_
      have ih9 := ih (p + 1) (by omega)
      rw [zbs_n (decide_eq_false (Nat.not_lt.mpr hc59))] at ih9
      exact ih9
    · refine r_iload_n eX3_overslept_62 rfl rfl ?_
      refine n_iconst 1 eX3_overslept_63 rfl ?_
      refine r_iload_n eX3_overslept_64 rfl rfl ?_
      refine n_shl eX3_overslept_65 (by omega) (by omega) ?_
      refine n_or eX3_overslept_66 ?_
      refine r_istore_n eX3_overslept_67 rfl (by decide) ?_
      refine n_iinc (k := 1) eX3_overslept_68 rfl (by decide) rfl ?_
      refine r_goto eX3_overslept_71 ?_
      have ih9 := ih (p + 1) (by omega)
      rw [zbs_y (decide_eq_true hc59)] at ih9
      exact ih9
set_option maxHeartbeats 1000000 in
set_option maxRecDepth 100000 in
theorem s3_overslept_k {t : zMod} {u : zCls} {T : zTown} (hc : cT (cg_now u) T) (hms : ∀ i, cg_ms u i ≤ 2147483647) (hn : cg_sc u = tg_people (cg_now u)) (hse : ∀ i, cg_se u i ≤ 1000) : Mi mX3_overslept 7 [.ref 11] (hA t u) (fun r h' => ∃ (M' : zMp) (R' : zMr), h' = hA t (cg_let u, cg_lc u, cg_rt u, cg_rl u, cg_ra u, cg_rf u, cg_rn u, cg_rc u, cg_now u, cg_dra u, cg_kep u, cg_im u, (pg_mp M'), (pg_mw M'), (pg_mu M'), (pg_mn M'), (pg_mi M'), (pg_mc M'), (pg_md M'), (qg_mo R'), (qg_ms R'), (qg_mq R'), cg_se u, cg_sc u, cg_re u) ∧ r = nI (zbs (fun p => decide (tO T 0 0 p < cg_se u p)) (tg_people T)) ∧ (∀ i, qg_ms R' i ≤ 2147483647)) := by
  obtain ⟨he, hT, hty, hk10⟩ := id hc
  have h7 := hT.1
  have hpw9 : 2 ^ tg_people T ≤ 2 ^ 7 := Nat.pow_le_pow_right (by omega) h7
  have ho := he.ok hT
  obtain ⟨he1, he2, he3, he4, he5, he6, he7⟩ := id he
  have hwt9 := hT.2.2.2.1
  refine Mi.of (by decide) rfl (Nat.le_of_ble_eq_true rfl) ?_
  refine r_aload_n eX3_overslept_0 rfl rfl ?_
  refine r_getf (v := .int (nI (cg_sc u))) eX3_overslept_1 fX3_201 rfl rfl ?_
  refine r_aload_n eX3_overslept_4 rfl rfl ?_
  refine r_getf (v := .ref 16) eX3_overslept_5 fX3_23 rfl rfl ?_
  refine r_getf (v := .int (nI (tg_people (cg_now u)))) eX3_overslept_8 fX3_130 rfl rfl ?_
  refine n_icmp_eq eX3_overslept_11 (by omega) (by omega) (fun hc11 => ?_) (fun hc11 => absurd hc11 (by omega))
  refine r_aload_n eX3_overslept_21 rfl rfl ?_
  refine r_aload_n eX3_overslept_22 rfl rfl ?_
  refine r_getf (v := .ref 16) eX3_overslept_23 fX3_23 rfl rfl ?_
  refine r_callVv1 eX3_overslept_26 lX3_117 (Or.inl ⟨_, _, _, rfl, rfl, rfl⟩) (s3_morningOf_now (t := t) (u := u) (T := T) hc hms) (by omega) (Nat.le_of_ble_eq_true rfl) (fun h1 hq => ?_)
  obtain ⟨M26, R26, hh, hM26, hR26⟩ := hq
  obtain rfl := (show h1 = hA t (cg_let u, cg_lc u, cg_rt u, cg_rl u, cg_ra u, cg_rf u, cg_rn u, cg_rc u, cg_now u, cg_dra u, cg_kep u, cg_im u, (pg_mp M26), (pg_mw M26), (pg_mu M26), (pg_mn M26), (pg_mi M26), (pg_mc M26), (pg_md M26), (qg_mo R26), (qg_ms R26), (qg_mq R26), cg_se u, cg_sc u, cg_re u) from hh)
  refine n_iconst 0 eX3_overslept_29 rfl ?_
  refine r_istore_n eX3_overslept_30 rfl (by decide) ?_
  refine n_iconst 0 eX3_overslept_31 rfl ?_
  refine r_istore_n eX3_overslept_32 rfl (by decide) ?_
  refine Rq.mono (s3_overslept_l (M := M26) (R := R26) hc (fun i hi => by have := zV2_or (hR26.1 i hi); omega) hse (tg_people (cg_now u)) 0 (Nat.zero_add _)) (fun r h' hq => ?_)
  obtain ⟨x, rfl, rfl, rfl⟩ := hq
  refine ⟨_, rfl, M26, R26, rfl, congrArg nI ?_, hR26.2.1⟩
  rw [← he1]
  refine zbs_cong fun i hi => decide_eq_decide.mpr ?_
  have h2 := zV2_or (hR26.1 i hi)
  have h3 := hse i
  omega
set_option maxHeartbeats 1000000 in
set_option maxRecDepth 100000 in
theorem s3_judge_l {t : zMod} {u : zCls} {T : zTown} (hc : cT (cg_now u) T) {M : zMp} {R : zMr} (hmo : ∀ i, i < tg_people T → qg_mo R i ≤ 2147483647) (hse : ∀ i, cg_se u i ≤ 1000) {tl : Nat} (htl : tl ≤ 7) : ∀ (k : Nat) (p : Nat) (hd : p + k = min tl (tg_people (cg_now u))) (hno : ∀ i, i < p → (fun p => decide (¬ cg_se u p = qg_mo R p)) i = false), Rq mX3_judge 7 none 32 [.ref 11, .int (nI (tl)), .int (nI (min tl (tg_people (cg_now u)))), .int (nI (p))] [] (hA t (cg_let u, cg_lc u, cg_rt u, cg_rl u, cg_ra u, cg_rf u, cg_rn u, cg_rc u, cg_now u, cg_dra u, cg_kep u, cg_im u, (pg_mp M), (pg_mw M), (pg_mu M), (pg_mn M), (pg_mi M), (pg_mc M), (pg_md M), (qg_mo R), (qg_ms R), (qg_mq R), cg_se u, 0, cg_re u)) (fun r h' => ∃ x, r = some x ∧ (x = zor (zjud (fun p => decide (¬ cg_se u p = qg_mo R p)) tl (tg_people (cg_now u))) ∧ h' = hA t (cg_let u, cg_lc u, cg_rt u, cg_rl u, cg_ra u, cg_rf u, cg_rn u, cg_rc u, cg_now u, cg_dra u, cg_kep u, cg_im u, (pg_mp M), (pg_mw M), (pg_mu M), (pg_mn M), (pg_mi M), (pg_mc M), (pg_md M), (qg_mo R), (qg_ms R), (qg_mq R), cg_se u, 0, cg_re u))) := by
  intro k
  induction k with
  | zero =>
    intro p hd hno
    obtain ⟨he, hT, hty, hk10⟩ := id hc
    have h7 := hT.1
    have hpw9 : 2 ^ tg_people T ≤ 2 ^ 7 := Nat.pow_le_pow_right (by omega) h7
    have ho := he.ok hT
    obtain ⟨he1, he2, he3, he4, he5, he6, he7⟩ := id he
    have hwt9 := hT.2.2.2.1
    refine r_iload_n eX3_judge_32 rfl rfl ?_
    refine r_iload_n eX3_judge_33 rfl rfl ?_
    refine n_icmp_ge eX3_judge_34 (by omega) (by omega) (fun hc34 => ?_) (fun hc34 => absurd hc34 (by omega))
    refine r_iload_n eX3_judge_63 rfl rfl ?_
    refine r_aload_n eX3_judge_64 rfl rfl ?_
    refine r_getf (v := .ref 16) eX3_judge_65 fX3_23 rfl rfl ?_
    refine r_getf (v := .int (nI (tg_people (cg_now u)))) eX3_judge_68 fX3_130 rfl rfl ?_
    refine n_icmp_ne eX3_judge_71 (by omega) (by omega) (fun hc71 => ?_) (fun hc71 => ?_)
    · refine r_iload_n eX3_judge_79 rfl rfl ?_
      have e8 : p = min tl (tg_people (cg_now u)) := by omega
      have q9 : zor (zjud (fun p => decide (¬ cg_se u p = qg_mo R p)) tl (tg_people (cg_now u))) = nI (min tl (tg_people (cg_now u))) := by
        rw [e8] at hno
        rw [zjud_none hno, if_neg (by omega)]
        rfl
      rw [← q9]
      exact z_iret eX3_judge_80 rfl rfl ⟨_, rfl, rfl, rfl⟩
    · refine r_bipush (v := (-9)) eX3_judge_74 rfl ?_
      refine r_goto eX3_judge_76 ?_
      have e8 : p = min tl (tg_people (cg_now u)) := by omega
      have q9 : zor (zjud (fun p => decide (¬ cg_se u p = qg_mo R p)) tl (tg_people (cg_now u))) = (-9) := by
        rw [e8] at hno
        rw [zjud_none hno, if_pos (by omega)]
        rfl
      rw [← q9]
      exact z_iret eX3_judge_80 rfl rfl ⟨_, rfl, rfl, rfl⟩
  | succ k ih =>
    intro p hd hno
    obtain ⟨he, hT, hty, hk10⟩ := id hc
    have h7 := hT.1
    have hpw9 : 2 ^ tg_people T ≤ 2 ^ 7 := Nat.pow_le_pow_right (by omega) h7
    have ho := he.ok hT
    obtain ⟨he1, he2, he3, he4, he5, he6, he7⟩ := id he
    have hwt9 := hT.2.2.2.1
    have h9 := hmo p (by omega)
    have hse9 := hse p
    refine r_iload_n eX3_judge_32 rfl rfl ?_
    refine r_iload_n eX3_judge_33 rfl rfl ?_
    refine n_icmp_ge eX3_judge_34 (by omega) (by omega) (fun hc34 => absurd hc34 (by omega)) (fun hc34 => ?_)
    refine r_aload_n eX3_judge_37 rfl rfl ?_
    refine r_getf (v := .ref 57) eX3_judge_38 fX3_40 rfl rfl ?_
    refine r_iload_n eX3_judge_41 rfl rfl ?_
    refine n_iald (f := cg_se u) (j := p) eX3_judge_42 rfl rfl (by omega) (by decide) ?_
    refine r_aload_n eX3_judge_43 rfl rfl ?_
    refine r_getf (v := .ref 40) eX3_judge_44 fX3_36 rfl rfl ?_
    refine r_getf (v := .ref 54) eX3_judge_47 fX3_120 rfl rfl ?_
    refine r_iload_n eX3_judge_50 rfl rfl ?_
    refine n_iald (f := (qg_mo R)) (j := p) eX3_judge_51 rfl rfl (by omega) (by decide) ?_
    refine n_icmp_eq eX3_judge_52 (by omega) (by omega) (fun hc52 => ?_) (fun hc52 => ?_)
    · refine n_iinc (k := 1) eX3_judge_57 rfl (by decide) rfl ?_
      refine r_goto eX3_judge_60 ?_
      refine ih (p + 1) (by omega) (fun i hi => ?_)
      by_cases e : i = p
      · rw [e]; exact decide_eq_false (fun z => z hc52)
      · exact hno i (by omega)
    · refine r_iload_n eX3_judge_55 rfl rfl ?_
      have q9 : zor (zjud (fun p => decide (¬ cg_se u p = qg_mo R p)) tl (tg_people (cg_now u))) = nI p := by rw [zjud_some hno (decide_eq_true hc52) (by omega) (by omega)]; rfl
      rw [← q9]
      exact z_iret eX3_judge_56 rfl rfl ⟨_, rfl, rfl, rfl⟩
set_option maxHeartbeats 1000000 in
set_option maxRecDepth 100000 in
theorem s3_judge {t : zMod} {u : zCls} {T : zTown} (hc : cT (cg_now u) T) (hms : ∀ i, cg_ms u i ≤ 2147483647) (hse : ∀ i, cg_se u i ≤ 1000) (hrc : cg_sc u ≤ 7) : Mi mX3_judge 7 [.ref 11] (hA t u) (fun r h' => ∃ (M' : zMp) (R' : zMr), h' = hA t (cg_let u, cg_lc u, cg_rt u, cg_rl u, cg_ra u, cg_rf u, cg_rn u, cg_rc u, cg_now u, cg_dra u, cg_kep u, cg_im u, (pg_mp M'), (pg_mw M'), (pg_mu M'), (pg_mn M'), (pg_mi M'), (pg_mc M'), (pg_md M'), (qg_mo R'), (qg_ms R'), (qg_mq R'), cg_se u, 0, cg_re u) ∧ r = zor (zjud (fun p => decide (¬ cg_se u p = tO T 0 0 p)) (cg_sc u) (tg_people T)) ∧ (∀ i, qg_ms R' i ≤ 2147483647)) := by
  obtain ⟨he, hT, hty, hk10⟩ := id hc
  have h7 := hT.1
  have hpw9 : 2 ^ tg_people T ≤ 2 ^ 7 := Nat.pow_le_pow_right (by omega) h7
  have ho := he.ok hT
  obtain ⟨he1, he2, he3, he4, he5, he6, he7⟩ := id he
  have hwt9 := hT.2.2.2.1
  refine Mi.of (by decide) rfl (Nat.le_of_ble_eq_true rfl) ?_
  refine r_aload_n eX3_judge_0 rfl rfl ?_
  refine r_getf (v := .int (nI (cg_sc u))) eX3_judge_1 fX3_201 rfl rfl ?_
  refine r_istore_n eX3_judge_4 rfl (by decide) ?_
  refine r_aload_n eX3_judge_5 rfl rfl ?_
  refine n_iconst 0 eX3_judge_6 rfl ?_
  refine z_h (h' := hA t (cg_let u, cg_lc u, cg_rt u, cg_rl u, cg_ra u, cg_rf u, cg_rn u, cg_rc u, cg_now u, cg_dra u, cg_kep u, cg_im u, cg_mp u, cg_mw u, cg_mu u, cg_mn u, cg_mi u, cg_mc u, cg_md u, cg_mo u, cg_ms u, cg_mq u, cg_se u, cg_sc u, cg_re u)) rfl ?_
  refine cp_sc (v := 0) eX3_judge_7 fX3_201 rfl ?_
  refine r_aload_n eX3_judge_10 rfl rfl ?_
  refine r_aload_n eX3_judge_11 rfl rfl ?_
  refine r_getf (v := .ref 16) eX3_judge_12 fX3_23 rfl rfl ?_
  refine r_callVv1 eX3_judge_15 lX3_117 (Or.inl ⟨_, _, _, rfl, rfl, rfl⟩) (s3_morningOf_now (t := t) (u := (cg_let u, cg_lc u, cg_rt u, cg_rl u, cg_ra u, cg_rf u, cg_rn u, cg_rc u, cg_now u, cg_dra u, cg_kep u, cg_im u, cg_mp u, cg_mw u, cg_mu u, cg_mn u, cg_mi u, cg_mc u, cg_md u, cg_mo u, cg_ms u, cg_mq u, cg_se u, 0, cg_re u)) (T := T) hc hms) (by omega) (Nat.le_of_ble_eq_true rfl) (fun h1 hq => ?_)
  obtain ⟨M15, R15, hh, hM15, hR15⟩ := hq
  obtain rfl := (show h1 = hA t (cg_let u, cg_lc u, cg_rt u, cg_rl u, cg_ra u, cg_rf u, cg_rn u, cg_rc u, cg_now u, cg_dra u, cg_kep u, cg_im u, (pg_mp M15), (pg_mw M15), (pg_mu M15), (pg_mn M15), (pg_mi M15), (pg_mc M15), (pg_md M15), (qg_mo R15), (qg_ms R15), (qg_mq R15), cg_se u, 0, cg_re u) from hh)
  refine r_iload_n eX3_judge_18 rfl rfl ?_
  refine r_aload_n eX3_judge_19 rfl rfl ?_
  refine r_getf (v := .ref 16) eX3_judge_20 fX3_23 rfl rfl ?_
  refine r_getf (v := .int (nI (tg_people (cg_now u)))) eX3_judge_23 fX3_130 rfl rfl ?_
  refine n_min eX3_judge_26 lX3_204 (by omega) (Nat.le_of_ble_eq_true rfl) (by omega) (by omega) ?_
  refine r_istore_n eX3_judge_29 rfl (by decide) ?_
  refine n_iconst 0 eX3_judge_30 rfl ?_
  refine r_istore_n eX3_judge_31 rfl (by decide) ?_
  refine Rq.mono (s3_judge_l (M := M15) (R := R15) hc (fun i hi => by have := zV2_or (hR15.1 i hi); omega) hse hrc (min (cg_sc u) (tg_people (cg_now u))) 0 (Nat.zero_add _) (fun i hi => absurd hi (by omega))) (fun r h' hq => ?_)
  obtain ⟨x, rfl, rfl, rfl⟩ := hq
  refine ⟨_, rfl, M15, R15, rfl, congrArg zor ?_, hR15.2.1⟩
  rw [← he1]
  refine zjud_cong fun i hi => decide_eq_decide.mpr ?_
  have h2 := zV2_or (hR15.1 i hi)
  have h3 := hse i
  omega
