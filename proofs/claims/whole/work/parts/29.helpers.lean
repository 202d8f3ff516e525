/-! THE CLASS: small helpers; a morning of a town -/
set_option maxRecDepth 100000 in
theorem zbc : ∀ v, v < 128 → ((((((((nI (v) - (((nI (v)).toUInt32 >>> ((nI (1)).toUInt32 &&& Int32.toUInt32 31)).toInt32 &&& 1431655765)) &&& 858993459) + ((((nI (v) - (((nI (v)).toUInt32 >>> ((nI (1)).toUInt32 &&& Int32.toUInt32 31)).toInt32 &&& 1431655765))).toUInt32 >>> ((nI (2)).toUInt32 &&& Int32.toUInt32 31)).toInt32 &&& 858993459)) + (((((nI (v) - (((nI (v)).toUInt32 >>> ((nI (1)).toUInt32 &&& Int32.toUInt32 31)).toInt32 &&& 1431655765)) &&& 858993459) + ((((nI (v) - (((nI (v)).toUInt32 >>> ((nI (1)).toUInt32 &&& Int32.toUInt32 31)).toInt32 &&& 1431655765))).toUInt32 >>> ((nI (2)).toUInt32 &&& Int32.toUInt32 31)).toInt32 &&& 858993459))).toUInt32 >>> ((nI (4)).toUInt32 &&& Int32.toUInt32 31)).toInt32) &&& 252645135) + (((((((nI (v) - (((nI (v)).toUInt32 >>> ((nI (1)).toUInt32 &&& Int32.toUInt32 31)).toInt32 &&& 1431655765)) &&& 858993459) + ((((nI (v) - (((nI (v)).toUInt32 >>> ((nI (1)).toUInt32 &&& Int32.toUInt32 31)).toInt32 &&& 1431655765))).toUInt32 >>> ((nI (2)).toUInt32 &&& Int32.toUInt32 31)).toInt32 &&& 858993459)) + (((((nI (v) - (((nI (v)).toUInt32 >>> ((nI (1)).toUInt32 &&& Int32.toUInt32 31)).toInt32 &&& 1431655765)) &&& 858993459) + ((((nI (v) - (((nI (v)).toUInt32 >>> ((nI (1)).toUInt32 &&& Int32.toUInt32 31)).toInt32 &&& 1431655765))).toUInt32 >>> ((nI (2)).toUInt32 &&& Int32.toUInt32 31)).toInt32 &&& 858993459))).toUInt32 >>> ((nI (4)).toUInt32 &&& Int32.toUInt32 31)).toInt32) &&& 252645135)).toUInt32 >>> ((nI (8)).toUInt32 &&& Int32.toUInt32 31)).toInt32) + ((((((((nI (v) - (((nI (v)).toUInt32 >>> ((nI (1)).toUInt32 &&& Int32.toUInt32 31)).toInt32 &&& 1431655765)) &&& 858993459) + ((((nI (v) - (((nI (v)).toUInt32 >>> ((nI (1)).toUInt32 &&& Int32.toUInt32 31)).toInt32 &&& 1431655765))).toUInt32 >>> ((nI (2)).toUInt32 &&& Int32.toUInt32 31)).toInt32 &&& 858993459)) + (((((nI (v) - (((nI (v)).toUInt32 >>> ((nI (1)).toUInt32 &&& Int32.toUInt32 31)).toInt32 &&& 1431655765)) &&& 858993459) + ((((nI (v) - (((nI (v)).toUInt32 >>> ((nI (1)).toUInt32 &&& Int32.toUInt32 31)).toInt32 &&& 1431655765))).toUInt32 >>> ((nI (2)).toUInt32 &&& Int32.toUInt32 31)).toInt32 &&& 858993459))).toUInt32 >>> ((nI (4)).toUInt32 &&& Int32.toUInt32 31)).toInt32) &&& 252645135) + (((((((nI (v) - (((nI (v)).toUInt32 >>> ((nI (1)).toUInt32 &&& Int32.toUInt32 31)).toInt32 &&& 1431655765)) &&& 858993459) + ((((nI (v) - (((nI (v)).toUInt32 >>> ((nI (1)).toUInt32 &&& Int32.toUInt32 31)).toInt32 &&& 1431655765))).toUInt32 >>> ((nI (2)).toUInt32 &&& Int32.toUInt32 31)).toInt32 &&& 858993459)) + (((((nI (v) - (((nI (v)).toUInt32 >>> ((nI (1)).toUInt32 &&& Int32.toUInt32 31)).toInt32 &&& 1431655765)) &&& 858993459) + ((((nI (v) - (((nI (v)).toUInt32 >>> ((nI (1)).toUInt32 &&& Int32.toUInt32 31)).toInt32 &&& 1431655765))).toUInt32 >>> ((nI (2)).toUInt32 &&& Int32.toUInt32 31)).toInt32 &&& 858993459))).toUInt32 >>> ((nI (4)).toUInt32 &&& Int32.toUInt32 31)).toInt32) &&& 252645135)).toUInt32 >>> ((nI (8)).toUInt32 &&& Int32.toUInt32 31)).toInt32)).toUInt32 >>> ((nI (16)).toUInt32 &&& Int32.toUInt32 31)).toInt32) &&& nI (63)) = nI (zcnt 7 v) := by decide +kernel
set_option maxHeartbeats 1000000 in
set_option maxRecDepth 100000 in
theorem s6_bitCount {h : List zC} {v : Nat} (hv : v < 128) : Mi mJ6_bitCount_0f7a4 1 [.int (nI (v))] h (fun r h' => r = nI (zcnt 7 v) ∧ h' = h) := by
  refine Mi.of (by decide) rfl (Nat.le_of_ble_eq_true rfl) ?_
  refine r_iload_n eJ6_bitCount_0f7a4_0 rfl rfl ?_
  refine r_iload_n eJ6_bitCount_0f7a4_1 rfl rfl ?_
  refine n_iconst 1 eJ6_bitCount_0f7a4_2 rfl ?_
  refine r_iushr eJ6_bitCount_0f7a4_3 ?_
  refine r_ldcw eJ6_bitCount_0f7a4_4 kJ6_265 ?_
  refine r_iand eJ6_bitCount_0f7a4_7 ?_
  refine r_isub eJ6_bitCount_0f7a4_8 ?_
  refine r_istore_n eJ6_bitCount_0f7a4_9 rfl (by decide) ?_
  refine r_iload_n eJ6_bitCount_0f7a4_10 rfl rfl ?_
  refine r_ldcw eJ6_bitCount_0f7a4_11 kJ6_266 ?_
  refine r_iand eJ6_bitCount_0f7a4_14 ?_
  refine r_iload_n eJ6_bitCount_0f7a4_15 rfl rfl ?_
  refine n_iconst 2 eJ6_bitCount_0f7a4_16 rfl ?_
  refine r_iushr eJ6_bitCount_0f7a4_17 ?_
  refine r_ldcw eJ6_bitCount_0f7a4_18 kJ6_266 ?_
  refine r_iand eJ6_bitCount_0f7a4_21 ?_
  refine r_iadd eJ6_bitCount_0f7a4_22 ?_
  refine r_istore_n eJ6_bitCount_0f7a4_23 rfl (by decide) ?_
  refine r_iload_n eJ6_bitCount_0f7a4_24 rfl rfl ?_
  refine r_iload_n eJ6_bitCount_0f7a4_25 rfl rfl ?_
  refine n_iconst 4 eJ6_bitCount_0f7a4_26 rfl ?_
  refine r_iushr eJ6_bitCount_0f7a4_27 ?_
  refine r_iadd eJ6_bitCount_0f7a4_28 ?_
  refine r_ldcw eJ6_bitCount_0f7a4_29 kJ6_267 ?_
  refine r_iand eJ6_bitCount_0f7a4_32 ?_
  refine r_istore_n eJ6_bitCount_0f7a4_33 rfl (by decide) ?_
  refine r_iload_n eJ6_bitCount_0f7a4_34 rfl rfl ?_
  refine r_iload_n eJ6_bitCount_0f7a4_35 rfl rfl ?_
  refine n_bipush 8 eJ6_bitCount_0f7a4_36 rfl ?_
  refine r_iushr eJ6_bitCount_0f7a4_38 ?_
  refine r_iadd eJ6_bitCount_0f7a4_39 ?_
  refine r_istore_n eJ6_bitCount_0f7a4_40 rfl (by decide) ?_
  refine r_iload_n eJ6_bitCount_0f7a4_41 rfl rfl ?_
  refine r_iload_n eJ6_bitCount_0f7a4_42 rfl rfl ?_
  refine n_bipush 16 eJ6_bitCount_0f7a4_43 rfl ?_
  refine r_iushr eJ6_bitCount_0f7a4_45 ?_
  refine r_iadd eJ6_bitCount_0f7a4_46 ?_
  refine r_istore_n eJ6_bitCount_0f7a4_47 rfl (by decide) ?_
  refine r_iload_n eJ6_bitCount_0f7a4_48 rfl rfl ?_
  refine n_bipush 63 eJ6_bitCount_0f7a4_49 rfl ?_
  refine r_iand eJ6_bitCount_0f7a4_51 ?_
  refine z_top (y := nI (zcnt 7 v)) (zbc v hv) ?_
  exact z_iret eJ6_bitCount_0f7a4_52 rfl rfl ⟨_, rfl, rfl, rfl⟩
set_option maxHeartbeats 1000000 in
set_option maxRecDepth 100000 in
theorem s3_refuse {t : zMod} {u : zCls} {x : Int32} {c : Nat} (hx : -x = nI c) (hc : c < 7) : Mi mX3_refuse 1 [.ref 11, .int (x)] (hA t u) (fun r h' => r = x ∧ h' = hA t (cg_let u, cg_lc u, cg_rt u, cg_rl u, cg_ra u, cg_rf u, cg_rn u, cg_rc u, cg_now u, cg_dra u, cg_kep u, cg_im u, cg_mp u, cg_mw u, cg_mu u, cg_mn u, cg_mi u, cg_mc u, cg_md u, cg_mo u, cg_ms u, cg_mq u, cg_se u, cg_sc u, (va_up (cg_re u) c (cg_re u c + 1)))) := by
  refine Mi.of (by decide) rfl (Nat.le_of_ble_eq_true rfl) ?_
  refine r_aload_n eX3_refuse_0 rfl rfl ?_
  refine r_getf (v := .ref 58) eX3_refuse_1 fX3_43 rfl rfl ?_
  refine r_iload_n eX3_refuse_4 rfl rfl ?_
  refine r_ineg eX3_refuse_5 ?_
  refine r_dup2 eX3_refuse_6 rfl rfl ?_
  refine n_iald (f := cg_re u) (j := c) eX3_refuse_7 rfl hx (by first | omega | exact zlt (hs _) | exact hou _ | exact hop _) (by decide) ?_
  refine n_iconst 1 eX3_refuse_8 rfl ?_
  refine n_add eX3_refuse_9 ?_
  refine z_h (h' := hA t (cg_let u, cg_lc u, cg_rt u, cg_rl u, cg_ra u, cg_rf u, cg_rn u, cg_rc u, cg_now u, cg_dra u, cg_kep u, cg_im u, cg_mp u, cg_mw u, cg_mu u, cg_mn u, cg_mi u, cg_mc u, cg_md u, cg_mo u, cg_ms u, cg_mq u, cg_se u, cg_sc u, cg_re u)) rfl ?_
  refine cw_re (j := c) (v := ((cg_re u) (c)) + 1) eX3_refuse_10 hx rfl (by first | omega | exact zlt (hs _) | exact hou _ | exact hop _) ?_
  refine r_iload_n eX3_refuse_11 rfl rfl ?_
  exact z_iret eX3_refuse_12 rfl rfl ⟨_, rfl, rfl, rfl⟩
set_option maxHeartbeats 1000000 in
set_option maxRecDepth 100000 in
theorem s3_mon {h : List zC} {v : Nat} (hv : v ≤ 2147483647) : Mi mX3_minuteOrNone 1 [.int (nI (v))] h (fun r h' => r = zon 2147483647 v ∧ h' = h) := by
  refine Mi.of (by decide) rfl (Nat.le_of_ble_eq_true rfl) ?_
  refine r_iload_n eX3_minuteOrNone_0 rfl rfl ?_
  refine n_ldc 2147483647 eX3_minuteOrNone_1 kX3_188 rfl ?_
  refine n_icmp_ne eX3_minuteOrNone_3 (by omega) (by omega) (fun hc3 => ?_) (fun hc3 => ?_)
  · refine r_iload_n eX3_minuteOrNone_11 rfl rfl ?_
    have q9 : zon 2147483647 v = nI (v) := if_neg hc3
    rw [q9]
    exact z_iret eX3_minuteOrNone_12 rfl rfl ⟨_, rfl, rfl, rfl⟩
  · refine r_bipush (v := (-9)) eX3_minuteOrNone_6 rfl ?_
    refine r_goto eX3_minuteOrNone_8 ?_
    have q9 : zon 2147483647 v = (-9) := if_pos hc3
    rw [q9]
    exact z_iret eX3_minuteOrNone_12 rfl rfl ⟨_, rfl, rfl, rfl⟩
theorem zV2_or {a b c x y : Nat} (h : zV2 a b c x y) : (x = y ∧ x ≤ c) ∨ (x = a ∧ y = b) := h
theorem zon_V2 {x y : Nat} (h : zV2 1000000 2147483647 500000 x y) : zon 2147483647 y = zon 1000000 x := by
  unfold zV2 at h
  unfold zon
  by_cases e : y = 2147483647
  · rw [if_pos e, if_pos (by omega)]
  · rw [if_neg e, if_neg (by omega), show x = y by omega]
theorem tEq.ok {T X : zTown} (h : tOk T) (he : tEq T X) : tOk X := by
  obtain ⟨h1, h2, h3, h4, h5, h6⟩ := h
  obtain ⟨a, b, c, d, e, f, g⟩ := he
  refine ⟨by omega, by omega, by omega, by rw [← c, ← a]; exact h4, by omega, fun p hp => ?_⟩
  have := h6 p (by omega)
  have := f p (by omega)
  omega
theorem tEq.keys {T X : zTown} (h : tKeys T) (he : tEq T X) : tKeys X := fun k hk => by
  have h1 := h k (by rw [he.2.1]; exact hk)
  have h2 := he.2.2.2.2.2.2 k (by rw [he.2.1]; exact hk)
  have h3 := he.1
  omega
/-- the town X of the class is the town T, a good one -/
def cT (X T : zTown) : Prop := tEq T X ∧ tOk T ∧ tKeys T ∧ tg_keys T ≤ 10
theorem pPr_eq {M : zMp} {X T : zTown} (hT : tOk T) (he : tEq T X) (h : pPr M X) : pPr M T := by
  have A := tAlike (nw := 0) (NV := 2147483647) (T' := X) (hold' := tHd X) hT he (fun p d _ _ => tHd_eq he p d)
  refine ⟨h.1.trans he.1.symm, fun p hp => ?_⟩
  have hpX : p < tg_people X := he.1 ▸ hp
  obtain ⟨q1, q2, q3, q4, q5, q6, q7⟩ := h.2 p hpX
  obtain ⟨b1, b2, b3, b4, b5, b6, b7, b8⟩ := A.2.1 p hp
  obtain ⟨f1, f2, -⟩ := he.2.2.2.2.2.1 p hp
  refine ⟨fun a ha => (q1 a (he.1 ▸ ha)).trans (A.1 p a hp ha).1.symm, q2.trans b6.symm, q3.trans b1.symm, q4.trans ?_, q5.trans b3.symm, q6, fun d hd => (q7 d (he.1 ▸ hd)).trans (tHd_eq he p d).symm⟩
  unfold tWin
  rw [← f1, ← f2]
def nMs (u : zCls) : zMp := (cg_mp u, cg_mw u, cg_mu u, cg_mn u, cg_mi u, cg_mc u, cg_md u)
def nRs (u : zCls) : zMr := (cg_mo u, cg_ms u, cg_mq u)
theorem s0_prepareT_now {t : zMod} {u : zCls} {T : zTown} (hc : cT (cg_now u) T) : Mv mX0_prepare 3 [.ref 40, .ref 16] (hA t u) (fun h' => ∃ M : zMp, h' = hA t (cg_let u, cg_lc u, cg_rt u, cg_rl u, cg_ra u, cg_rf u, cg_rn u, cg_rc u, cg_now u, cg_dra u, cg_kep u, cg_im u, (pg_mp M), (pg_mw M), (pg_mu M), (pg_mn M), (pg_mi M), (pg_mc M), (pg_md M), cg_mo u, cg_ms u, cg_mq u, cg_se u, cg_sc u, cg_re u) ∧ pPr M T) := by
  obtain ⟨he, hT, hty, hk10⟩ := id hc
  refine Mv.mono (s0_prepare_now (he.ok hT) (by have := he.2.1; omega) (he.keys hty)) (fun h' hq => ?_)
  obtain ⟨W', U', N', I', C', D', e, hp⟩ := hq
  refine ⟨(tg_people (cg_now u), W', U', N', I', C', D'), e, pPr_eq hT he ?_⟩
  exact hp
theorem s0_prepareT_dra {t : zMod} {u : zCls} {T : zTown} (hc : cT (cg_dra u) T) : Mv mX0_prepare 3 [.ref 40, .ref 24] (hA t u) (fun h' => ∃ M : zMp, h' = hA t (cg_let u, cg_lc u, cg_rt u, cg_rl u, cg_ra u, cg_rf u, cg_rn u, cg_rc u, cg_now u, cg_dra u, cg_kep u, cg_im u, (pg_mp M), (pg_mw M), (pg_mu M), (pg_mn M), (pg_mi M), (pg_mc M), (pg_md M), cg_mo u, cg_ms u, cg_mq u, cg_se u, cg_sc u, cg_re u) ∧ pPr M T) := by
  obtain ⟨he, hT, hty, hk10⟩ := id hc
  refine Mv.mono (s0_prepare_dra (he.ok hT) (by have := he.2.1; omega) (he.keys hty)) (fun h' hq => ?_)
  obtain ⟨W', U', N', I', C', D', e, hp⟩ := hq
  refine ⟨(tg_people (cg_dra u), W', U', N', I', C', D'), e, pPr_eq hT he ?_⟩
  exact hp
theorem s0_passT {t : zMod} {u : zCls} {T : zTown} (hT : tOk T) (hM : pPr (nMs u) T) (hR : ∀ i, cg_ms u i ≤ 2147483647) {wa br wd : Nat} (hwa : wa < 2 ^ tg_people T) (hbr : br < 128) (hwd : wd < 2) : Mv mX0_pass 4 [.ref 40, .int (nI (wa)), .int (nI (br)), .int (nI (wd))] (hA t u) (fun h' => ∃ R : zMr, h' = hA t (cg_let u, cg_lc u, cg_rt u, cg_rl u, cg_ra u, cg_rf u, cg_rn u, cg_rc u, cg_now u, cg_dra u, cg_kep u, cg_im u, cg_mp u, cg_mw u, cg_mu u, cg_mn u, cg_mi u, cg_mc u, cg_md u, (qg_mo R), (qg_ms R), (qg_mq R), cg_se u, cg_sc u, cg_re u) ∧ qRs R (tWt T wa) (1 - wd) br) := by
  have hmo : zMo (cMR u (nMs u) (nRs u)) := pPr_zMo hT hM
  have hmo2 : zMo u := hmo
  have h7 := hT.1
  have hpw9 : 2 ^ tg_people T ≤ 2 ^ 7 := Nat.pow_le_pow_right (by omega) h7
  have hres := pRun_res (u := u) (M := nMs u) (R := nRs u) (T := T) (wa := wa) (br := br) (wd := wd) hT hM hR hwd
  refine Mv.mono (s0_pass hmo2 (show wa < 128 by omega) hbr hwd hR) (fun h' hq => ?_)
  exact ⟨((cRun u wa br wd).2.1, (cRun u wa br wd).2.2, cRq u wa br wd), hq, hres⟩
theorem zmx_rel {f g : Nat → Nat} : ∀ {n : Nat}, (∀ i, i < n → zV2 1000000 2147483647 500000 (f i) (g i)) → zV2 1000000 2147483647 500000 (zmx f n) (zmx g n)
  | 0, _ => Or.inl ⟨rfl, Nat.zero_le _⟩
  | n + 1, h => by
    have h1 := zmx_rel (n := n) (fun i hi => h i (by omega))
    have h2 := h n (by omega)
    rw [zmx, zmx]
    unfold zV2 at *
    omega
theorem qRs_all {R : zMr} {T : zTown} {nw br : Nat} (h : qRs R T nw br) : zV2 1000000 2147483647 500000 (tAll T nw br) (zmx (qg_mo R) (tg_people T)) := zmx_rel h.1
theorem s0_lastOutT {t : zMod} {u : zCls} {T : zTown} {nw br : Nat} (hT : tOk T) (hmp : cg_mp u = tg_people T) (hR : qRs (nRs u) T nw br) : Mi mX0_lastOut 2 [.ref 40] (hA t u) (fun r h' => r = nI (zmx (cg_mo u) (tg_people T)) ∧ h' = hA t u) := by
  have ho : ∀ i, i < cg_mp u → cg_mo u i ≤ 2147483647 := fun i hi => by
    have h1 := hR.1 i (by rw [← hmp]; exact hi)
    have h2 : zV2 1000000 2147483647 500000 (tO T nw br i) (cg_mo u i) := h1
    unfold zV2 at h2
    omega
  refine Mi.mono (s0_lastOut (by rw [hmp]; exact hT.1) ho) (fun r h' hq => ?_)
  rw [hmp] at hq
  exact hq
theorem s0_everOutT {t : zMod} {u : zCls} {T : zTown} {nw br : Nat} (hT : tOk T) (hmp : cg_mp u = tg_people T) (hR : qRs (nRs u) T nw br) : Mi mX0_everOut 2 [.ref 40] (hA t u) (fun r h' => r = nI (zbs (fun p => decide (¬ tO T nw br p = 1000000)) (tg_people T)) ∧ h' = hA t u) := by
  have hV : ∀ i, i < tg_people T → zV2 1000000 2147483647 500000 (tO T nw br i) (cg_mo u i) := hR.1
  have ho : ∀ i, i < cg_mp u → cg_mo u i ≤ 2147483647 := fun i hi => by
    have h2 := hV i (by rw [← hmp]; exact hi)
    unfold zV2 at h2
    omega
  refine Mi.mono (s0_everOut (by rw [hmp]; exact hT.1) ho) (fun r h' hq => ⟨?_, hq.2⟩)
  rw [hq.1, hmp]
  refine congrArg nI (zbs_cong fun i hi => decide_eq_decide.mpr ?_)
  have h2 := hV i hi
  unfold zV2 at h2
  omega
set_option maxHeartbeats 1000000 in
set_option maxRecDepth 100000 in
theorem s3_morningOf_now {t : zMod} {u : zCls} {T : zTown} (hc : cT (cg_now u) T) (hms : ∀ i, cg_ms u i ≤ 2147483647) : Mv mX3_morningOf 5 [.ref 11, .ref 16] (hA t u) (fun h' => ∃ (M' : zMp) (R' : zMr), h' = hA t (cg_let u, cg_lc u, cg_rt u, cg_rl u, cg_ra u, cg_rf u, cg_rn u, cg_rc u, cg_now u, cg_dra u, cg_kep u, cg_im u, (pg_mp M'), (pg_mw M'), (pg_mu M'), (pg_mn M'), (pg_mi M'), (pg_mc M'), (pg_md M'), (qg_mo R'), (qg_ms R'), (qg_mq R'), cg_se u, cg_sc u, cg_re u) ∧ pPr M' T ∧ qRs R' T 0 0) := by
  obtain ⟨he, hT, hty, hk10⟩ := id hc
  have h7 := hT.1
  have hpw9 : 2 ^ tg_people T ≤ 2 ^ 7 := Nat.pow_le_pow_right (by omega) h7
  have hw : tg_watch (cg_now u) = tg_watch T := he.2.2.1.symm
  have hwt := hT.2.2.2.1
  refine Mv.of (by decide) rfl rfl (Nat.le_of_ble_eq_true rfl) ?_
  refine r_aload_n eX3_morningOf_0 rfl rfl ?_
  refine r_getf (v := .ref 40) eX3_morningOf_1 fX3_36 rfl rfl ?_
  refine r_aload_n eX3_morningOf_4 rfl rfl ?_
  refine r_callVv1 eX3_morningOf_5 lX3_166 (Or.inl ⟨_, _, _, rfl, rfl, rfl⟩) (s0_prepareT_now (t := t) (u := u) (T := T) hc) (by omega) (Nat.le_of_ble_eq_true rfl) (fun h1 hq => ?_)
  obtain ⟨M5, hh, hM5⟩ := hq
  obtain rfl := (show h1 = hA t (cg_let u, cg_lc u, cg_rt u, cg_rl u, cg_ra u, cg_rf u, cg_rn u, cg_rc u, cg_now u, cg_dra u, cg_kep u, cg_im u, (pg_mp M5), (pg_mw M5), (pg_mu M5), (pg_mn M5), (pg_mi M5), (pg_mc M5), (pg_md M5), cg_mo u, cg_ms u, cg_mq u, cg_se u, cg_sc u, cg_re u) from hh)
  refine r_aload_n eX3_morningOf_8 rfl rfl ?_
  refine r_getf (v := .ref 40) eX3_morningOf_9 fX3_36 rfl rfl ?_
  refine r_aload_n eX3_morningOf_12 rfl rfl ?_
  refine r_getf (v := .int (nI (tg_watch (cg_now u)))) eX3_morningOf_13 fX3_87 rfl rfl ?_
  refine n_iconst 0 eX3_morningOf_16 rfl ?_
  refine n_iconst 1 eX3_morningOf_17 rfl ?_
  refine r_callVv3 eX3_morningOf_18 lX3_147 (Or.inl ⟨_, _, _, rfl, rfl, rfl⟩) (s0_passT (t := t) (u := (cg_let u, cg_lc u, cg_rt u, cg_rl u, cg_ra u, cg_rf u, cg_rn u, cg_rc u, cg_now u, cg_dra u, cg_kep u, cg_im u, (pg_mp M5), (pg_mw M5), (pg_mu M5), (pg_mn M5), (pg_mi M5), (pg_mc M5), (pg_md M5), cg_mo u, cg_ms u, cg_mq u, cg_se u, cg_sc u, cg_re u)) (T := T) hT hM5 hms (by rw [hw]; exact hwt) (by omega) (by omega)) (by omega) (Nat.le_of_ble_eq_true rfl) (fun h1 hq => ?_)
  obtain ⟨R18, hh, hR18⟩ := hq
  obtain rfl := (show h1 = hA t (cg_let u, cg_lc u, cg_rt u, cg_rl u, cg_ra u, cg_rf u, cg_rn u, cg_rc u, cg_now u, cg_dra u, cg_kep u, cg_im u, (pg_mp M5), (pg_mw M5), (pg_mu M5), (pg_mn M5), (pg_mi M5), (pg_mc M5), (pg_md M5), (qg_mo R18), (qg_ms R18), (qg_mq R18), cg_se u, cg_sc u, cg_re u) from hh)
  rw [hw] at hR18
  exact z_vret eX3_morningOf_21 ⟨rfl, M5, R18, rfl, hM5, hR18⟩
set_option maxHeartbeats 1000000 in
set_option maxRecDepth 100000 in
theorem s3_lastOutOf_now {t : zMod} {u : zCls} {T : zTown} (hc : cT (cg_now u) T) (hms : ∀ i, cg_ms u i ≤ 2147483647) : Mi mX3_lastOutOf 6 [.ref 11, .ref 16] (hA t u) (fun r h' => ∃ (M' : zMp) (R' : zMr), h' = hA t (cg_let u, cg_lc u, cg_rt u, cg_rl u, cg_ra u, cg_rf u, cg_rn u, cg_rc u, cg_now u, cg_dra u, cg_kep u, cg_im u, (pg_mp M'), (pg_mw M'), (pg_mu M'), (pg_mn M'), (pg_mi M'), (pg_mc M'), (pg_md M'), (qg_mo R'), (qg_ms R'), (qg_mq R'), cg_se u, cg_sc u, cg_re u) ∧ r = nI (zmx (qg_mo R') (tg_people T)) ∧ pPr M' T ∧ qRs R' T 0 0) := by
  obtain ⟨he, hT, hty, hk10⟩ := id hc
  have h7 := hT.1
  have hpw9 : 2 ^ tg_people T ≤ 2 ^ 7 := Nat.pow_le_pow_right (by omega) h7
  refine Mi.of (by decide) rfl (Nat.le_of_ble_eq_true rfl) ?_
  refine r_aload_n eX3_lastOutOf_0 rfl rfl ?_
  refine r_aload_n eX3_lastOutOf_1 rfl rfl ?_
  refine r_callVv1 eX3_lastOutOf_2 lX3_117 (Or.inl ⟨_, _, _, rfl, rfl, rfl⟩) (s3_morningOf_now (t := t) (u := u) (T := T) hc hms) (by omega) (Nat.le_of_ble_eq_true rfl) (fun h1 hq => ?_)
  obtain ⟨M2, R2, hh, hM2, hR2⟩ := hq
  obtain rfl := (show h1 = hA t (cg_let u, cg_lc u, cg_rt u, cg_rl u, cg_ra u, cg_rf u, cg_rn u, cg_rc u, cg_now u, cg_dra u, cg_kep u, cg_im u, (pg_mp M2), (pg_mw M2), (pg_mu M2), (pg_mn M2), (pg_mi M2), (pg_mc M2), (pg_md M2), (qg_mo R2), (qg_ms R2), (qg_mq R2), cg_se u, cg_sc u, cg_re u) from hh)
  refine r_aload_n eX3_lastOutOf_5 rfl rfl ?_
  refine r_getf (v := .ref 40) eX3_lastOutOf_6 fX3_36 rfl rfl ?_
  refine r_callVi0 eX3_lastOutOf_9 lX3_151 (Or.inl ⟨_, _, _, rfl, rfl, rfl⟩) (s0_lastOutT (t := t) (u := (cg_let u, cg_lc u, cg_rt u, cg_rl u, cg_ra u, cg_rf u, cg_rn u, cg_rc u, cg_now u, cg_dra u, cg_kep u, cg_im u, (pg_mp M2), (pg_mw M2), (pg_mu M2), (pg_mn M2), (pg_mi M2), (pg_mc M2), (pg_md M2), (qg_mo R2), (qg_ms R2), (qg_mq R2), cg_se u, cg_sc u, cg_re u)) (T := T) hT hM2.1 hR2) (by omega) (Nat.le_of_ble_eq_true rfl) (fun r1 h1 hq => ?_)
  obtain ⟨rfl, rfl⟩ := (show r1 = nI (zmx (qg_mo R2) (tg_people T)) ∧ h1 = hA t (cg_let u, cg_lc u, cg_rt u, cg_rl u, cg_ra u, cg_rf u, cg_rn u, cg_rc u, cg_now u, cg_dra u, cg_kep u, cg_im u, (pg_mp M2), (pg_mw M2), (pg_mu M2), (pg_mn M2), (pg_mi M2), (pg_mc M2), (pg_md M2), (qg_mo R2), (qg_ms R2), (qg_mq R2), cg_se u, cg_sc u, cg_re u) from hq)
  have hz9 := zV2_or (qRs_all hR2)
  exact z_iret eX3_lastOutOf_12 rfl rfl ⟨_, rfl, M2, R2, rfl, rfl, hM2, hR2⟩
set_option maxHeartbeats 1000000 in
set_option maxRecDepth 100000 in
theorem s3_morningOf_dra {t : zMod} {u : zCls} {T : zTown} (hc : cT (cg_dra u) T) (hms : ∀ i, cg_ms u i ≤ 2147483647) : Mv mX3_morningOf 5 [.ref 11, .ref 24] (hA t u) (fun h' => ∃ (M' : zMp) (R' : zMr), h' = hA t (cg_let u, cg_lc u, cg_rt u, cg_rl u, cg_ra u, cg_rf u, cg_rn u, cg_rc u, cg_now u, cg_dra u, cg_kep u, cg_im u, (pg_mp M'), (pg_mw M'), (pg_mu M'), (pg_mn M'), (pg_mi M'), (pg_mc M'), (pg_md M'), (qg_mo R'), (qg_ms R'), (qg_mq R'), cg_se u, cg_sc u, cg_re u) ∧ pPr M' T ∧ qRs R' T 0 0) := by
  obtain ⟨he, hT, hty, hk10⟩ := id hc
  have h7 := hT.1
  have hpw9 : 2 ^ tg_people T ≤ 2 ^ 7 := Nat.pow_le_pow_right (by omega) h7
  have hw : tg_watch (cg_dra u) = tg_watch T := he.2.2.1.symm
  have hwt := hT.2.2.2.1
  refine Mv.of (by decide) rfl rfl (Nat.le_of_ble_eq_true rfl) ?_
  refine r_aload_n eX3_morningOf_0 rfl rfl ?_
  refine r_getf (v := .ref 40) eX3_morningOf_1 fX3_36 rfl rfl ?_
  refine r_aload_n eX3_morningOf_4 rfl rfl ?_
  refine r_callVv1 eX3_morningOf_5 lX3_166 (Or.inl ⟨_, _, _, rfl, rfl, rfl⟩) (s0_prepareT_dra (t := t) (u := u) (T := T) hc) (by omega) (Nat.le_of_ble_eq_true rfl) (fun h1 hq => ?_)
  obtain ⟨M5, hh, hM5⟩ := hq
  obtain rfl := (show h1 = hA t (cg_let u, cg_lc u, cg_rt u, cg_rl u, cg_ra u, cg_rf u, cg_rn u, cg_rc u, cg_now u, cg_dra u, cg_kep u, cg_im u, (pg_mp M5), (pg_mw M5), (pg_mu M5), (pg_mn M5), (pg_mi M5), (pg_mc M5), (pg_md M5), cg_mo u, cg_ms u, cg_mq u, cg_se u, cg_sc u, cg_re u) from hh)
  refine r_aload_n eX3_morningOf_8 rfl rfl ?_
  refine r_getf (v := .ref 40) eX3_morningOf_9 fX3_36 rfl rfl ?_
  refine r_aload_n eX3_morningOf_12 rfl rfl ?_
  refine r_getf (v := .int (nI (tg_watch (cg_dra u)))) eX3_morningOf_13 fX3_87 rfl rfl ?_
  refine n_iconst 0 eX3_morningOf_16 rfl ?_
  refine n_iconst 1 eX3_morningOf_17 rfl ?_
  refine r_callVv3 eX3_morningOf_18 lX3_147 (Or.inl ⟨_, _, _, rfl, rfl, rfl⟩) (s0_passT (t := t) (u := (cg_let u, cg_lc u, cg_rt u, cg_rl u, cg_ra u, cg_rf u, cg_rn u, cg_rc u, cg_now u, cg_dra u, cg_kep u, cg_im u, (pg_mp M5), (pg_mw M5), (pg_mu M5), (pg_mn M5), (pg_mi M5), (pg_mc M5), (pg_md M5), cg_mo u, cg_ms u, cg_mq u, cg_se u, cg_sc u, cg_re u)) (T := T) hT hM5 hms (by rw [hw]; exact hwt) (by omega) (by omega)) (by omega) (Nat.le_of_ble_eq_true rfl) (fun h1 hq => ?_)
  obtain ⟨R18, hh, hR18⟩ := hq
  obtain rfl := (show h1 = hA t (cg_let u, cg_lc u, cg_rt u, cg_rl u, cg_ra u, cg_rf u, cg_rn u, cg_rc u, cg_now u, cg_dra u, cg_kep u, cg_im u, (pg_mp M5), (pg_mw M5), (pg_mu M5), (pg_mn M5), (pg_mi M5), (pg_mc M5), (pg_md M5), (qg_mo R18), (qg_ms R18), (qg_mq R18), cg_se u, cg_sc u, cg_re u) from hh)
  rw [hw] at hR18
  exact z_vret eX3_morningOf_21 ⟨rfl, M5, R18, rfl, hM5, hR18⟩
set_option maxHeartbeats 1000000 in
set_option maxRecDepth 100000 in
theorem s3_lastOutOf_dra {t : zMod} {u : zCls} {T : zTown} (hc : cT (cg_dra u) T) (hms : ∀ i, cg_ms u i ≤ 2147483647) : Mi mX3_lastOutOf 6 [.ref 11, .ref 24] (hA t u) (fun r h' => ∃ (M' : zMp) (R' : zMr), h' = hA t (cg_let u, cg_lc u, cg_rt u, cg_rl u, cg_ra u, cg_rf u, cg_rn u, cg_rc u, cg_now u, cg_dra u, cg_kep u, cg_im u, (pg_mp M'), (pg_mw M'), (pg_mu M'), (pg_mn M'), (pg_mi M'), (pg_mc M'), (pg_md M'), (qg_mo R'), (qg_ms R'), (qg_mq R'), cg_se u, cg_sc u, cg_re u) ∧ r = nI (zmx (qg_mo R') (tg_people T)) ∧ pPr M' T ∧ qRs R' T 0 0) := by
  obtain ⟨he, hT, hty, hk10⟩ := id hc
  have h7 := hT.1
  have hpw9 : 2 ^ tg_people T ≤ 2 ^ 7 := Nat.pow_le_pow_right (by omega) h7
  refine Mi.of (by decide) rfl (Nat.le_of_ble_eq_true rfl) ?_
  refine r_aload_n eX3_lastOutOf_0 rfl rfl ?_
  refine r_aload_n eX3_lastOutOf_1 rfl rfl ?_
  refine r_callVv1 eX3_lastOutOf_2 lX3_117 (Or.inl ⟨_, _, _, rfl, rfl, rfl⟩) (s3_morningOf_dra (t := t) (u := u) (T := T) hc hms) (by omega) (Nat.le_of_ble_eq_true rfl) (fun h1 hq => ?_)
  obtain ⟨M2, R2, hh, hM2, hR2⟩ := hq
  obtain rfl := (show h1 = hA t (cg_let u, cg_lc u, cg_rt u, cg_rl u, cg_ra u, cg_rf u, cg_rn u, cg_rc u, cg_now u, cg_dra u, cg_kep u, cg_im u, (pg_mp M2), (pg_mw M2), (pg_mu M2), (pg_mn M2), (pg_mi M2), (pg_mc M2), (pg_md M2), (qg_mo R2), (qg_ms R2), (qg_mq R2), cg_se u, cg_sc u, cg_re u) from hh)
  refine r_aload_n eX3_lastOutOf_5 rfl rfl ?_
  refine r_getf (v := .ref 40) eX3_lastOutOf_6 fX3_36 rfl rfl ?_
  refine r_callVi0 eX3_lastOutOf_9 lX3_151 (Or.inl ⟨_, _, _, rfl, rfl, rfl⟩) (s0_lastOutT (t := t) (u := (cg_let u, cg_lc u, cg_rt u, cg_rl u, cg_ra u, cg_rf u, cg_rn u, cg_rc u, cg_now u, cg_dra u, cg_kep u, cg_im u, (pg_mp M2), (pg_mw M2), (pg_mu M2), (pg_mn M2), (pg_mi M2), (pg_mc M2), (pg_md M2), (qg_mo R2), (qg_ms R2), (qg_mq R2), cg_se u, cg_sc u, cg_re u)) (T := T) hT hM2.1 hR2) (by omega) (Nat.le_of_ble_eq_true rfl) (fun r1 h1 hq => ?_)
  obtain ⟨rfl, rfl⟩ := (show r1 = nI (zmx (qg_mo R2) (tg_people T)) ∧ h1 = hA t (cg_let u, cg_lc u, cg_rt u, cg_rl u, cg_ra u, cg_rf u, cg_rn u, cg_rc u, cg_now u, cg_dra u, cg_kep u, cg_im u, (pg_mp M2), (pg_mw M2), (pg_mu M2), (pg_mn M2), (pg_mi M2), (pg_mc M2), (pg_md M2), (qg_mo R2), (qg_ms R2), (qg_mq R2), cg_se u, cg_sc u, cg_re u) from hq)
  have hz9 := zV2_or (qRs_all hR2)
  exact z_iret eX3_lastOutOf_12 rfl rfl ⟨_, rfl, M2, R2, rfl, rfl, hM2, hR2⟩
