/-! THE CLASS: the fewest, the best, doors broken, gone -/
theorem tFew_end {T : zTown} {f : Option Nat} {g0 : Nat} (hT : tOk T) (hg0 : tFew T = some g0) (hf : zlea (zcnt 7) (fun s => decide (tAll (tWt T s) 1 0 < 1000000)) (2 ^ tg_people T - 1) = f) : f.getD (2 ^ tg_people T - 1) = g0 := by
  have h7 := hT.1
  have hp := Nat.two_pow_pos (tg_people T)
  have hp7 : 2 ^ tg_people T ≤ 2 ^ 7 := Nat.pow_le_pow_right (by omega) h7
  have e : 2 ^ tg_people T = (2 ^ tg_people T - 1) + 1 := by omega
  have hg : zlea (zcnt 7) (fun s => decide (tAll (tWt T s) 1 0 < 1000000)) ((2 ^ tg_people T - 1) + 1) = some g0 := by rw [← e]; exact hg0
  cases f with
  | none =>
    rw [zlea_n hf] at hg
    split at hg
    · exact Option.some.inj hg
    · cases hg
  | some b =>
    have hb := zlea_lt hf
    have := zcnt_full (tg_people T) (by omega) b (by omega) hb
    rw [zlea_s hf, if_neg (fun z => by have := z.1; omega)] at hg
    exact Option.some.inj hg
theorem zgetD_lt {f : Option Nat} {cost : Nat → Nat} {ok : Nat → Bool} {s m : Nat} (hf : zlea cost ok s = f) (hs : s ≤ m) (hm : 0 < m) : f.getD (m - 1) < m := by
  cases f with
  | none => show m - 1 < m; omega
  | some b => have := zlea_lt hf; show b < m; omega
set_option maxHeartbeats 1000000 in
set_option maxRecDepth 100000 in
theorem s3_few_l {t : zMod} {u : zCls} {T : zTown} (hc : cT (cg_now u) T) {g0 : Nat} (hg0 : tFew T = some g0) {M : zMp} (hM : pPr M T) : ∀ (k : Nat) (se : Nat) (f : Option Nat) (R : zMr) (hd : se + k = 2 ^ tg_people T - 1) (hf : zlea (zcnt 7) (fun s => decide (tAll (tWt T s) 1 0 < 1000000)) se = f) (hR : ∀ i, qg_ms R i ≤ 2147483647), Rq mX3_fewestWatchers 5 none 21 [.ref 11, .int (nI (f.getD (2 ^ tg_people T - 1))), .int (nI (se))] [] (hA t (cg_let u, cg_lc u, cg_rt u, cg_rl u, cg_ra u, cg_rf u, cg_rn u, cg_rc u, cg_now u, cg_dra u, cg_kep u, cg_im u, (pg_mp M), (pg_mw M), (pg_mu M), (pg_mn M), (pg_mi M), (pg_mc M), (pg_md M), (qg_mo R), (qg_ms R), (qg_mq R), cg_se u, cg_sc u, cg_re u)) (fun r h' => ∃ x, r = some x ∧ (∃ (M' : zMp) (R' : zMr), h' = hA t (cg_let u, cg_lc u, cg_rt u, cg_rl u, cg_ra u, cg_rf u, cg_rn u, cg_rc u, cg_now u, cg_dra u, cg_kep u, cg_im u, (pg_mp M'), (pg_mw M'), (pg_mu M'), (pg_mn M'), (pg_mi M'), (pg_mc M'), (pg_md M'), (qg_mo R'), (qg_ms R'), (qg_mq R'), cg_se u, cg_sc u, cg_re u) ∧ x = nI g0 ∧ pPr M' T ∧ ∀ i, qg_ms R' i ≤ 2147483647)) := by
  intro k
  induction k with
  | zero =>
    intro se f R hd hf hR
    obtain ⟨he, hT, hty, hk10⟩ := id hc
    have h7 := hT.1
    have hpw9 : 2 ^ tg_people T ≤ 2 ^ 7 := Nat.pow_le_pow_right (by omega) h7
    have ho := he.ok hT
    obtain ⟨he1, he2, he3, he4, he5, he6, he7⟩ := id he
    have hwt9 := hT.2.2.2.1
    have hpp9 := Nat.two_pow_pos (tg_people T)
    have e9 : se = 2 ^ tg_people T - 1 := by omega
    subst e9
    refine r_iload_n eX3_fewestWatchers_21 rfl rfl ?_
    refine r_aload_n eX3_fewestWatchers_22 rfl rfl ?_
    refine r_getf (v := .ref 16) eX3_fewestWatchers_23 fX3_23 rfl rfl ?_
    refine r_callVi0 eX3_fewestWatchers_26 lX3_110 (Or.inl ⟨_, _, _, rfl, rfl, rfl⟩) (s2_everyone_now (t := t) (u := (cg_let u, cg_lc u, cg_rt u, cg_rl u, cg_ra u, cg_rf u, cg_rn u, cg_rc u, cg_now u, cg_dra u, cg_kep u, cg_im u, (pg_mp M), (pg_mw M), (pg_mu M), (pg_mn M), (pg_mi M), (pg_mc M), (pg_md M), (qg_mo R), (qg_ms R), (qg_mq R), cg_se u, cg_sc u, cg_re u)) ho) (by omega) (Nat.le_of_ble_eq_true rfl) (fun r1 h1 hq => ?_)
    obtain ⟨rfl, rfl⟩ := (show r1 = nI (2 ^ tg_people T - 1) ∧ h1 = hA t (cg_let u, cg_lc u, cg_rt u, cg_rl u, cg_ra u, cg_rf u, cg_rn u, cg_rc u, cg_now u, cg_dra u, cg_kep u, cg_im u, (pg_mp M), (pg_mw M), (pg_mu M), (pg_mn M), (pg_mi M), (pg_mc M), (pg_md M), (qg_mo R), (qg_ms R), (qg_mq R), cg_se u, cg_sc u, cg_re u) from by rw [he1]; exact hq)
    refine n_icmp_ge eX3_fewestWatchers_29 (by omega) (by omega) (fun hc29 => ?_) (fun hc29 => absurd hc29 (by omega))
    refine r_iload_n eX3_fewestWatchers_73 rfl rfl ?_
    have hx := tFew_end hT hg0 hf
    rw [hx]
    exact z_iret eX3_fewestWatchers_74 rfl rfl ⟨_, rfl, M, R, rfl, rfl, hM, hR⟩
  | succ k ih =>
    intro se f R hd hf hR
    obtain ⟨he, hT, hty, hk10⟩ := id hc
    have h7 := hT.1
    have hpw9 : 2 ^ tg_people T ≤ 2 ^ 7 := Nat.pow_le_pow_right (by omega) h7
    have ho := he.ok hT
    obtain ⟨he1, he2, he3, he4, he5, he6, he7⟩ := id he
    have hwt9 := hT.2.2.2.1
    have hpp9 := Nat.two_pow_pos (tg_people T)
    have hb9 : f.getD (2 ^ tg_people T - 1) < 2 ^ tg_people T := zgetD_lt hf (by omega) hpp9
    refine r_iload_n eX3_fewestWatchers_21 rfl rfl ?_
    refine r_aload_n eX3_fewestWatchers_22 rfl rfl ?_
    refine r_getf (v := .ref 16) eX3_fewestWatchers_23 fX3_23 rfl rfl ?_
    refine r_callVi0 eX3_fewestWatchers_26 lX3_110 (Or.inl ⟨_, _, _, rfl, rfl, rfl⟩) (s2_everyone_now (t := t) (u := (cg_let u, cg_lc u, cg_rt u, cg_rl u, cg_ra u, cg_rf u, cg_rn u, cg_rc u, cg_now u, cg_dra u, cg_kep u, cg_im u, (pg_mp M), (pg_mw M), (pg_mu M), (pg_mn M), (pg_mi M), (pg_mc M), (pg_md M), (qg_mo R), (qg_ms R), (qg_mq R), cg_se u, cg_sc u, cg_re u)) ho) (by omega) (Nat.le_of_ble_eq_true rfl) (fun r1 h1 hq => ?_)
    obtain ⟨rfl, rfl⟩ := (show r1 = nI (2 ^ tg_people T - 1) ∧ h1 = hA t (cg_let u, cg_lc u, cg_rt u, cg_rl u, cg_ra u, cg_rf u, cg_rn u, cg_rc u, cg_now u, cg_dra u, cg_kep u, cg_im u, (pg_mp M), (pg_mw M), (pg_mu M), (pg_mn M), (pg_mi M), (pg_mc M), (pg_md M), (qg_mo R), (qg_ms R), (qg_mq R), cg_se u, cg_sc u, cg_re u) from by rw [he1]; exact hq)
    refine n_icmp_ge eX3_fewestWatchers_29 (by omega) (by omega) (fun hc29 => absurd hc29 (by omega)) (fun hc29 => ?_)
    refine r_iload_n eX3_fewestWatchers_32 rfl rfl ?_
    refine r_callSi1 eX3_fewestWatchers_33 lX3_139 (s6_bitCount (by omega)) (by omega) (Nat.le_of_ble_eq_true rfl) (fun r1 h1 hq => ?_)
    obtain ⟨rfl, rfl⟩ := hq
    refine r_iload_n eX3_fewestWatchers_36 rfl rfl ?_
    refine r_callSi1 eX3_fewestWatchers_37 lX3_139 (s6_bitCount (by omega)) (by omega) (Nat.le_of_ble_eq_true rfl) (fun r1 h1 hq => ?_)
    obtain ⟨rfl, rfl⟩ := hq
    have zc1 := zcnt_le 7 se
    have zc2 := zcnt_le 7 (f.getD (2 ^ tg_people T - 1))
    refine n_icmp_ge eX3_fewestWatchers_40 (by omega) (by omega) (fun hc40 => ?_) (fun hc40 => ?_)
    · refine n_iinc (k := 1) eX3_fewestWatchers_67 rfl (by decide) rfl ?_
      refine r_goto eX3_fewestWatchers_70 ?_
      refine ih (se + 1) f R (by omega) ?_ hR
      cases f with
      | none => exact absurd (zcnt_full (tg_people T) (by omega) se (by omega) (by omega)) (Nat.not_lt.mpr hc40)
      | some b => rw [zlea_s hf, if_neg (fun z => absurd z.1 (Nat.not_lt.mpr hc40))]
    · refine r_aload_n eX3_fewestWatchers_43 rfl rfl ?_
      refine r_getf (v := .ref 40) eX3_fewestWatchers_44 fX3_36 rfl rfl ?_
      refine r_iload_n eX3_fewestWatchers_47 rfl rfl ?_
      refine n_iconst 0 eX3_fewestWatchers_48 rfl ?_
      refine n_iconst 0 eX3_fewestWatchers_49 rfl ?_
      refine r_callVv3 eX3_fewestWatchers_50 lX3_147 (Or.inl ⟨_, _, _, rfl, rfl, rfl⟩) (s0_passT (t := t) (u := (cg_let u, cg_lc u, cg_rt u, cg_rl u, cg_ra u, cg_rf u, cg_rn u, cg_rc u, cg_now u, cg_dra u, cg_kep u, cg_im u, (pg_mp M), (pg_mw M), (pg_mu M), (pg_mn M), (pg_mi M), (pg_mc M), (pg_md M), (qg_mo R), (qg_ms R), (qg_mq R), cg_se u, cg_sc u, cg_re u)) (T := T) hT hM hR (show se < 2 ^ tg_people T by omega) (by omega) (by omega)) (by omega) (Nat.le_of_ble_eq_true rfl) (fun h1 hq => ?_)
      obtain ⟨R50, hh, hR50⟩ := hq
      obtain rfl := (show h1 = hA t (cg_let u, cg_lc u, cg_rt u, cg_rl u, cg_ra u, cg_rf u, cg_rn u, cg_rc u, cg_now u, cg_dra u, cg_kep u, cg_im u, (pg_mp M), (pg_mw M), (pg_mu M), (pg_mn M), (pg_mi M), (pg_mc M), (pg_md M), (qg_mo R50), (qg_ms R50), (qg_mq R50), cg_se u, cg_sc u, cg_re u) from hh)
      refine r_aload_n eX3_fewestWatchers_53 rfl rfl ?_
      refine r_getf (v := .ref 40) eX3_fewestWatchers_54 fX3_36 rfl rfl ?_
      refine r_callVi0 eX3_fewestWatchers_57 lX3_151 (Or.inl ⟨_, _, _, rfl, rfl, rfl⟩) (s0_lastOutT (t := t) (u := (cg_let u, cg_lc u, cg_rt u, cg_rl u, cg_ra u, cg_rf u, cg_rn u, cg_rc u, cg_now u, cg_dra u, cg_kep u, cg_im u, (pg_mp M), (pg_mw M), (pg_mu M), (pg_mn M), (pg_mi M), (pg_mc M), (pg_md M), (qg_mo R50), (qg_ms R50), (qg_mq R50), cg_se u, cg_sc u, cg_re u)) (T := (tWt T se)) (tWt_ok hT (by omega)) hM.1 hR50) (by omega) (Nat.le_of_ble_eq_true rfl) (fun r1 h1 hq => ?_)
      obtain ⟨rfl, rfl⟩ := (show r1 = nI (zmx (qg_mo R50) (tg_people T)) ∧ h1 = hA t (cg_let u, cg_lc u, cg_rt u, cg_rl u, cg_ra u, cg_rf u, cg_rn u, cg_rc u, cg_now u, cg_dra u, cg_kep u, cg_im u, (pg_mp M), (pg_mw M), (pg_mu M), (pg_mn M), (pg_mi M), (pg_mc M), (pg_md M), (qg_mo R50), (qg_ms R50), (qg_mq R50), cg_se u, cg_sc u, cg_re u) from hq)
      have hz57 := zV2_or (show zV2 1000000 2147483647 500000 (tAll (tWt T se) 1 0) (zmx (qg_mo R50) (tg_people T)) from qRs_all hR50)
      refine n_ldc 2147483647 eX3_fewestWatchers_60 kX3_188 rfl ?_
      refine n_icmp_eq eX3_fewestWatchers_62 (by omega) (by omega) (fun hc62 => ?_) (fun hc62 => ?_)
      · refine n_iinc (k := 1) eX3_fewestWatchers_67 rfl (by decide) rfl ?_
        refine r_goto eX3_fewestWatchers_70 ?_
        have hno : ¬ tAll (tWt T se) 1 0 < 1000000 := by omega
        refine ih (se + 1) f R50 (by omega) ?_ hR50.2.1
        cases f with
        | none => rw [zlea_n hf, if_neg (fun z => hno (of_decide_eq_true z))]
        | some b => rw [zlea_s hf, if_neg (fun z => hno (of_decide_eq_true z.2))]
      · refine r_iload_n eX3_fewestWatchers_65 rfl rfl ?_
        refine r_istore_n eX3_fewestWatchers_66 rfl (by decide) ?_
        refine n_iinc (k := 1) eX3_fewestWatchers_67 rfl (by decide) rfl ?_
        refine r_goto eX3_fewestWatchers_70 ?_
        have hyes : tAll (tWt T se) 1 0 < 1000000 := by omega
        refine ih (se + 1) (some se) R50 (by omega) ?_ hR50.2.1
        cases f with
        | none => rw [zlea_n hf, if_pos (decide_eq_true hyes)]
        | some b => rw [zlea_s hf, if_pos ⟨hc40, decide_eq_true hyes⟩]
set_option maxHeartbeats 1000000 in
set_option maxRecDepth 100000 in
theorem s3_fewestWatchers {t : zMod} {u : zCls} {T : zTown} (hc : cT (cg_now u) T) (hms : ∀ i, cg_ms u i ≤ 2147483647) {g0 : Nat} (hg0 : tFew T = some g0) : Mi mX3_fewestWatchers 5 [.ref 11] (hA t u) (fun r h' => ∃ (M' : zMp) (R' : zMr), h' = hA t (cg_let u, cg_lc u, cg_rt u, cg_rl u, cg_ra u, cg_rf u, cg_rn u, cg_rc u, cg_now u, cg_dra u, cg_kep u, cg_im u, (pg_mp M'), (pg_mw M'), (pg_mu M'), (pg_mn M'), (pg_mi M'), (pg_mc M'), (pg_md M'), (qg_mo R'), (qg_ms R'), (qg_mq R'), cg_se u, cg_sc u, cg_re u) ∧ r = nI g0 ∧ pPr M' T ∧ ∀ i, qg_ms R' i ≤ 2147483647) := by
  obtain ⟨he, hT, hty, hk10⟩ := id hc
  have h7 := hT.1
  have hpw9 : 2 ^ tg_people T ≤ 2 ^ 7 := Nat.pow_le_pow_right (by omega) h7
  have ho := he.ok hT
  obtain ⟨he1, he2, he3, he4, he5, he6, he7⟩ := id he
  have hwt9 := hT.2.2.2.1
  have hpp9 := Nat.two_pow_pos (tg_people T)
  refine Mi.of (by decide) rfl (Nat.le_of_ble_eq_true rfl) ?_
  refine r_aload_n eX3_fewestWatchers_0 rfl rfl ?_
  refine r_getf (v := .ref 40) eX3_fewestWatchers_1 fX3_36 rfl rfl ?_
  refine r_aload_n eX3_fewestWatchers_4 rfl rfl ?_
  refine r_getf (v := .ref 16) eX3_fewestWatchers_5 fX3_23 rfl rfl ?_
  refine r_callVv1 eX3_fewestWatchers_8 lX3_166 (Or.inl ⟨_, _, _, rfl, rfl, rfl⟩) (s0_prepareT_now (t := t) (u := u) (T := T) hc) (by omega) (Nat.le_of_ble_eq_true rfl) (fun h1 hq => ?_)
  obtain ⟨M8, hh, hM8⟩ := hq
  obtain rfl := (show h1 = hA t (cg_let u, cg_lc u, cg_rt u, cg_rl u, cg_ra u, cg_rf u, cg_rn u, cg_rc u, cg_now u, cg_dra u, cg_kep u, cg_im u, (pg_mp M8), (pg_mw M8), (pg_mu M8), (pg_mn M8), (pg_mi M8), (pg_mc M8), (pg_md M8), cg_mo u, cg_ms u, cg_mq u, cg_se u, cg_sc u, cg_re u) from hh)
  refine r_aload_n eX3_fewestWatchers_11 rfl rfl ?_
  refine r_getf (v := .ref 16) eX3_fewestWatchers_12 fX3_23 rfl rfl ?_
  refine r_callVi0 eX3_fewestWatchers_15 lX3_110 (Or.inl ⟨_, _, _, rfl, rfl, rfl⟩) (s2_everyone_now (t := t) (u := (cg_let u, cg_lc u, cg_rt u, cg_rl u, cg_ra u, cg_rf u, cg_rn u, cg_rc u, cg_now u, cg_dra u, cg_kep u, cg_im u, (pg_mp M8), (pg_mw M8), (pg_mu M8), (pg_mn M8), (pg_mi M8), (pg_mc M8), (pg_md M8), cg_mo u, cg_ms u, cg_mq u, cg_se u, cg_sc u, cg_re u)) ho) (by omega) (Nat.le_of_ble_eq_true rfl) (fun r1 h1 hq => ?_)
  obtain ⟨rfl, rfl⟩ := (show r1 = nI (2 ^ tg_people T - 1) ∧ h1 = hA t (cg_let u, cg_lc u, cg_rt u, cg_rl u, cg_ra u, cg_rf u, cg_rn u, cg_rc u, cg_now u, cg_dra u, cg_kep u, cg_im u, (pg_mp M8), (pg_mw M8), (pg_mu M8), (pg_mn M8), (pg_mi M8), (pg_mc M8), (pg_md M8), cg_mo u, cg_ms u, cg_mq u, cg_se u, cg_sc u, cg_re u) from by rw [he1]; exact hq)
  refine r_istore_n eX3_fewestWatchers_18 rfl (by decide) ?_
  refine n_iconst 0 eX3_fewestWatchers_19 rfl ?_
  refine r_istore_n eX3_fewestWatchers_20 rfl (by decide) ?_
  exact s3_few_l hc hg0 hM8 (2 ^ tg_people T - 1) 0 none (cg_mo u, cg_ms u, cg_mq u) (Nat.zero_add _) rfl hms
set_option maxHeartbeats 1000000 in
set_option maxRecDepth 100000 in
theorem s3_fewest_o {t : zMod} {u : zCls} {x : Int32} (hx : x < 0 ∨ nI 2 ≤ x) : Mi mX3_fewest 8 [.ref 11, .int (x)] (hA t u) (fun r h' => r = (-2) ∧ h' = hA t (cg_let u, cg_lc u, cg_rt u, cg_rl u, cg_ra u, cg_rf u, cg_rn u, cg_rc u, cg_now u, cg_dra u, cg_kep u, cg_im u, cg_mp u, cg_mw u, cg_mu u, cg_mn u, cg_mi u, cg_mc u, cg_md u, cg_mo u, cg_ms u, cg_mq u, cg_se u, cg_sc u, (va_up (cg_re u) 2 (cg_re u 2 + 1)))) := by
  have hx0 : ¬ x = 0 := zne_of (k := 0) hx (by omega) (by omega)
  have hx1 : ¬ x = nI 1 := zne_of (k := 1) hx (by omega) (by omega)
  refine Mi.of (by decide) rfl (Nat.le_of_ble_eq_true rfl) ?_
  refine r_iload_n eX3_fewest_0 rfl rfl ?_
  refine r_if_eq eX3_fewest_1 (fun hc1 => absurd hc1 hx0) (fun hc1 => ?_)
  refine r_iload_n eX3_fewest_4 rfl rfl ?_
  refine n_iconst 1 eX3_fewest_5 rfl ?_
  refine r_icmp_eq eX3_fewest_6 (fun hc6 => absurd hc6 hx1) (fun hc6 => ?_)
  refine r_aload_n eX3_fewest_9 rfl rfl ?_
  refine r_bipush (v := (-2)) eX3_fewest_10 rfl ?_
  refine r_callVi1 eX3_fewest_12 lX3_46 (Or.inl ⟨_, _, _, rfl, rfl, rfl⟩) (s3_refuse (t := t) (u := u) (x := (-2)) (c := 2) (by decide) (by decide)) (by omega) (Nat.le_of_ble_eq_true rfl) (fun r1 h1 hq => ?_)
  obtain ⟨rfl, rfl⟩ := (show r1 = (-2) ∧ h1 = hA t (cg_let u, cg_lc u, cg_rt u, cg_rl u, cg_ra u, cg_rf u, cg_rn u, cg_rc u, cg_now u, cg_dra u, cg_kep u, cg_im u, cg_mp u, cg_mw u, cg_mu u, cg_mn u, cg_mi u, cg_mc u, cg_md u, cg_mo u, cg_ms u, cg_mq u, cg_se u, cg_sc u, (va_up (cg_re u) 2 ((cg_re u) 2 + 1))) from hq)
  exact z_iret eX3_fewest_15 rfl rfl ⟨_, rfl, rfl, rfl⟩
set_option maxHeartbeats 1000000 in
set_option maxRecDepth 100000 in
theorem s3_fewest_0 {t : zMod} {u : zCls} {T : zTown} (hc : cT (cg_now u) T) (hms : ∀ i, cg_ms u i ≤ 2147483647) {g0 : Nat} (hg0 : tFew T = some g0) : Mi mX3_fewest 8 [.ref 11, .int (nI (0))] (hA t u) (fun r h' => ∃ (M' : zMp) (R' : zMr), h' = hA t (cg_let u, cg_lc u, cg_rt u, cg_rl u, cg_ra u, cg_rf u, cg_rn u, cg_rc u, cg_now u, cg_dra u, cg_kep u, cg_im u, (pg_mp M'), (pg_mw M'), (pg_mu M'), (pg_mn M'), (pg_mi M'), (pg_mc M'), (pg_md M'), (qg_mo R'), (qg_ms R'), (qg_mq R'), cg_se u, cg_sc u, cg_re u) ∧ r = nI (zcnt 7 g0) ∧ (∀ i, qg_ms R' i ≤ 2147483647)) := by
  obtain ⟨he, hT, hty, hk10⟩ := id hc
  have h7 := hT.1
  have hpw9 : 2 ^ tg_people T ≤ 2 ^ 7 := Nat.pow_le_pow_right (by omega) h7
  have ho := he.ok hT
  obtain ⟨he1, he2, he3, he4, he5, he6, he7⟩ := id he
  have hwt9 := hT.2.2.2.1
  have hpp9 := Nat.two_pow_pos (tg_people T)
  have hgl : g0 < 2 ^ tg_people T := zlea_lt hg0
  have zc9 := zcnt_le 7 g0
  refine Mi.of (by decide) rfl (Nat.le_of_ble_eq_true rfl) ?_
  refine r_iload_n eX3_fewest_0 rfl rfl ?_
  refine n_if_eq eX3_fewest_1 (by omega) (fun hc1 => ?_) (fun hc1 => absurd hc1 (by decide))
  refine r_aload_n eX3_fewest_16 rfl rfl ?_
  refine r_callVi0 eX3_fewest_17 lX3_136 (Or.inl ⟨_, _, _, rfl, rfl, rfl⟩) (s3_fewestWatchers (t := t) (u := u) (T := T) hc hms hg0) (by omega) (Nat.le_of_ble_eq_true rfl) (fun r1 h1 hq => ?_)
  obtain ⟨M17, R17, hh, hr, hM17, hR17⟩ := hq
  obtain rfl := (show h1 = hA t (cg_let u, cg_lc u, cg_rt u, cg_rl u, cg_ra u, cg_rf u, cg_rn u, cg_rc u, cg_now u, cg_dra u, cg_kep u, cg_im u, (pg_mp M17), (pg_mw M17), (pg_mu M17), (pg_mn M17), (pg_mi M17), (pg_mc M17), (pg_md M17), (qg_mo R17), (qg_ms R17), (qg_mq R17), cg_se u, cg_sc u, cg_re u) from hh)
  obtain rfl := (show r1 = nI (g0) from hr)
  refine r_istore_n eX3_fewest_20 rfl (by decide) ?_
  refine r_iload_n eX3_fewest_21 rfl rfl ?_
  refine n_if_ne eX3_fewest_22 (by omega) (fun hc22 => absurd hc22 (by decide)) (fun hc22 => ?_)
  refine r_iload_n eX3_fewest_25 rfl rfl ?_
  refine r_callSi1 eX3_fewest_26 lX3_139 (s6_bitCount (by omega)) (by omega) (Nat.le_of_ble_eq_true rfl) (fun r1 h1 hq => ?_)
  obtain ⟨rfl, rfl⟩ := hq
  refine r_goto eX3_fewest_29 ?_
  exact z_iret eX3_fewest_33 rfl rfl ⟨_, rfl, M17, R17, rfl, rfl, hR17⟩
set_option maxHeartbeats 1000000 in
set_option maxRecDepth 100000 in
theorem s3_fewest_1 {t : zMod} {u : zCls} {T : zTown} (hc : cT (cg_now u) T) (hms : ∀ i, cg_ms u i ≤ 2147483647) {g0 : Nat} (hg0 : tFew T = some g0) : Mi mX3_fewest 8 [.ref 11, .int (nI (1))] (hA t u) (fun r h' => ∃ (M' : zMp) (R' : zMr), h' = hA t (cg_let u, cg_lc u, cg_rt u, cg_rl u, cg_ra u, cg_rf u, cg_rn u, cg_rc u, cg_now u, cg_dra u, cg_kep u, cg_im u, (pg_mp M'), (pg_mw M'), (pg_mu M'), (pg_mn M'), (pg_mi M'), (pg_mc M'), (pg_md M'), (qg_mo R'), (qg_ms R'), (qg_mq R'), cg_se u, cg_sc u, cg_re u) ∧ r = nI g0 ∧ (∀ i, qg_ms R' i ≤ 2147483647)) := by
  obtain ⟨he, hT, hty, hk10⟩ := id hc
  have h7 := hT.1
  have hpw9 : 2 ^ tg_people T ≤ 2 ^ 7 := Nat.pow_le_pow_right (by omega) h7
  have ho := he.ok hT
  obtain ⟨he1, he2, he3, he4, he5, he6, he7⟩ := id he
  have hwt9 := hT.2.2.2.1
  have hpp9 := Nat.two_pow_pos (tg_people T)
  have hgl : g0 < 2 ^ tg_people T := zlea_lt hg0
  have zc9 := zcnt_le 7 g0
  refine Mi.of (by decide) rfl (Nat.le_of_ble_eq_true rfl) ?_
  refine r_iload_n eX3_fewest_0 rfl rfl ?_
  refine n_if_eq eX3_fewest_1 (by omega) (fun hc1 => absurd hc1 (by decide)) (fun hc1 => ?_)
  refine r_iload_n eX3_fewest_4 rfl rfl ?_
  refine n_iconst 1 eX3_fewest_5 rfl ?_
  refine n_icmp_eq eX3_fewest_6 (by omega) (by omega) (fun hc6 => ?_) (fun hc6 => absurd hc6 (by decide))
  refine r_aload_n eX3_fewest_16 rfl rfl ?_
  refine r_callVi0 eX3_fewest_17 lX3_136 (Or.inl ⟨_, _, _, rfl, rfl, rfl⟩) (s3_fewestWatchers (t := t) (u := u) (T := T) hc hms hg0) (by omega) (Nat.le_of_ble_eq_true rfl) (fun r1 h1 hq => ?_)
  obtain ⟨M17, R17, hh, hr, hM17, hR17⟩ := hq
  obtain rfl := (show h1 = hA t (cg_let u, cg_lc u, cg_rt u, cg_rl u, cg_ra u, cg_rf u, cg_rn u, cg_rc u, cg_now u, cg_dra u, cg_kep u, cg_im u, (pg_mp M17), (pg_mw M17), (pg_mu M17), (pg_mn M17), (pg_mi M17), (pg_mc M17), (pg_md M17), (qg_mo R17), (qg_ms R17), (qg_mq R17), cg_se u, cg_sc u, cg_re u) from hh)
  obtain rfl := (show r1 = nI (g0) from hr)
  refine r_istore_n eX3_fewest_20 rfl (by decide) ?_
  refine r_iload_n eX3_fewest_21 rfl rfl ?_
  refine n_if_ne eX3_fewest_22 (by omega) (fun hc22 => ?_) (fun hc22 => absurd hc22 (by decide))
  refine r_iload_n eX3_fewest_32 rfl rfl ?_
  exact z_iret eX3_fewest_33 rfl rfl ⟨_, rfl, M17, R17, rfl, rfl, hR17⟩
set_option maxHeartbeats 1000000 in
set_option maxRecDepth 100000 in
theorem s3_soo_l {t : zMod} {u : zCls} {T : zTown} (hc : cT (cg_now u) T) {c b0 : Nat} (hc7 : c ≤ 7) (hb0 : tSoo T c = some b0) (hout : tAll (tWt T b0) 0 0 < 1000000) {M : zMp} (hM : pPr M T) : ∀ (k : Nat) (se : Nat) (f : Option Nat) (bb : Nat) (ll : Nat) (R : zMr) (hd : se + k = 2 ^ tg_people T) (hf : zsoo c (fun s => tAll (tWt T s) 0 0) se = f) (hR : ∀ i, qg_ms R i ≤ 2147483647) (hbl : (ll = 2147483647 ∧ bb = 2 ^ tg_people T - 1 ∧ (f = none ∨ ∃ b, f = some b ∧ tAll (tWt T b) 0 0 = 1000000)) ∨ (∃ b, f = some b ∧ bb = b ∧ ll = tAll (tWt T b) 0 0 ∧ ll ≤ 500000)), Rq mX3_soonestWatchers 5 none 25 [.ref 11, .int (nI (c)), .int (nI (bb)), .int (nI (ll)), .int (nI (se))] [] (hA t (cg_let u, cg_lc u, cg_rt u, cg_rl u, cg_ra u, cg_rf u, cg_rn u, cg_rc u, cg_now u, cg_dra u, cg_kep u, cg_im u, (pg_mp M), (pg_mw M), (pg_mu M), (pg_mn M), (pg_mi M), (pg_mc M), (pg_md M), (qg_mo R), (qg_ms R), (qg_mq R), cg_se u, cg_sc u, cg_re u)) (fun r h' => ∃ x, r = some x ∧ (∃ (M' : zMp) (R' : zMr), h' = hA t (cg_let u, cg_lc u, cg_rt u, cg_rl u, cg_ra u, cg_rf u, cg_rn u, cg_rc u, cg_now u, cg_dra u, cg_kep u, cg_im u, (pg_mp M'), (pg_mw M'), (pg_mu M'), (pg_mn M'), (pg_mi M'), (pg_mc M'), (pg_md M'), (qg_mo R'), (qg_ms R'), (qg_mq R'), cg_se u, cg_sc u, cg_re u) ∧ x = nI b0 ∧ pPr M' T ∧ ∀ i, qg_ms R' i ≤ 2147483647)) := by
  intro k
  induction k with
  | zero =>
    intro se f bb ll R hd hf hR hbl
    obtain ⟨he, hT, hty, hk10⟩ := id hc
    have h7 := hT.1
    have hpw9 : 2 ^ tg_people T ≤ 2 ^ 7 := Nat.pow_le_pow_right (by omega) h7
    have ho := he.ok hT
    obtain ⟨he1, he2, he3, he4, he5, he6, he7⟩ := id he
    have hwt9 := hT.2.2.2.1
    have hpp9 := Nat.two_pow_pos (tg_people T)
    have e9 : se = 2 ^ tg_people T := by omega
    subst e9
    refine r_iload eX3_soonestWatchers_25 rfl ?_
    refine r_aload_n eX3_soonestWatchers_27 rfl rfl ?_
    refine r_getf (v := .ref 16) eX3_soonestWatchers_28 fX3_23 rfl rfl ?_
    refine r_callVi0 eX3_soonestWatchers_31 lX3_110 (Or.inl ⟨_, _, _, rfl, rfl, rfl⟩) (s2_everyone_now (t := t) (u := (cg_let u, cg_lc u, cg_rt u, cg_rl u, cg_ra u, cg_rf u, cg_rn u, cg_rc u, cg_now u, cg_dra u, cg_kep u, cg_im u, (pg_mp M), (pg_mw M), (pg_mu M), (pg_mn M), (pg_mi M), (pg_mc M), (pg_md M), (qg_mo R), (qg_ms R), (qg_mq R), cg_se u, cg_sc u, cg_re u)) ho) (by omega) (Nat.le_of_ble_eq_true rfl) (fun r1 h1 hq => ?_)
    obtain ⟨rfl, rfl⟩ := (show r1 = nI (2 ^ tg_people T - 1) ∧ h1 = hA t (cg_let u, cg_lc u, cg_rt u, cg_rl u, cg_ra u, cg_rf u, cg_rn u, cg_rc u, cg_now u, cg_dra u, cg_kep u, cg_im u, (pg_mp M), (pg_mw M), (pg_mu M), (pg_mn M), (pg_mi M), (pg_mc M), (pg_md M), (qg_mo R), (qg_ms R), (qg_mq R), cg_se u, cg_sc u, cg_re u) from by rw [he1]; exact hq)
    refine n_icmp_gt eX3_soonestWatchers_34 (by omega) (by omega) (fun hc34 => ?_) (fun hc34 => absurd hc34 (by omega))
    refine r_iload_n eX3_soonestWatchers_85 rfl rfl ?_
    have hx : bb = b0 := by
      have hb0 : zsoo c (fun s => tAll (tWt T s) 0 0) (2 ^ tg_people T) = some b0 := hb0
      rw [hf] at hb0
      rcases hbl with ⟨l1, l2, l3⟩ | ⟨b, l1, l2, l3, l4⟩
      · rcases l3 with l3 | ⟨b, k1, k2⟩
        · rw [l3] at hb0; cases hb0
        · rw [k1] at hb0; cases hb0; omega
      · rw [l1] at hb0; cases hb0; exact l2
    rw [hx]
    exact z_iret eX3_soonestWatchers_86 rfl rfl ⟨_, rfl, M, R, rfl, rfl, hM, hR⟩
  | succ k ih =>
    intro se f bb ll R hd hf hR hbl
    obtain ⟨he, hT, hty, hk10⟩ := id hc
    have h7 := hT.1
    have hpw9 : 2 ^ tg_people T ≤ 2 ^ 7 := Nat.pow_le_pow_right (by omega) h7
    have ho := he.ok hT
    obtain ⟨he1, he2, he3, he4, he5, he6, he7⟩ := id he
    have hwt9 := hT.2.2.2.1
    have hpp9 := Nat.two_pow_pos (tg_people T)
    have hll9 : ll ≤ 2147483647 := by rcases hbl with ⟨l1, l2, l3⟩ | ⟨b, l1, l2, l3, l4⟩ <;> omega
    refine r_iload eX3_soonestWatchers_25 rfl ?_
    refine r_aload_n eX3_soonestWatchers_27 rfl rfl ?_
    refine r_getf (v := .ref 16) eX3_soonestWatchers_28 fX3_23 rfl rfl ?_
    refine r_callVi0 eX3_soonestWatchers_31 lX3_110 (Or.inl ⟨_, _, _, rfl, rfl, rfl⟩) (s2_everyone_now (t := t) (u := (cg_let u, cg_lc u, cg_rt u, cg_rl u, cg_ra u, cg_rf u, cg_rn u, cg_rc u, cg_now u, cg_dra u, cg_kep u, cg_im u, (pg_mp M), (pg_mw M), (pg_mu M), (pg_mn M), (pg_mi M), (pg_mc M), (pg_md M), (qg_mo R), (qg_ms R), (qg_mq R), cg_se u, cg_sc u, cg_re u)) ho) (by omega) (Nat.le_of_ble_eq_true rfl) (fun r1 h1 hq => ?_)
    obtain ⟨rfl, rfl⟩ := (show r1 = nI (2 ^ tg_people T - 1) ∧ h1 = hA t (cg_let u, cg_lc u, cg_rt u, cg_rl u, cg_ra u, cg_rf u, cg_rn u, cg_rc u, cg_now u, cg_dra u, cg_kep u, cg_im u, (pg_mp M), (pg_mw M), (pg_mu M), (pg_mn M), (pg_mi M), (pg_mc M), (pg_md M), (qg_mo R), (qg_ms R), (qg_mq R), cg_se u, cg_sc u, cg_re u) from by rw [he1]; exact hq)
    refine n_icmp_gt eX3_soonestWatchers_34 (by omega) (by omega) (fun hc34 => absurd hc34 (by omega)) (fun hc34 => ?_)
    refine r_iload eX3_soonestWatchers_37 rfl ?_
    refine r_callSi1 eX3_soonestWatchers_39 lX3_139 (s6_bitCount (by omega)) (by omega) (Nat.le_of_ble_eq_true rfl) (fun r1 h1 hq => ?_)
    obtain ⟨rfl, rfl⟩ := hq
    refine r_iload_n eX3_soonestWatchers_42 rfl rfl ?_
    have zc1 := zcnt_le 7 se
    refine n_icmp_ne eX3_soonestWatchers_43 (by omega) (by omega) (fun hc43 => ?_) (fun hc43 => ?_)
    · refine n_iinc (k := 1) eX3_soonestWatchers_79 rfl (by decide) rfl ?_
      refine r_goto eX3_soonestWatchers_82 ?_
      refine ih (se + 1) f bb ll R (by omega) ?_ hR hbl
      cases f with
      | none => rw [zsoo_n hf, if_neg hc43]
      | some b => rw [zsoo_s hf, if_neg (fun z => hc43 z.1)]
    · refine r_aload_n eX3_soonestWatchers_46 rfl rfl ?_
      refine r_getf (v := .ref 40) eX3_soonestWatchers_47 fX3_36 rfl rfl ?_
      refine r_iload eX3_soonestWatchers_50 rfl ?_
      refine n_iconst 0 eX3_soonestWatchers_52 rfl ?_
      refine n_iconst 1 eX3_soonestWatchers_53 rfl ?_
      refine r_callVv3 eX3_soonestWatchers_54 lX3_147 (Or.inl ⟨_, _, _, rfl, rfl, rfl⟩) (s0_passT (t := t) (u := (cg_let u, cg_lc u, cg_rt u, cg_rl u, cg_ra u, cg_rf u, cg_rn u, cg_rc u, cg_now u, cg_dra u, cg_kep u, cg_im u, (pg_mp M), (pg_mw M), (pg_mu M), (pg_mn M), (pg_mi M), (pg_mc M), (pg_md M), (qg_mo R), (qg_ms R), (qg_mq R), cg_se u, cg_sc u, cg_re u)) (T := T) hT hM hR (show se < 2 ^ tg_people T by omega) (by omega) (by omega)) (by omega) (Nat.le_of_ble_eq_true rfl) (fun h1 hq => ?_)
      obtain ⟨R54, hh, hR54⟩ := hq
      obtain rfl := (show h1 = hA t (cg_let u, cg_lc u, cg_rt u, cg_rl u, cg_ra u, cg_rf u, cg_rn u, cg_rc u, cg_now u, cg_dra u, cg_kep u, cg_im u, (pg_mp M), (pg_mw M), (pg_mu M), (pg_mn M), (pg_mi M), (pg_mc M), (pg_md M), (qg_mo R54), (qg_ms R54), (qg_mq R54), cg_se u, cg_sc u, cg_re u) from hh)
      refine r_aload_n eX3_soonestWatchers_57 rfl rfl ?_
      refine r_getf (v := .ref 40) eX3_soonestWatchers_58 fX3_36 rfl rfl ?_
      refine r_callVi0 eX3_soonestWatchers_61 lX3_151 (Or.inl ⟨_, _, _, rfl, rfl, rfl⟩) (s0_lastOutT (t := t) (u := (cg_let u, cg_lc u, cg_rt u, cg_rl u, cg_ra u, cg_rf u, cg_rn u, cg_rc u, cg_now u, cg_dra u, cg_kep u, cg_im u, (pg_mp M), (pg_mw M), (pg_mu M), (pg_mn M), (pg_mi M), (pg_mc M), (pg_md M), (qg_mo R54), (qg_ms R54), (qg_mq R54), cg_se u, cg_sc u, cg_re u)) (T := (tWt T se)) (tWt_ok hT (by omega)) hM.1 hR54) (by omega) (Nat.le_of_ble_eq_true rfl) (fun r1 h1 hq => ?_)
      obtain ⟨rfl, rfl⟩ := (show r1 = nI (zmx (qg_mo R54) (tg_people T)) ∧ h1 = hA t (cg_let u, cg_lc u, cg_rt u, cg_rl u, cg_ra u, cg_rf u, cg_rn u, cg_rc u, cg_now u, cg_dra u, cg_kep u, cg_im u, (pg_mp M), (pg_mw M), (pg_mu M), (pg_mn M), (pg_mi M), (pg_mc M), (pg_md M), (qg_mo R54), (qg_ms R54), (qg_mq R54), cg_se u, cg_sc u, cg_re u) from hq)
      have hz61 := zV2_or (show zV2 1000000 2147483647 500000 (tAll (tWt T se) 0 0) (zmx (qg_mo R54) (tg_people T)) from qRs_all hR54)
      refine r_iload_n eX3_soonestWatchers_64 rfl rfl ?_
      refine n_icmp_ge eX3_soonestWatchers_65 (by omega) (by omega) (fun hc65 => ?_) (fun hc65 => ?_)
      · refine n_iinc (k := 1) eX3_soonestWatchers_79 rfl (by decide) rfl ?_
        refine r_goto eX3_soonestWatchers_82 ?_
        rcases hbl with ⟨l1, l2, l3⟩ | ⟨b, l1, l2, l3, l4⟩
        · have hv9 : tAll (tWt T se) 0 0 = 1000000 := by omega
          cases f with
          | none => exact ih (se + 1) (some se) bb ll R54 (by omega) (by rw [zsoo_n hf, if_pos hc43]) hR54.2.1 (Or.inl ⟨l1, l2, Or.inr ⟨se, rfl, hv9⟩⟩)
          | some b =>
            obtain ⟨b2, k1, k2⟩ := l3.resolve_left (by intro z; cases z)
            cases k1
            exact ih (se + 1) (some b) bb ll R54 (by omega) (by rw [zsoo_s hf, if_neg (fun z => by have hz9 : tAll (tWt T se) 0 0 < tAll (tWt T b) 0 0 := z.2; omega)]) hR54.2.1 (Or.inl ⟨l1, l2, Or.inr ⟨b, rfl, k2⟩⟩)
        · subst l1
          exact ih (se + 1) (some b) bb ll R54 (by omega) (by rw [zsoo_s hf, if_neg (fun z => by have hz9 : tAll (tWt T se) 0 0 < tAll (tWt T b) 0 0 := z.2; omega)]) hR54.2.1 (Or.inr ⟨b, rfl, l2, l3, l4⟩)
      · refine r_aload_n eX3_soonestWatchers_68 rfl rfl ?_
        refine r_getf (v := .ref 40) eX3_soonestWatchers_69 fX3_36 rfl rfl ?_
        refine r_callVi0 eX3_soonestWatchers_72 lX3_151 (Or.inl ⟨_, _, _, rfl, rfl, rfl⟩) (s0_lastOutT (t := t) (u := (cg_let u, cg_lc u, cg_rt u, cg_rl u, cg_ra u, cg_rf u, cg_rn u, cg_rc u, cg_now u, cg_dra u, cg_kep u, cg_im u, (pg_mp M), (pg_mw M), (pg_mu M), (pg_mn M), (pg_mi M), (pg_mc M), (pg_md M), (qg_mo R54), (qg_ms R54), (qg_mq R54), cg_se u, cg_sc u, cg_re u)) (T := (tWt T se)) (tWt_ok hT (by omega)) hM.1 hR54) (by omega) (Nat.le_of_ble_eq_true rfl) (fun r1 h1 hq => ?_)
        obtain ⟨rfl, rfl⟩ := (show r1 = nI (zmx (qg_mo R54) (tg_people T)) ∧ h1 = hA t (cg_let u, cg_lc u, cg_rt u, cg_rl u, cg_ra u, cg_rf u, cg_rn u, cg_rc u, cg_now u, cg_dra u, cg_kep u, cg_im u, (pg_mp M), (pg_mw M), (pg_mu M), (pg_mn M), (pg_mi M), (pg_mc M), (pg_md M), (qg_mo R54), (qg_ms R54), (qg_mq R54), cg_se u, cg_sc u, cg_re u) from hq)
        have hz72 := zV2_or (show zV2 1000000 2147483647 500000 (tAll (tWt T se) 0 0) (zmx (qg_mo R54) (tg_people T)) from qRs_all hR54)
        refine r_istore_n eX3_soonestWatchers_75 rfl (by decide) ?_
        refine r_iload eX3_soonestWatchers_76 rfl ?_
        refine r_istore_n eX3_soonestWatchers_78 rfl (by decide) ?_
        refine n_iinc (k := 1) eX3_soonestWatchers_79 rfl (by decide) rfl ?_
        refine r_goto eX3_soonestWatchers_82 ?_
        have hv9 : tAll (tWt T se) 0 0 = zmx (qg_mo R54) (tg_people T) ∧ zmx (qg_mo R54) (tg_people T) ≤ 500000 := by
          rcases hbl with ⟨l1, l2, l3⟩ | ⟨b, l1, l2, l3, l4⟩ <;> omega
        refine ih (se + 1) (some se) se (zmx (qg_mo R54) (tg_people T)) R54 (by omega) ?_ hR54.2.1 (Or.inr ⟨se, rfl, rfl, hv9.1.symm, hv9.2⟩)
        cases f with
        | none => rw [zsoo_n hf, if_pos hc43]
        | some b =>
          have hlt : tAll (tWt T se) 0 0 < tAll (tWt T b) 0 0 := by
            rcases hbl with ⟨l1, l2, l3⟩ | ⟨b2, l1, l2, l3, l4⟩
            · obtain ⟨b2, k1, k2⟩ := l3.resolve_left (by intro z; cases z)
              cases k1
              omega
            · cases l1
              omega
          rw [zsoo_s hf, if_pos ⟨hc43, hlt⟩]
set_option maxHeartbeats 1000000 in
set_option maxRecDepth 100000 in
theorem s3_soonestWatchers {t : zMod} {u : zCls} {T : zTown} (hc : cT (cg_now u) T) (hms : ∀ i, cg_ms u i ≤ 2147483647) {c b0 : Nat} (hc7 : c ≤ 7) (hb0 : tSoo T c = some b0) (hout : tAll (tWt T b0) 0 0 < 1000000) : Mi mX3_soonestWatchers 5 [.ref 11, .int (nI (c))] (hA t u) (fun r h' => ∃ (M' : zMp) (R' : zMr), h' = hA t (cg_let u, cg_lc u, cg_rt u, cg_rl u, cg_ra u, cg_rf u, cg_rn u, cg_rc u, cg_now u, cg_dra u, cg_kep u, cg_im u, (pg_mp M'), (pg_mw M'), (pg_mu M'), (pg_mn M'), (pg_mi M'), (pg_mc M'), (pg_md M'), (qg_mo R'), (qg_ms R'), (qg_mq R'), cg_se u, cg_sc u, cg_re u) ∧ r = nI b0 ∧ pPr M' T ∧ ∀ i, qg_ms R' i ≤ 2147483647) := by
  obtain ⟨he, hT, hty, hk10⟩ := id hc
  have h7 := hT.1
  have hpw9 : 2 ^ tg_people T ≤ 2 ^ 7 := Nat.pow_le_pow_right (by omega) h7
  have ho := he.ok hT
  obtain ⟨he1, he2, he3, he4, he5, he6, he7⟩ := id he
  have hwt9 := hT.2.2.2.1
  have hpp9 := Nat.two_pow_pos (tg_people T)
  refine Mi.of (by decide) rfl (Nat.le_of_ble_eq_true rfl) ?_
  refine r_aload_n eX3_soonestWatchers_0 rfl rfl ?_
  refine r_getf (v := .ref 40) eX3_soonestWatchers_1 fX3_36 rfl rfl ?_
  refine r_aload_n eX3_soonestWatchers_4 rfl rfl ?_
  refine r_getf (v := .ref 16) eX3_soonestWatchers_5 fX3_23 rfl rfl ?_
  refine r_callVv1 eX3_soonestWatchers_8 lX3_166 (Or.inl ⟨_, _, _, rfl, rfl, rfl⟩) (s0_prepareT_now (t := t) (u := u) (T := T) hc) (by omega) (Nat.le_of_ble_eq_true rfl) (fun h1 hq => ?_)
  obtain ⟨M8, hh, hM8⟩ := hq
  obtain rfl := (show h1 = hA t (cg_let u, cg_lc u, cg_rt u, cg_rl u, cg_ra u, cg_rf u, cg_rn u, cg_rc u, cg_now u, cg_dra u, cg_kep u, cg_im u, (pg_mp M8), (pg_mw M8), (pg_mu M8), (pg_mn M8), (pg_mi M8), (pg_mc M8), (pg_md M8), cg_mo u, cg_ms u, cg_mq u, cg_se u, cg_sc u, cg_re u) from hh)
  refine r_aload_n eX3_soonestWatchers_11 rfl rfl ?_
  refine r_getf (v := .ref 16) eX3_soonestWatchers_12 fX3_23 rfl rfl ?_
  refine r_callVi0 eX3_soonestWatchers_15 lX3_110 (Or.inl ⟨_, _, _, rfl, rfl, rfl⟩) (s2_everyone_now (t := t) (u := (cg_let u, cg_lc u, cg_rt u, cg_rl u, cg_ra u, cg_rf u, cg_rn u, cg_rc u, cg_now u, cg_dra u, cg_kep u, cg_im u, (pg_mp M8), (pg_mw M8), (pg_mu M8), (pg_mn M8), (pg_mi M8), (pg_mc M8), (pg_md M8), cg_mo u, cg_ms u, cg_mq u, cg_se u, cg_sc u, cg_re u)) ho) (by omega) (Nat.le_of_ble_eq_true rfl) (fun r1 h1 hq => ?_)
  obtain ⟨rfl, rfl⟩ := (show r1 = nI (2 ^ tg_people T - 1) ∧ h1 = hA t (cg_let u, cg_lc u, cg_rt u, cg_rl u, cg_ra u, cg_rf u, cg_rn u, cg_rc u, cg_now u, cg_dra u, cg_kep u, cg_im u, (pg_mp M8), (pg_mw M8), (pg_mu M8), (pg_mn M8), (pg_mi M8), (pg_mc M8), (pg_md M8), cg_mo u, cg_ms u, cg_mq u, cg_se u, cg_sc u, cg_re u) from by rw [he1]; exact hq)
  refine r_istore_n eX3_soonestWatchers_18 rfl (by decide) ?_
  refine n_ldc 2147483647 eX3_soonestWatchers_19 kX3_188 rfl ?_
  refine r_istore_n eX3_soonestWatchers_21 rfl (by decide) ?_
  refine n_iconst 0 eX3_soonestWatchers_22 rfl ?_
  refine r_istore eX3_soonestWatchers_23 (by decide) ?_
  exact s3_soo_l hc hc7 hb0 hout hM8 (2 ^ tg_people T) 0 none _ _ (cg_mo u, cg_ms u, cg_mq u) (Nat.zero_add _) rfl hms (Or.inl ⟨rfl, rfl, Or.inl rfl⟩)
set_option maxHeartbeats 1000000 in
set_option maxRecDepth 100000 in
theorem s3_soonest_o {t : zMod} {u : zCls} {x : Int32} (hx : x < 0 ∨ nI 2 ≤ x) : Mi mX3_soonest 8 [.ref 11, .int (x)] (hA t u) (fun r h' => r = (-2) ∧ h' = hA t (cg_let u, cg_lc u, cg_rt u, cg_rl u, cg_ra u, cg_rf u, cg_rn u, cg_rc u, cg_now u, cg_dra u, cg_kep u, cg_im u, cg_mp u, cg_mw u, cg_mu u, cg_mn u, cg_mi u, cg_mc u, cg_md u, cg_mo u, cg_ms u, cg_mq u, cg_se u, cg_sc u, (va_up (cg_re u) 2 (cg_re u 2 + 1)))) := by
  have hx0 : ¬ x = 0 := zne_of (k := 0) hx (by omega) (by omega)
  have hx1 : ¬ x = nI 1 := zne_of (k := 1) hx (by omega) (by omega)
  refine Mi.of (by decide) rfl (Nat.le_of_ble_eq_true rfl) ?_
  refine r_iload_n eX3_soonest_0 rfl rfl ?_
  refine r_if_eq eX3_soonest_1 (fun hc1 => absurd hc1 hx0) (fun hc1 => ?_)
  refine r_iload_n eX3_soonest_4 rfl rfl ?_
  refine n_iconst 1 eX3_soonest_5 rfl ?_
  refine r_icmp_eq eX3_soonest_6 (fun hc6 => absurd hc6 hx1) (fun hc6 => ?_)
  refine r_aload_n eX3_soonest_9 rfl rfl ?_
  refine r_bipush (v := (-2)) eX3_soonest_10 rfl ?_
  refine r_callVi1 eX3_soonest_12 lX3_46 (Or.inl ⟨_, _, _, rfl, rfl, rfl⟩) (s3_refuse (t := t) (u := u) (x := (-2)) (c := 2) (by decide) (by decide)) (by omega) (Nat.le_of_ble_eq_true rfl) (fun r1 h1 hq => ?_)
  obtain ⟨rfl, rfl⟩ := (show r1 = (-2) ∧ h1 = hA t (cg_let u, cg_lc u, cg_rt u, cg_rl u, cg_ra u, cg_rf u, cg_rn u, cg_rc u, cg_now u, cg_dra u, cg_kep u, cg_im u, cg_mp u, cg_mw u, cg_mu u, cg_mn u, cg_mi u, cg_mc u, cg_md u, cg_mo u, cg_ms u, cg_mq u, cg_se u, cg_sc u, (va_up (cg_re u) 2 ((cg_re u) 2 + 1))) from hq)
  exact z_iret eX3_soonest_15 rfl rfl ⟨_, rfl, rfl, rfl⟩
set_option maxHeartbeats 1000000 in
set_option maxRecDepth 100000 in
theorem s3_soonest_0 {t : zMod} {u : zCls} {T : zTown} (hc : cT (cg_now u) T) (hms : ∀ i, cg_ms u i ≤ 2147483647) {g0 : Nat} (hg0 : tFew T = some g0) {b0 : Nat} (hb0 : tSoo T (zcnt 7 g0) = some b0) : Mi mX3_soonest 8 [.ref 11, .int (nI (0))] (hA t u) (fun r h' => ∃ (M' : zMp) (R' : zMr), h' = hA t (cg_let u, cg_lc u, cg_rt u, cg_rl u, cg_ra u, cg_rf u, cg_rn u, cg_rc u, cg_now u, cg_dra u, cg_kep u, cg_im u, (pg_mp M'), (pg_mw M'), (pg_mu M'), (pg_mn M'), (pg_mi M'), (pg_mc M'), (pg_md M'), (qg_mo R'), (qg_ms R'), (qg_mq R'), cg_se u, cg_sc u, cg_re u) ∧ r = nI b0 ∧ (∀ i, qg_ms R' i ≤ 2147483647)) := by
  obtain ⟨he, hT, hty, hk10⟩ := id hc
  have h7 := hT.1
  have hpw9 : 2 ^ tg_people T ≤ 2 ^ 7 := Nat.pow_le_pow_right (by omega) h7
  have ho := he.ok hT
  obtain ⟨he1, he2, he3, he4, he5, he6, he7⟩ := id he
  have hwt9 := hT.2.2.2.1
  have hpp9 := Nat.two_pow_pos (tg_people T)
  have hgl : g0 < 2 ^ tg_people T := zlea_lt hg0
  have zc9 := zcnt_le 7 g0
  have hbl9 : b0 < 2 ^ tg_people T := zsoo_lt hb0
  refine Mi.of (by decide) rfl (Nat.le_of_ble_eq_true rfl) ?_
  refine r_iload_n eX3_soonest_0 rfl rfl ?_
  refine n_if_eq eX3_soonest_1 (by omega) (fun hc1 => ?_) (fun hc1 => absurd hc1 (by decide))
  refine r_aload_n eX3_soonest_16 rfl rfl ?_
  refine r_aload_n eX3_soonest_17 rfl rfl ?_
  refine r_callVi0 eX3_soonest_18 lX3_136 (Or.inl ⟨_, _, _, rfl, rfl, rfl⟩) (s3_fewestWatchers (t := t) (u := u) (T := T) hc hms hg0) (by omega) (Nat.le_of_ble_eq_true rfl) (fun r1 h1 hq => ?_)
  obtain ⟨M18, R18, hh, hr, hM18, hR18⟩ := hq
  obtain rfl := (show h1 = hA t (cg_let u, cg_lc u, cg_rt u, cg_rl u, cg_ra u, cg_rf u, cg_rn u, cg_rc u, cg_now u, cg_dra u, cg_kep u, cg_im u, (pg_mp M18), (pg_mw M18), (pg_mu M18), (pg_mn M18), (pg_mi M18), (pg_mc M18), (pg_md M18), (qg_mo R18), (qg_ms R18), (qg_mq R18), cg_se u, cg_sc u, cg_re u) from hh)
  obtain rfl := (show r1 = nI (g0) from hr)
  refine r_callSi1 eX3_soonest_21 lX3_139 (s6_bitCount (by omega)) (by omega) (Nat.le_of_ble_eq_true rfl) (fun r1 h1 hq => ?_)
  obtain ⟨rfl, rfl⟩ := hq
  refine r_callVi1 eX3_soonest_24 lX3_144 (Or.inl ⟨_, _, _, rfl, rfl, rfl⟩) (s3_soonestWatchers (t := t) (u := (cg_let u, cg_lc u, cg_rt u, cg_rl u, cg_ra u, cg_rf u, cg_rn u, cg_rc u, cg_now u, cg_dra u, cg_kep u, cg_im u, (pg_mp M18), (pg_mw M18), (pg_mu M18), (pg_mn M18), (pg_mi M18), (pg_mc M18), (pg_md M18), (qg_mo R18), (qg_ms R18), (qg_mq R18), cg_se u, cg_sc u, cg_re u)) (T := T) hc hR18 zc9 hb0 (tSoo_out hT hg0 hb0)) (by omega) (Nat.le_of_ble_eq_true rfl) (fun r1 h1 hq => ?_)
  obtain ⟨M24, R24, hh, hr, hM24, hR24⟩ := hq
  obtain rfl := (show h1 = hA t (cg_let u, cg_lc u, cg_rt u, cg_rl u, cg_ra u, cg_rf u, cg_rn u, cg_rc u, cg_now u, cg_dra u, cg_kep u, cg_im u, (pg_mp M24), (pg_mw M24), (pg_mu M24), (pg_mn M24), (pg_mi M24), (pg_mc M24), (pg_md M24), (qg_mo R24), (qg_ms R24), (qg_mq R24), cg_se u, cg_sc u, cg_re u) from hh)
  obtain rfl := (show r1 = nI (b0) from hr)
  refine r_istore_n eX3_soonest_27 rfl (by decide) ?_
  refine r_iload_n eX3_soonest_28 rfl rfl ?_
  refine n_if_ne eX3_soonest_29 (by omega) (fun hc29 => absurd hc29 (by decide)) (fun hc29 => ?_)
  refine r_iload_n eX3_soonest_32 rfl rfl ?_
  exact z_iret eX3_soonest_33 rfl rfl ⟨_, rfl, M24, R24, rfl, rfl, hR24⟩
set_option maxHeartbeats 1000000 in
set_option maxRecDepth 100000 in
theorem s3_soonest_1 {t : zMod} {u : zCls} {T : zTown} (hc : cT (cg_now u) T) (hms : ∀ i, cg_ms u i ≤ 2147483647) {g0 : Nat} (hg0 : tFew T = some g0) {b0 : Nat} (hb0 : tSoo T (zcnt 7 g0) = some b0) : Mi mX3_soonest 8 [.ref 11, .int (nI (1))] (hA t u) (fun r h' => ∃ (M' : zMp) (R' : zMr), h' = hA t (cg_let u, cg_lc u, cg_rt u, cg_rl u, cg_ra u, cg_rf u, cg_rn u, cg_rc u, cg_now u, cg_dra u, cg_kep u, cg_im u, (pg_mp M'), (pg_mw M'), (pg_mu M'), (pg_mn M'), (pg_mi M'), (pg_mc M'), (pg_md M'), (qg_mo R'), (qg_ms R'), (qg_mq R'), cg_se u, cg_sc u, cg_re u) ∧ r = zon 1000000 (tAll (tWt T b0) 0 0) ∧ (∀ i, qg_ms R' i ≤ 2147483647)) := by
  obtain ⟨he, hT, hty, hk10⟩ := id hc
  have h7 := hT.1
  have hpw9 : 2 ^ tg_people T ≤ 2 ^ 7 := Nat.pow_le_pow_right (by omega) h7
  have ho := he.ok hT
  obtain ⟨he1, he2, he3, he4, he5, he6, he7⟩ := id he
  have hwt9 := hT.2.2.2.1
  have hpp9 := Nat.two_pow_pos (tg_people T)
  have hgl : g0 < 2 ^ tg_people T := zlea_lt hg0
  have zc9 := zcnt_le 7 g0
  have hbl9 : b0 < 2 ^ tg_people T := zsoo_lt hb0
  refine Mi.of (by decide) rfl (Nat.le_of_ble_eq_true rfl) ?_
  refine r_iload_n eX3_soonest_0 rfl rfl ?_
  refine n_if_eq eX3_soonest_1 (by omega) (fun hc1 => absurd hc1 (by decide)) (fun hc1 => ?_)
  refine r_iload_n eX3_soonest_4 rfl rfl ?_
  refine n_iconst 1 eX3_soonest_5 rfl ?_
  refine n_icmp_eq eX3_soonest_6 (by omega) (by omega) (fun hc6 => ?_) (fun hc6 => absurd hc6 (by decide))
  refine r_aload_n eX3_soonest_16 rfl rfl ?_
  refine r_aload_n eX3_soonest_17 rfl rfl ?_
  refine r_callVi0 eX3_soonest_18 lX3_136 (Or.inl ⟨_, _, _, rfl, rfl, rfl⟩) (s3_fewestWatchers (t := t) (u := u) (T := T) hc hms hg0) (by omega) (Nat.le_of_ble_eq_true rfl) (fun r1 h1 hq => ?_)
  obtain ⟨M18, R18, hh, hr, hM18, hR18⟩ := hq
  obtain rfl := (show h1 = hA t (cg_let u, cg_lc u, cg_rt u, cg_rl u, cg_ra u, cg_rf u, cg_rn u, cg_rc u, cg_now u, cg_dra u, cg_kep u, cg_im u, (pg_mp M18), (pg_mw M18), (pg_mu M18), (pg_mn M18), (pg_mi M18), (pg_mc M18), (pg_md M18), (qg_mo R18), (qg_ms R18), (qg_mq R18), cg_se u, cg_sc u, cg_re u) from hh)
  obtain rfl := (show r1 = nI (g0) from hr)
  refine r_callSi1 eX3_soonest_21 lX3_139 (s6_bitCount (by omega)) (by omega) (Nat.le_of_ble_eq_true rfl) (fun r1 h1 hq => ?_)
  obtain ⟨rfl, rfl⟩ := hq
  refine r_callVi1 eX3_soonest_24 lX3_144 (Or.inl ⟨_, _, _, rfl, rfl, rfl⟩) (s3_soonestWatchers (t := t) (u := (cg_let u, cg_lc u, cg_rt u, cg_rl u, cg_ra u, cg_rf u, cg_rn u, cg_rc u, cg_now u, cg_dra u, cg_kep u, cg_im u, (pg_mp M18), (pg_mw M18), (pg_mu M18), (pg_mn M18), (pg_mi M18), (pg_mc M18), (pg_md M18), (qg_mo R18), (qg_ms R18), (qg_mq R18), cg_se u, cg_sc u, cg_re u)) (T := T) hc hR18 zc9 hb0 (tSoo_out hT hg0 hb0)) (by omega) (Nat.le_of_ble_eq_true rfl) (fun r1 h1 hq => ?_)
  obtain ⟨M24, R24, hh, hr, hM24, hR24⟩ := hq
  obtain rfl := (show h1 = hA t (cg_let u, cg_lc u, cg_rt u, cg_rl u, cg_ra u, cg_rf u, cg_rn u, cg_rc u, cg_now u, cg_dra u, cg_kep u, cg_im u, (pg_mp M24), (pg_mw M24), (pg_mu M24), (pg_mn M24), (pg_mi M24), (pg_mc M24), (pg_md M24), (qg_mo R24), (qg_ms R24), (qg_mq R24), cg_se u, cg_sc u, cg_re u) from hh)
  obtain rfl := (show r1 = nI (b0) from hr)
  refine r_istore_n eX3_soonest_27 rfl (by decide) ?_
  refine r_iload_n eX3_soonest_28 rfl rfl ?_
  refine n_if_ne eX3_soonest_29 (by omega) (fun hc29 => ?_) (fun hc29 => absurd hc29 (by decide))
  refine r_aload_n eX3_soonest_34 rfl rfl ?_
  refine r_getf (v := .ref 40) eX3_soonest_35 fX3_36 rfl rfl ?_
  refine r_iload_n eX3_soonest_38 rfl rfl ?_
  refine n_iconst 0 eX3_soonest_39 rfl ?_
  refine n_iconst 1 eX3_soonest_40 rfl ?_
  refine r_callVv3 eX3_soonest_41 lX3_147 (Or.inl ⟨_, _, _, rfl, rfl, rfl⟩) (s0_passT (t := t) (u := (cg_let u, cg_lc u, cg_rt u, cg_rl u, cg_ra u, cg_rf u, cg_rn u, cg_rc u, cg_now u, cg_dra u, cg_kep u, cg_im u, (pg_mp M24), (pg_mw M24), (pg_mu M24), (pg_mn M24), (pg_mi M24), (pg_mc M24), (pg_md M24), (qg_mo R24), (qg_ms R24), (qg_mq R24), cg_se u, cg_sc u, cg_re u)) (T := T) hT hM24 hR24 hbl9 (by omega) (by omega)) (by omega) (Nat.le_of_ble_eq_true rfl) (fun h1 hq => ?_)
  obtain ⟨R41, hh, hR41⟩ := hq
  obtain rfl := (show h1 = hA t (cg_let u, cg_lc u, cg_rt u, cg_rl u, cg_ra u, cg_rf u, cg_rn u, cg_rc u, cg_now u, cg_dra u, cg_kep u, cg_im u, (pg_mp M24), (pg_mw M24), (pg_mu M24), (pg_mn M24), (pg_mi M24), (pg_mc M24), (pg_md M24), (qg_mo R41), (qg_ms R41), (qg_mq R41), cg_se u, cg_sc u, cg_re u) from hh)
  refine r_aload_n eX3_soonest_44 rfl rfl ?_
  refine r_getf (v := .ref 40) eX3_soonest_45 fX3_36 rfl rfl ?_
  refine r_callVi0 eX3_soonest_48 lX3_151 (Or.inl ⟨_, _, _, rfl, rfl, rfl⟩) (s0_lastOutT (t := t) (u := (cg_let u, cg_lc u, cg_rt u, cg_rl u, cg_ra u, cg_rf u, cg_rn u, cg_rc u, cg_now u, cg_dra u, cg_kep u, cg_im u, (pg_mp M24), (pg_mw M24), (pg_mu M24), (pg_mn M24), (pg_mi M24), (pg_mc M24), (pg_md M24), (qg_mo R41), (qg_ms R41), (qg_mq R41), cg_se u, cg_sc u, cg_re u)) (T := (tWt T b0)) (tWt_ok hT (by omega)) hM24.1 hR41) (by omega) (Nat.le_of_ble_eq_true rfl) (fun r1 h1 hq => ?_)
  obtain ⟨rfl, rfl⟩ := (show r1 = nI (zmx (qg_mo R41) (tg_people T)) ∧ h1 = hA t (cg_let u, cg_lc u, cg_rt u, cg_rl u, cg_ra u, cg_rf u, cg_rn u, cg_rc u, cg_now u, cg_dra u, cg_kep u, cg_im u, (pg_mp M24), (pg_mw M24), (pg_mu M24), (pg_mn M24), (pg_mi M24), (pg_mc M24), (pg_md M24), (qg_mo R41), (qg_ms R41), (qg_mq R41), cg_se u, cg_sc u, cg_re u) from hq)
  have hz48 := zV2_or (show zV2 1000000 2147483647 500000 (tAll (tWt T b0) 0 0) (zmx (qg_mo R41) (tg_people T)) from qRs_all hR41)
  refine r_callSi1 eX3_soonest_51 lX3_123 (s3_mon (by omega)) (by omega) (Nat.le_of_ble_eq_true rfl) (fun r1 h1 hq => ?_)
  obtain ⟨rfl, rfl⟩ := hq
  exact z_iret eX3_soonest_54 rfl rfl ⟨_, rfl, M24, R41, rfl, zon_V2 hz48, hR41.2.1⟩
theorem zco_cong2 {c c' : Nat → Nat} {s : Nat} : ∀ {n : Nat}, (∀ p, p < n → c p = c' p) → zco c s n = zco c' s n
  | 0, _ => rfl
  | n + 1, h => by rw [zco, zco, zco_cong2 (fun p hp => h p (by omega)), h n (by omega)]
theorem tCost_eq {T X : zTown} (he : tEq T X) (s : Nat) : tCost X s = tCost T s := by
  unfold tCost
  rw [← he.1]
  exact zco_cong2 fun p hp => (he.2.2.2.2.2.1 p hp).2.2.2.2.symm
theorem tCost_le {T : zTown} (hT : tOk T) (s : Nat) : tCost T s ≤ 9 * tg_people T := zco_le2 fun p hp => (hT.2.2.2.2.2 p hp).2.2.2.2
set_option maxHeartbeats 1000000 in
set_option maxRecDepth 100000 in
theorem s3_brk_l0 {t : zMod} {u : zCls} {T : zTown} (hc : cT (cg_now u) T) {g0 : Nat} (hg0 : tBrk T = some g0) {M : zMp} (hM : pPr M T) : ∀ (k : Nat) (se : Nat) (f : Option Nat) (bb : Nat) (ll : Nat) (R : zMr) (v5 : Value) (hd : se + k = 2 ^ tg_people T) (hf : zlea (fun s => tCost T s) (fun s => decide (tAll T 0 s < 1000000)) se = f) (hR : ∀ i, qg_ms R i ≤ 2147483647) (hbl : (f = none ∧ ll = 2147483647 ∧ bb = 2 ^ tg_people T - 1) ∨ (∃ g, f = some g ∧ bb = g ∧ ll = tCost T g)), Rq mX3_breaking 6 none 41 [.ref 11, .int (nI (0)), .int (nI (bb)), .int (nI (ll)), .int (nI (se)), v5] [] (hA t (cg_let u, cg_lc u, cg_rt u, cg_rl u, cg_ra u, cg_rf u, cg_rn u, cg_rc u, cg_now u, cg_dra u, cg_kep u, cg_im u, (pg_mp M), (pg_mw M), (pg_mu M), (pg_mn M), (pg_mi M), (pg_mc M), (pg_md M), (qg_mo R), (qg_ms R), (qg_mq R), cg_se u, cg_sc u, cg_re u)) (fun r h' => ∃ x, r = some x ∧ (∃ (M' : zMp) (R' : zMr), h' = hA t (cg_let u, cg_lc u, cg_rt u, cg_rl u, cg_ra u, cg_rf u, cg_rn u, cg_rc u, cg_now u, cg_dra u, cg_kep u, cg_im u, (pg_mp M'), (pg_mw M'), (pg_mu M'), (pg_mn M'), (pg_mi M'), (pg_mc M'), (pg_md M'), (qg_mo R'), (qg_ms R'), (qg_mq R'), cg_se u, cg_sc u, cg_re u) ∧ x = nI g0 ∧ pPr M' T ∧ ∀ i, qg_ms R' i ≤ 2147483647)) := by
  intro k
  induction k with
  | zero =>
    intro se f bb ll R v5 hd hf hR hbl
    obtain ⟨he, hT, hty, hk10⟩ := id hc
    have h7 := hT.1
    have hpw9 : 2 ^ tg_people T ≤ 2 ^ 7 := Nat.pow_le_pow_right (by omega) h7
    have ho := he.ok hT
    obtain ⟨he1, he2, he3, he4, he5, he6, he7⟩ := id he
    have hwt9 := hT.2.2.2.1
    have hpp9 := Nat.two_pow_pos (tg_people T)
    have e9 : se = 2 ^ tg_people T := by omega
    subst e9
    have hbb9 : bb < 2 ^ tg_people T := by
      rcases hbl with ⟨l1, l2, l3⟩ | ⟨g, l1, l2, l3⟩
      · omega
      · rw [l1] at hf; have := zlea_lt hf; omega
    refine r_iload eX3_breaking_41 rfl ?_
    refine r_aload_n eX3_breaking_43 rfl rfl ?_
    refine r_getf (v := .ref 16) eX3_breaking_44 fX3_23 rfl rfl ?_
    refine r_callVi0 eX3_breaking_47 lX3_110 (Or.inl ⟨_, _, _, rfl, rfl, rfl⟩) (s2_everyone_now (t := t) (u := (cg_let u, cg_lc u, cg_rt u, cg_rl u, cg_ra u, cg_rf u, cg_rn u, cg_rc u, cg_now u, cg_dra u, cg_kep u, cg_im u, (pg_mp M), (pg_mw M), (pg_mu M), (pg_mn M), (pg_mi M), (pg_mc M), (pg_md M), (qg_mo R), (qg_ms R), (qg_mq R), cg_se u, cg_sc u, cg_re u)) ho) (by omega) (Nat.le_of_ble_eq_true rfl) (fun r1 h1 hq => ?_)
    obtain ⟨rfl, rfl⟩ := (show r1 = nI (2 ^ tg_people T - 1) ∧ h1 = hA t (cg_let u, cg_lc u, cg_rt u, cg_rl u, cg_ra u, cg_rf u, cg_rn u, cg_rc u, cg_now u, cg_dra u, cg_kep u, cg_im u, (pg_mp M), (pg_mw M), (pg_mu M), (pg_mn M), (pg_mi M), (pg_mc M), (pg_md M), (qg_mo R), (qg_ms R), (qg_mq R), cg_se u, cg_sc u, cg_re u) from by rw [he1]; exact hq)
    refine n_icmp_gt eX3_breaking_50 (by omega) (by omega) (fun hc50 => ?_) (fun hc50 => absurd hc50 (by omega))
    refine r_iload_n eX3_breaking_111 rfl rfl ?_
    refine n_if_ne eX3_breaking_112 (by omega) (fun hc112 => absurd hc112 (by decide)) (fun hc112 => ?_)
    refine r_iload_n eX3_breaking_115 rfl rfl ?_
    refine r_goto eX3_breaking_116 ?_
    have hx : bb = g0 := by
      have hg0 : zlea (fun s => tCost T s) (fun s => decide (tAll T 0 s < 1000000)) (2 ^ tg_people T) = some g0 := hg0
      rw [hf] at hg0
      rcases hbl with ⟨l1, l2, l3⟩ | ⟨g, l1, l2, l3⟩
      · rw [l1] at hg0; cases hg0
      · rw [l1] at hg0; cases hg0; exact l2
    rw [hx]
    exact z_iret eX3_breaking_127 rfl rfl ⟨_, rfl, M, R, rfl, rfl, hM, hR⟩
  | succ k ih =>
    intro se f bb ll R v5 hd hf hR hbl
    obtain ⟨he, hT, hty, hk10⟩ := id hc
    have h7 := hT.1
    have hpw9 : 2 ^ tg_people T ≤ 2 ^ 7 := Nat.pow_le_pow_right (by omega) h7
    have ho := he.ok hT
    obtain ⟨he1, he2, he3, he4, he5, he6, he7⟩ := id he
    have hwt9 := hT.2.2.2.1
    have hpp9 := Nat.two_pow_pos (tg_people T)
    have hll9 : ll ≤ 2147483647 := by
      rcases hbl with ⟨l1, l2, l3⟩ | ⟨g, l1, l2, l3⟩
      · omega
      · have := tCost_le hT g; omega
    have hcs9 := tCost_le hT se
    refine r_iload eX3_breaking_41 rfl ?_
    refine r_aload_n eX3_breaking_43 rfl rfl ?_
    refine r_getf (v := .ref 16) eX3_breaking_44 fX3_23 rfl rfl ?_
    refine r_callVi0 eX3_breaking_47 lX3_110 (Or.inl ⟨_, _, _, rfl, rfl, rfl⟩) (s2_everyone_now (t := t) (u := (cg_let u, cg_lc u, cg_rt u, cg_rl u, cg_ra u, cg_rf u, cg_rn u, cg_rc u, cg_now u, cg_dra u, cg_kep u, cg_im u, (pg_mp M), (pg_mw M), (pg_mu M), (pg_mn M), (pg_mi M), (pg_mc M), (pg_md M), (qg_mo R), (qg_ms R), (qg_mq R), cg_se u, cg_sc u, cg_re u)) ho) (by omega) (Nat.le_of_ble_eq_true rfl) (fun r1 h1 hq => ?_)
    obtain ⟨rfl, rfl⟩ := (show r1 = nI (2 ^ tg_people T - 1) ∧ h1 = hA t (cg_let u, cg_lc u, cg_rt u, cg_rl u, cg_ra u, cg_rf u, cg_rn u, cg_rc u, cg_now u, cg_dra u, cg_kep u, cg_im u, (pg_mp M), (pg_mw M), (pg_mu M), (pg_mn M), (pg_mi M), (pg_mc M), (pg_md M), (qg_mo R), (qg_ms R), (qg_mq R), cg_se u, cg_sc u, cg_re u) from by rw [he1]; exact hq)
    refine n_icmp_gt eX3_breaking_50 (by omega) (by omega) (fun hc50 => absurd hc50 (by omega)) (fun hc50 => ?_)
    refine r_aload_n eX3_breaking_53 rfl rfl ?_
    refine r_getf (v := .ref 16) eX3_breaking_54 fX3_23 rfl rfl ?_
    refine r_iload eX3_breaking_57 rfl ?_
    refine r_callVi1 eX3_breaking_59 lX3_189 (Or.inl ⟨_, _, _, rfl, rfl, rfl⟩) (s2_costOf_now (t := t) (u := (cg_let u, cg_lc u, cg_rt u, cg_rl u, cg_ra u, cg_rf u, cg_rn u, cg_rc u, cg_now u, cg_dra u, cg_kep u, cg_im u, (pg_mp M), (pg_mw M), (pg_mu M), (pg_mn M), (pg_mi M), (pg_mc M), (pg_md M), (qg_mo R), (qg_ms R), (qg_mq R), cg_se u, cg_sc u, cg_re u)) ho (show se < 128 by omega)) (by omega) (Nat.le_of_ble_eq_true rfl) (fun r1 h1 hq => ?_)
    obtain ⟨rfl, rfl⟩ := (show r1 = nI (tCost T se) ∧ h1 = hA t (cg_let u, cg_lc u, cg_rt u, cg_rl u, cg_ra u, cg_rf u, cg_rn u, cg_rc u, cg_now u, cg_dra u, cg_kep u, cg_im u, (pg_mp M), (pg_mw M), (pg_mu M), (pg_mn M), (pg_mi M), (pg_mc M), (pg_md M), (qg_mo R), (qg_ms R), (qg_mq R), cg_se u, cg_sc u, cg_re u) from by rw [← tCost_eq he]; exact hq)
    refine r_istore eX3_breaking_62 (by decide) ?_
    refine r_iload eX3_breaking_64 rfl ?_
    refine r_iload_n eX3_breaking_66 rfl rfl ?_
    refine n_icmp_ge eX3_breaking_67 (by omega) (by omega) (fun hc67 => ?_) (fun hc67 => ?_)
    · refine n_iinc (k := 1) eX3_breaking_105 rfl (by decide) rfl ?_
      refine r_goto eX3_breaking_108 ?_
      refine ih (se + 1) f bb ll R (.int (nI (tCost T se))) (by omega) ?_ hR hbl
      rcases hbl with ⟨l1, l2, l3⟩ | ⟨g, l1, l2, l3⟩
      · exfalso; omega
      · subst l1
        rw [zlea_s hf, if_neg (fun z => by have := z.1; omega)]
    · refine r_aload_n eX3_breaking_70 rfl rfl ?_
      refine r_getf (v := .ref 40) eX3_breaking_71 fX3_36 rfl rfl ?_
      refine r_aload_n eX3_breaking_74 rfl rfl ?_
      refine r_getf (v := .ref 16) eX3_breaking_75 fX3_23 rfl rfl ?_
      refine r_getf (v := .int (nI (tg_watch (cg_now u)))) eX3_breaking_78 fX3_87 rfl rfl ?_
      refine r_iload eX3_breaking_81 rfl ?_
      refine n_iconst 1 eX3_breaking_83 rfl ?_
      refine r_callVv3 eX3_breaking_84 lX3_147 (Or.inl ⟨_, _, _, rfl, rfl, rfl⟩) (s0_passT (t := t) (u := (cg_let u, cg_lc u, cg_rt u, cg_rl u, cg_ra u, cg_rf u, cg_rn u, cg_rc u, cg_now u, cg_dra u, cg_kep u, cg_im u, (pg_mp M), (pg_mw M), (pg_mu M), (pg_mn M), (pg_mi M), (pg_mc M), (pg_md M), (qg_mo R), (qg_ms R), (qg_mq R), cg_se u, cg_sc u, cg_re u)) (T := T) hT hM hR (by rw [← he3]; exact hwt9) (by omega) (by omega)) (by omega) (Nat.le_of_ble_eq_true rfl) (fun h1 hq => ?_)
      obtain ⟨R84, hh, hR84⟩ := hq
      obtain rfl := (show h1 = hA t (cg_let u, cg_lc u, cg_rt u, cg_rl u, cg_ra u, cg_rf u, cg_rn u, cg_rc u, cg_now u, cg_dra u, cg_kep u, cg_im u, (pg_mp M), (pg_mw M), (pg_mu M), (pg_mn M), (pg_mi M), (pg_mc M), (pg_md M), (qg_mo R84), (qg_ms R84), (qg_mq R84), cg_se u, cg_sc u, cg_re u) from hh)
      rw [← he3] at hR84
      refine r_aload_n eX3_breaking_87 rfl rfl ?_
      refine r_getf (v := .ref 40) eX3_breaking_88 fX3_36 rfl rfl ?_
      refine r_callVi0 eX3_breaking_91 lX3_151 (Or.inl ⟨_, _, _, rfl, rfl, rfl⟩) (s0_lastOutT (t := t) (u := (cg_let u, cg_lc u, cg_rt u, cg_rl u, cg_ra u, cg_rf u, cg_rn u, cg_rc u, cg_now u, cg_dra u, cg_kep u, cg_im u, (pg_mp M), (pg_mw M), (pg_mu M), (pg_mn M), (pg_mi M), (pg_mc M), (pg_md M), (qg_mo R84), (qg_ms R84), (qg_mq R84), cg_se u, cg_sc u, cg_re u)) (T := T) hT hM.1 hR84) (by omega) (Nat.le_of_ble_eq_true rfl) (fun r1 h1 hq => ?_)
      obtain ⟨rfl, rfl⟩ := (show r1 = nI (zmx (qg_mo R84) (tg_people T)) ∧ h1 = hA t (cg_let u, cg_lc u, cg_rt u, cg_rl u, cg_ra u, cg_rf u, cg_rn u, cg_rc u, cg_now u, cg_dra u, cg_kep u, cg_im u, (pg_mp M), (pg_mw M), (pg_mu M), (pg_mn M), (pg_mi M), (pg_mc M), (pg_md M), (qg_mo R84), (qg_ms R84), (qg_mq R84), cg_se u, cg_sc u, cg_re u) from hq)
      have hz91 := zV2_or (show zV2 1000000 2147483647 500000 (tAll T 0 se) (zmx (qg_mo R84) (tg_people T)) from qRs_all hR84)
      refine n_ldc 2147483647 eX3_breaking_94 kX3_188 rfl ?_
      refine n_icmp_eq eX3_breaking_96 (by omega) (by omega) (fun hc96 => ?_) (fun hc96 => ?_)
      · refine n_iinc (k := 1) eX3_breaking_105 rfl (by decide) rfl ?_
        refine r_goto eX3_breaking_108 ?_
        have hno : ¬ tAll T 0 se < 1000000 := by omega
        refine ih (se + 1) f bb ll R84 (.int (nI (tCost T se))) (by omega) ?_ hR84.2.1 hbl
        cases f with
        | none => rw [zlea_n hf, if_neg (fun z => hno (of_decide_eq_true z))]
        | some b => rw [zlea_s hf, if_neg (fun z => hno (of_decide_eq_true z.2))]
      · refine r_iload eX3_breaking_99 rfl ?_
        refine r_istore_n eX3_breaking_101 rfl (by decide) ?_
        refine r_iload eX3_breaking_102 rfl ?_
        refine r_istore_n eX3_breaking_104 rfl (by decide) ?_
        refine n_iinc (k := 1) eX3_breaking_105 rfl (by decide) rfl ?_
        refine r_goto eX3_breaking_108 ?_
        have hyes : tAll T 0 se < 1000000 := by omega
        refine ih (se + 1) (some se) se (tCost T se) R84 (.int (nI (tCost T se))) (by omega) ?_ hR84.2.1 (Or.inr ⟨se, rfl, rfl, rfl⟩)
        rcases hbl with ⟨l1, l2, l3⟩ | ⟨g, l1, l2, l3⟩
        · subst l1
          rw [zlea_n hf, if_pos (decide_eq_true hyes)]
        · subst l1
          rw [zlea_s hf, if_pos ⟨by omega, decide_eq_true hyes⟩]
set_option maxHeartbeats 1000000 in
set_option maxRecDepth 100000 in
theorem s3_breaking_0 {t : zMod} {u : zCls} {T : zTown} (hc : cT (cg_now u) T) (hms : ∀ i, cg_ms u i ≤ 2147483647) {g0 : Nat} (hg0 : tBrk T = some g0) : Mi mX3_breaking 6 [.ref 11, .int (nI (0))] (hA t u) (fun r h' => ∃ (M' : zMp) (R' : zMr), h' = hA t (cg_let u, cg_lc u, cg_rt u, cg_rl u, cg_ra u, cg_rf u, cg_rn u, cg_rc u, cg_now u, cg_dra u, cg_kep u, cg_im u, (pg_mp M'), (pg_mw M'), (pg_mu M'), (pg_mn M'), (pg_mi M'), (pg_mc M'), (pg_md M'), (qg_mo R'), (qg_ms R'), (qg_mq R'), cg_se u, cg_sc u, cg_re u) ∧ r = nI g0 ∧ (∀ i, qg_ms R' i ≤ 2147483647)) := by
  obtain ⟨he, hT, hty, hk10⟩ := id hc
  have h7 := hT.1
  have hpw9 : 2 ^ tg_people T ≤ 2 ^ 7 := Nat.pow_le_pow_right (by omega) h7
  have ho := he.ok hT
  obtain ⟨he1, he2, he3, he4, he5, he6, he7⟩ := id he
  have hwt9 := hT.2.2.2.1
  have hpp9 := Nat.two_pow_pos (tg_people T)
  refine Mi.of (by decide) rfl (Nat.le_of_ble_eq_true rfl) ?_
  refine r_iload_n eX3_breaking_0 rfl rfl ?_
  refine n_if_eq eX3_breaking_1 (by omega) (fun hc1 => ?_) (fun hc1 => absurd hc1 (by decide))
  refine r_aload_n eX3_breaking_16 rfl rfl ?_
  refine r_getf (v := .ref 40) eX3_breaking_17 fX3_36 rfl rfl ?_
  refine r_aload_n eX3_breaking_20 rfl rfl ?_
  refine r_getf (v := .ref 16) eX3_breaking_21 fX3_23 rfl rfl ?_
  refine r_callVv1 eX3_breaking_24 lX3_166 (Or.inl ⟨_, _, _, rfl, rfl, rfl⟩) (s0_prepareT_now (t := t) (u := u) (T := T) hc) (by omega) (Nat.le_of_ble_eq_true rfl) (fun h1 hq => ?_)
  obtain ⟨M24, hh, hM24⟩ := hq
  obtain rfl := (show h1 = hA t (cg_let u, cg_lc u, cg_rt u, cg_rl u, cg_ra u, cg_rf u, cg_rn u, cg_rc u, cg_now u, cg_dra u, cg_kep u, cg_im u, (pg_mp M24), (pg_mw M24), (pg_mu M24), (pg_mn M24), (pg_mi M24), (pg_mc M24), (pg_md M24), cg_mo u, cg_ms u, cg_mq u, cg_se u, cg_sc u, cg_re u) from hh)
  refine r_aload_n eX3_breaking_27 rfl rfl ?_
  refine r_getf (v := .ref 16) eX3_breaking_28 fX3_23 rfl rfl ?_
  refine r_callVi0 eX3_breaking_31 lX3_110 (Or.inl ⟨_, _, _, rfl, rfl, rfl⟩) (s2_everyone_now (t := t) (u := (cg_let u, cg_lc u, cg_rt u, cg_rl u, cg_ra u, cg_rf u, cg_rn u, cg_rc u, cg_now u, cg_dra u, cg_kep u, cg_im u, (pg_mp M24), (pg_mw M24), (pg_mu M24), (pg_mn M24), (pg_mi M24), (pg_mc M24), (pg_md M24), cg_mo u, cg_ms u, cg_mq u, cg_se u, cg_sc u, cg_re u)) ho) (by omega) (Nat.le_of_ble_eq_true rfl) (fun r1 h1 hq => ?_)
  obtain ⟨rfl, rfl⟩ := (show r1 = nI (2 ^ tg_people T - 1) ∧ h1 = hA t (cg_let u, cg_lc u, cg_rt u, cg_rl u, cg_ra u, cg_rf u, cg_rn u, cg_rc u, cg_now u, cg_dra u, cg_kep u, cg_im u, (pg_mp M24), (pg_mw M24), (pg_mu M24), (pg_mn M24), (pg_mi M24), (pg_mc M24), (pg_md M24), cg_mo u, cg_ms u, cg_mq u, cg_se u, cg_sc u, cg_re u) from by rw [he1]; exact hq)
  refine r_istore_n eX3_breaking_34 rfl (by decide) ?_
  refine n_ldc 2147483647 eX3_breaking_35 kX3_188 rfl ?_
  refine r_istore_n eX3_breaking_37 rfl (by decide) ?_
  refine n_iconst 0 eX3_breaking_38 rfl ?_
  refine r_istore eX3_breaking_39 (by decide) ?_
  refine Rq.mono (s3_brk_l0 hc hg0 hM24 (2 ^ tg_people T) 0 none _ _ (cg_mo u, cg_ms u, cg_mq u) _ (Nat.zero_add _) rfl hms (Or.inl ⟨rfl, rfl, rfl⟩)) (fun r h9 hq => ?_)
  obtain ⟨x, rfl, M9, R9, q1, q2, q3, q4⟩ := hq
  exact ⟨x, rfl, M9, R9, q1, q2, q4⟩
set_option maxHeartbeats 1000000 in
set_option maxRecDepth 100000 in
theorem s3_brk_l1 {t : zMod} {u : zCls} {T : zTown} (hc : cT (cg_now u) T) {g0 : Nat} (hg0 : tBrk T = some g0) {M : zMp} (hM : pPr M T) : ∀ (k : Nat) (se : Nat) (f : Option Nat) (bb : Nat) (ll : Nat) (R : zMr) (v5 : Value) (hd : se + k = 2 ^ tg_people T) (hf : zlea (fun s => tCost T s) (fun s => decide (tAll T 0 s < 1000000)) se = f) (hR : ∀ i, qg_ms R i ≤ 2147483647) (hbl : (f = none ∧ ll = 2147483647 ∧ bb = 2 ^ tg_people T - 1) ∨ (∃ g, f = some g ∧ bb = g ∧ ll = tCost T g)), Rq mX3_breaking 6 none 41 [.ref 11, .int (nI (1)), .int (nI (bb)), .int (nI (ll)), .int (nI (se)), v5] [] (hA t (cg_let u, cg_lc u, cg_rt u, cg_rl u, cg_ra u, cg_rf u, cg_rn u, cg_rc u, cg_now u, cg_dra u, cg_kep u, cg_im u, (pg_mp M), (pg_mw M), (pg_mu M), (pg_mn M), (pg_mi M), (pg_mc M), (pg_md M), (qg_mo R), (qg_ms R), (qg_mq R), cg_se u, cg_sc u, cg_re u)) (fun r h' => ∃ x, r = some x ∧ (∃ (M' : zMp) (R' : zMr), h' = hA t (cg_let u, cg_lc u, cg_rt u, cg_rl u, cg_ra u, cg_rf u, cg_rn u, cg_rc u, cg_now u, cg_dra u, cg_kep u, cg_im u, (pg_mp M'), (pg_mw M'), (pg_mu M'), (pg_mn M'), (pg_mi M'), (pg_mc M'), (pg_md M'), (qg_mo R'), (qg_ms R'), (qg_mq R'), cg_se u, cg_sc u, cg_re u) ∧ x = nI (tCost T g0) ∧ pPr M' T ∧ ∀ i, qg_ms R' i ≤ 2147483647)) := by
  intro k
  induction k with
  | zero =>
    intro se f bb ll R v5 hd hf hR hbl
    obtain ⟨he, hT, hty, hk10⟩ := id hc
    have h7 := hT.1
    have hpw9 : 2 ^ tg_people T ≤ 2 ^ 7 := Nat.pow_le_pow_right (by omega) h7
    have ho := he.ok hT
    obtain ⟨he1, he2, he3, he4, he5, he6, he7⟩ := id he
    have hwt9 := hT.2.2.2.1
    have hpp9 := Nat.two_pow_pos (tg_people T)
    have e9 : se = 2 ^ tg_people T := by omega
    subst e9
    have hbb9 : bb < 2 ^ tg_people T := by
      rcases hbl with ⟨l1, l2, l3⟩ | ⟨g, l1, l2, l3⟩
      · omega
      · rw [l1] at hf; have := zlea_lt hf; omega
    refine r_iload eX3_breaking_41 rfl ?_
    refine r_aload_n eX3_breaking_43 rfl rfl ?_
    refine r_getf (v := .ref 16) eX3_breaking_44 fX3_23 rfl rfl ?_
    refine r_callVi0 eX3_breaking_47 lX3_110 (Or.inl ⟨_, _, _, rfl, rfl, rfl⟩) (s2_everyone_now (t := t) (u := (cg_let u, cg_lc u, cg_rt u, cg_rl u, cg_ra u, cg_rf u, cg_rn u, cg_rc u, cg_now u, cg_dra u, cg_kep u, cg_im u, (pg_mp M), (pg_mw M), (pg_mu M), (pg_mn M), (pg_mi M), (pg_mc M), (pg_md M), (qg_mo R), (qg_ms R), (qg_mq R), cg_se u, cg_sc u, cg_re u)) ho) (by omega) (Nat.le_of_ble_eq_true rfl) (fun r1 h1 hq => ?_)
    obtain ⟨rfl, rfl⟩ := (show r1 = nI (2 ^ tg_people T - 1) ∧ h1 = hA t (cg_let u, cg_lc u, cg_rt u, cg_rl u, cg_ra u, cg_rf u, cg_rn u, cg_rc u, cg_now u, cg_dra u, cg_kep u, cg_im u, (pg_mp M), (pg_mw M), (pg_mu M), (pg_mn M), (pg_mi M), (pg_mc M), (pg_md M), (qg_mo R), (qg_ms R), (qg_mq R), cg_se u, cg_sc u, cg_re u) from by rw [he1]; exact hq)
    refine n_icmp_gt eX3_breaking_50 (by omega) (by omega) (fun hc50 => ?_) (fun hc50 => absurd hc50 (by omega))
    refine r_iload_n eX3_breaking_111 rfl rfl ?_
    refine n_if_ne eX3_breaking_112 (by omega) (fun hc112 => ?_) (fun hc112 => absurd hc112 (by decide))
    refine r_aload_n eX3_breaking_119 rfl rfl ?_
    refine r_getf (v := .ref 16) eX3_breaking_120 fX3_23 rfl rfl ?_
    refine r_iload_n eX3_breaking_123 rfl rfl ?_
    refine r_callVi1 eX3_breaking_124 lX3_189 (Or.inl ⟨_, _, _, rfl, rfl, rfl⟩) (s2_costOf_now (t := t) (u := (cg_let u, cg_lc u, cg_rt u, cg_rl u, cg_ra u, cg_rf u, cg_rn u, cg_rc u, cg_now u, cg_dra u, cg_kep u, cg_im u, (pg_mp M), (pg_mw M), (pg_mu M), (pg_mn M), (pg_mi M), (pg_mc M), (pg_md M), (qg_mo R), (qg_ms R), (qg_mq R), cg_se u, cg_sc u, cg_re u)) ho (show bb < 128 by omega)) (by omega) (Nat.le_of_ble_eq_true rfl) (fun r1 h1 hq => ?_)
    obtain ⟨rfl, rfl⟩ := (show r1 = nI (tCost T bb) ∧ h1 = hA t (cg_let u, cg_lc u, cg_rt u, cg_rl u, cg_ra u, cg_rf u, cg_rn u, cg_rc u, cg_now u, cg_dra u, cg_kep u, cg_im u, (pg_mp M), (pg_mw M), (pg_mu M), (pg_mn M), (pg_mi M), (pg_mc M), (pg_md M), (qg_mo R), (qg_ms R), (qg_mq R), cg_se u, cg_sc u, cg_re u) from by rw [← tCost_eq he]; exact hq)
    have hx : bb = g0 := by
      have hg0 : zlea (fun s => tCost T s) (fun s => decide (tAll T 0 s < 1000000)) (2 ^ tg_people T) = some g0 := hg0
      rw [hf] at hg0
      rcases hbl with ⟨l1, l2, l3⟩ | ⟨g, l1, l2, l3⟩
      · rw [l1] at hg0; cases hg0
      · rw [l1] at hg0; cases hg0; exact l2
    rw [hx]
    exact z_iret eX3_breaking_127 rfl rfl ⟨_, rfl, M, R, rfl, rfl, hM, hR⟩
  | succ k ih =>
    intro se f bb ll R v5 hd hf hR hbl
    obtain ⟨he, hT, hty, hk10⟩ := id hc
    have h7 := hT.1
    have hpw9 : 2 ^ tg_people T ≤ 2 ^ 7 := Nat.pow_le_pow_right (by omega) h7
    have ho := he.ok hT
    obtain ⟨he1, he2, he3, he4, he5, he6, he7⟩ := id he
    have hwt9 := hT.2.2.2.1
    have hpp9 := Nat.two_pow_pos (tg_people T)
    have hll9 : ll ≤ 2147483647 := by
      rcases hbl with ⟨l1, l2, l3⟩ | ⟨g, l1, l2, l3⟩
      · omega
      · have := tCost_le hT g; omega
    have hcs9 := tCost_le hT se
    refine r_iload eX3_breaking_41 rfl ?_
    refine r_aload_n eX3_breaking_43 rfl rfl ?_
    refine r_getf (v := .ref 16) eX3_breaking_44 fX3_23 rfl rfl ?_
    refine r_callVi0 eX3_breaking_47 lX3_110 (Or.inl ⟨_, _, _, rfl, rfl, rfl⟩) (s2_everyone_now (t := t) (u := (cg_let u, cg_lc u, cg_rt u, cg_rl u, cg_ra u, cg_rf u, cg_rn u, cg_rc u, cg_now u, cg_dra u, cg_kep u, cg_im u, (pg_mp M), (pg_mw M), (pg_mu M), (pg_mn M), (pg_mi M), (pg_mc M), (pg_md M), (qg_mo R), (qg_ms R), (qg_mq R), cg_se u, cg_sc u, cg_re u)) ho) (by omega) (Nat.le_of_ble_eq_true rfl) (fun r1 h1 hq => ?_)
    obtain ⟨rfl, rfl⟩ := (show r1 = nI (2 ^ tg_people T - 1) ∧ h1 = hA t (cg_let u, cg_lc u, cg_rt u, cg_rl u, cg_ra u, cg_rf u, cg_rn u, cg_rc u, cg_now u, cg_dra u, cg_kep u, cg_im u, (pg_mp M), (pg_mw M), (pg_mu M), (pg_mn M), (pg_mi M), (pg_mc M), (pg_md M), (qg_mo R), (qg_ms R), (qg_mq R), cg_se u, cg_sc u, cg_re u) from by rw [he1]; exact hq)
    refine n_icmp_gt eX3_breaking_50 (by omega) (by omega) (fun hc50 => absurd hc50 (by omega)) (fun hc50 => ?_)
    refine r_aload_n eX3_breaking_53 rfl rfl ?_
    refine r_getf (v := .ref 16) eX3_breaking_54 fX3_23 rfl rfl ?_
    refine r_iload eX3_breaking_57 rfl ?_
    refine r_callVi1 eX3_breaking_59 lX3_189 (Or.inl ⟨_, _, _, rfl, rfl, rfl⟩) (s2_costOf_now (t := t) (u := (cg_let u, cg_lc u, cg_rt u, cg_rl u, cg_ra u, cg_rf u, cg_rn u, cg_rc u, cg_now u, cg_dra u, cg_kep u, cg_im u, (pg_mp M), (pg_mw M), (pg_mu M), (pg_mn M), (pg_mi M), (pg_mc M), (pg_md M), (qg_mo R), (qg_ms R), (qg_mq R), cg_se u, cg_sc u, cg_re u)) ho (show se < 128 by omega)) (by omega) (Nat.le_of_ble_eq_true rfl) (fun r1 h1 hq => ?_)
    obtain ⟨rfl, rfl⟩ := (show r1 = nI (tCost T se) ∧ h1 = hA t (cg_let u, cg_lc u, cg_rt u, cg_rl u, cg_ra u, cg_rf u, cg_rn u, cg_rc u, cg_now u, cg_dra u, cg_kep u, cg_im u, (pg_mp M), (pg_mw M), (pg_mu M), (pg_mn M), (pg_mi M), (pg_mc M), (pg_md M), (qg_mo R), (qg_ms R), (qg_mq R), cg_se u, cg_sc u, cg_re u) from by rw [← tCost_eq he]; exact hq)
    refine r_istore eX3_breaking_62 (by decide) ?_
    refine r_iload eX3_breaking_64 rfl ?_
    refine r_iload_n eX3_breaking_66 rfl rfl ?_
    refine n_icmp_ge eX3_breaking_67 (by omega) (by omega) (fun hc67 => ?_) (fun hc67 => ?_)
    · refine n_iinc (k := 1) eX3_breaking_105 rfl (by decide) rfl ?_
      refine r_goto eX3_breaking_108 ?_
      refine ih (se + 1) f bb ll R (.int (nI (tCost T se))) (by omega) ?_ hR hbl
      rcases hbl with ⟨l1, l2, l3⟩ | ⟨g, l1, l2, l3⟩
      · exfalso; omega
      · subst l1
        rw [zlea_s hf, if_neg (fun z => by have := z.1; omega)]
    · refine r_aload_n eX3_breaking_70 rfl rfl ?_
      refine r_getf (v := .ref 40) eX3_breaking_71 fX3_36 rfl rfl ?_
      refine r_aload_n eX3_breaking_74 rfl rfl ?_
      refine r_getf (v := .ref 16) eX3_breaking_75 fX3_23 rfl rfl ?_
      refine r_getf (v := .int (nI (tg_watch (cg_now u)))) eX3_breaking_78 fX3_87 rfl rfl ?_
      refine r_iload eX3_breaking_81 rfl ?_
      refine n_iconst 1 eX3_breaking_83 rfl ?_
      refine r_callVv3 eX3_breaking_84 lX3_147 (Or.inl ⟨_, _, _, rfl, rfl, rfl⟩) (s0_passT (t := t) (u := (cg_let u, cg_lc u, cg_rt u, cg_rl u, cg_ra u, cg_rf u, cg_rn u, cg_rc u, cg_now u, cg_dra u, cg_kep u, cg_im u, (pg_mp M), (pg_mw M), (pg_mu M), (pg_mn M), (pg_mi M), (pg_mc M), (pg_md M), (qg_mo R), (qg_ms R), (qg_mq R), cg_se u, cg_sc u, cg_re u)) (T := T) hT hM hR (by rw [← he3]; exact hwt9) (by omega) (by omega)) (by omega) (Nat.le_of_ble_eq_true rfl) (fun h1 hq => ?_)
      obtain ⟨R84, hh, hR84⟩ := hq
      obtain rfl := (show h1 = hA t (cg_let u, cg_lc u, cg_rt u, cg_rl u, cg_ra u, cg_rf u, cg_rn u, cg_rc u, cg_now u, cg_dra u, cg_kep u, cg_im u, (pg_mp M), (pg_mw M), (pg_mu M), (pg_mn M), (pg_mi M), (pg_mc M), (pg_md M), (qg_mo R84), (qg_ms R84), (qg_mq R84), cg_se u, cg_sc u, cg_re u) from hh)
      rw [← he3] at hR84
      refine r_aload_n eX3_breaking_87 rfl rfl ?_
      refine r_getf (v := .ref 40) eX3_breaking_88 fX3_36 rfl rfl ?_
      refine r_callVi0 eX3_breaking_91 lX3_151 (Or.inl ⟨_, _, _, rfl, rfl, rfl⟩) (s0_lastOutT (t := t) (u := (cg_let u, cg_lc u, cg_rt u, cg_rl u, cg_ra u, cg_rf u, cg_rn u, cg_rc u, cg_now u, cg_dra u, cg_kep u, cg_im u, (pg_mp M), (pg_mw M), (pg_mu M), (pg_mn M), (pg_mi M), (pg_mc M), (pg_md M), (qg_mo R84), (qg_ms R84), (qg_mq R84), cg_se u, cg_sc u, cg_re u)) (T := T) hT hM.1 hR84) (by omega) (Nat.le_of_ble_eq_true rfl) (fun r1 h1 hq => ?_)
      obtain ⟨rfl, rfl⟩ := (show r1 = nI (zmx (qg_mo R84) (tg_people T)) ∧ h1 = hA t (cg_let u, cg_lc u, cg_rt u, cg_rl u, cg_ra u, cg_rf u, cg_rn u, cg_rc u, cg_now u, cg_dra u, cg_kep u, cg_im u, (pg_mp M), (pg_mw M), (pg_mu M), (pg_mn M), (pg_mi M), (pg_mc M), (pg_md M), (qg_mo R84), (qg_ms R84), (qg_mq R84), cg_se u, cg_sc u, cg_re u) from hq)
      have hz91 := zV2_or (show zV2 1000000 2147483647 500000 (tAll T 0 se) (zmx (qg_mo R84) (tg_people T)) from qRs_all hR84)
      refine n_ldc 2147483647 eX3_breaking_94 kX3_188 rfl ?_
      refine n_icmp_eq eX3_breaking_96 (by omega) (by omega) (fun hc96 => ?_) (fun hc96 => ?_)
      · refine n_iinc (k := 1) eX3_breaking_105 rfl (by decide) rfl ?_
        refine r_goto eX3_breaking_108 ?_
        have hno : ¬ tAll T 0 se < 1000000 := by omega
        refine ih (se + 1) f bb ll R84 (.int (nI (tCost T se))) (by omega) ?_ hR84.2.1 hbl
        cases f with
        | none => rw [zlea_n hf, if_neg (fun z => hno (of_decide_eq_true z))]
        | some b => rw [zlea_s hf, if_neg (fun z => hno (of_decide_eq_true z.2))]
      · refine r_iload eX3_breaking_99 rfl ?_
        refine r_istore_n eX3_breaking_101 rfl (by decide) ?_
        refine r_iload eX3_breaking_102 rfl ?_
        refine r_istore_n eX3_breaking_104 rfl (by decide) ?_
        refine n_iinc (k := 1) eX3_breaking_105 rfl (by decide) rfl ?_
        refine r_goto eX3_breaking_108 ?_
        have hyes : tAll T 0 se < 1000000 := by omega
        refine ih (se + 1) (some se) se (tCost T se) R84 (.int (nI (tCost T se))) (by omega) ?_ hR84.2.1 (Or.inr ⟨se, rfl, rfl, rfl⟩)
        rcases hbl with ⟨l1, l2, l3⟩ | ⟨g, l1, l2, l3⟩
        · subst l1
          rw [zlea_n hf, if_pos (decide_eq_true hyes)]
        · subst l1
          rw [zlea_s hf, if_pos ⟨by omega, decide_eq_true hyes⟩]
set_option maxHeartbeats 1000000 in
set_option maxRecDepth 100000 in
theorem s3_breaking_1 {t : zMod} {u : zCls} {T : zTown} (hc : cT (cg_now u) T) (hms : ∀ i, cg_ms u i ≤ 2147483647) {g0 : Nat} (hg0 : tBrk T = some g0) : Mi mX3_breaking 6 [.ref 11, .int (nI (1))] (hA t u) (fun r h' => ∃ (M' : zMp) (R' : zMr), h' = hA t (cg_let u, cg_lc u, cg_rt u, cg_rl u, cg_ra u, cg_rf u, cg_rn u, cg_rc u, cg_now u, cg_dra u, cg_kep u, cg_im u, (pg_mp M'), (pg_mw M'), (pg_mu M'), (pg_mn M'), (pg_mi M'), (pg_mc M'), (pg_md M'), (qg_mo R'), (qg_ms R'), (qg_mq R'), cg_se u, cg_sc u, cg_re u) ∧ r = nI (tCost T g0) ∧ (∀ i, qg_ms R' i ≤ 2147483647)) := by
  obtain ⟨he, hT, hty, hk10⟩ := id hc
  have h7 := hT.1
  have hpw9 : 2 ^ tg_people T ≤ 2 ^ 7 := Nat.pow_le_pow_right (by omega) h7
  have ho := he.ok hT
  obtain ⟨he1, he2, he3, he4, he5, he6, he7⟩ := id he
  have hwt9 := hT.2.2.2.1
  have hpp9 := Nat.two_pow_pos (tg_people T)
  refine Mi.of (by decide) rfl (Nat.le_of_ble_eq_true rfl) ?_
  refine r_iload_n eX3_breaking_0 rfl rfl ?_
  refine n_if_eq eX3_breaking_1 (by omega) (fun hc1 => absurd hc1 (by decide)) (fun hc1 => ?_)
  refine r_iload_n eX3_breaking_4 rfl rfl ?_
  refine n_iconst 1 eX3_breaking_5 rfl ?_
  refine n_icmp_eq eX3_breaking_6 (by omega) (by omega) (fun hc6 => ?_) (fun hc6 => absurd hc6 (by decide))
  refine r_aload_n eX3_breaking_16 rfl rfl ?_
  refine r_getf (v := .ref 40) eX3_breaking_17 fX3_36 rfl rfl ?_
  refine r_aload_n eX3_breaking_20 rfl rfl ?_
  refine r_getf (v := .ref 16) eX3_breaking_21 fX3_23 rfl rfl ?_
  refine r_callVv1 eX3_breaking_24 lX3_166 (Or.inl ⟨_, _, _, rfl, rfl, rfl⟩) (s0_prepareT_now (t := t) (u := u) (T := T) hc) (by omega) (Nat.le_of_ble_eq_true rfl) (fun h1 hq => ?_)
  obtain ⟨M24, hh, hM24⟩ := hq
  obtain rfl := (show h1 = hA t (cg_let u, cg_lc u, cg_rt u, cg_rl u, cg_ra u, cg_rf u, cg_rn u, cg_rc u, cg_now u, cg_dra u, cg_kep u, cg_im u, (pg_mp M24), (pg_mw M24), (pg_mu M24), (pg_mn M24), (pg_mi M24), (pg_mc M24), (pg_md M24), cg_mo u, cg_ms u, cg_mq u, cg_se u, cg_sc u, cg_re u) from hh)
  refine r_aload_n eX3_breaking_27 rfl rfl ?_
  refine r_getf (v := .ref 16) eX3_breaking_28 fX3_23 rfl rfl ?_
  refine r_callVi0 eX3_breaking_31 lX3_110 (Or.inl ⟨_, _, _, rfl, rfl, rfl⟩) (s2_everyone_now (t := t) (u := (cg_let u, cg_lc u, cg_rt u, cg_rl u, cg_ra u, cg_rf u, cg_rn u, cg_rc u, cg_now u, cg_dra u, cg_kep u, cg_im u, (pg_mp M24), (pg_mw M24), (pg_mu M24), (pg_mn M24), (pg_mi M24), (pg_mc M24), (pg_md M24), cg_mo u, cg_ms u, cg_mq u, cg_se u, cg_sc u, cg_re u)) ho) (by omega) (Nat.le_of_ble_eq_true rfl) (fun r1 h1 hq => ?_)
  obtain ⟨rfl, rfl⟩ := (show r1 = nI (2 ^ tg_people T - 1) ∧ h1 = hA t (cg_let u, cg_lc u, cg_rt u, cg_rl u, cg_ra u, cg_rf u, cg_rn u, cg_rc u, cg_now u, cg_dra u, cg_kep u, cg_im u, (pg_mp M24), (pg_mw M24), (pg_mu M24), (pg_mn M24), (pg_mi M24), (pg_mc M24), (pg_md M24), cg_mo u, cg_ms u, cg_mq u, cg_se u, cg_sc u, cg_re u) from by rw [he1]; exact hq)
  refine r_istore_n eX3_breaking_34 rfl (by decide) ?_
  refine n_ldc 2147483647 eX3_breaking_35 kX3_188 rfl ?_
  refine r_istore_n eX3_breaking_37 rfl (by decide) ?_
  refine n_iconst 0 eX3_breaking_38 rfl ?_
  refine r_istore eX3_breaking_39 (by decide) ?_
  refine Rq.mono (s3_brk_l1 hc hg0 hM24 (2 ^ tg_people T) 0 none _ _ (cg_mo u, cg_ms u, cg_mq u) _ (Nat.zero_add _) rfl hms (Or.inl ⟨rfl, rfl, rfl⟩)) (fun r h9 hq => ?_)
  obtain ⟨x, rfl, M9, R9, q1, q2, q3, q4⟩ := hq
  exact ⟨x, rfl, M9, R9, q1, q2, q4⟩
set_option maxHeartbeats 1000000 in
set_option maxRecDepth 100000 in
theorem s3_breaking_o {t : zMod} {u : zCls} {x : Int32} (hx : x < 0 ∨ nI 2 ≤ x) : Mi mX3_breaking 6 [.ref 11, .int (x)] (hA t u) (fun r h' => r = (-2) ∧ h' = hA t (cg_let u, cg_lc u, cg_rt u, cg_rl u, cg_ra u, cg_rf u, cg_rn u, cg_rc u, cg_now u, cg_dra u, cg_kep u, cg_im u, cg_mp u, cg_mw u, cg_mu u, cg_mn u, cg_mi u, cg_mc u, cg_md u, cg_mo u, cg_ms u, cg_mq u, cg_se u, cg_sc u, (va_up (cg_re u) 2 (cg_re u 2 + 1)))) := by
  have hx0 : ¬ x = 0 := zne_of (k := 0) hx (by omega) (by omega)
  have hx1 : ¬ x = nI 1 := zne_of (k := 1) hx (by omega) (by omega)
  refine Mi.of (by decide) rfl (Nat.le_of_ble_eq_true rfl) ?_
  refine r_iload_n eX3_breaking_0 rfl rfl ?_
  refine r_if_eq eX3_breaking_1 (fun hc1 => absurd hc1 hx0) (fun hc1 => ?_)
  refine r_iload_n eX3_breaking_4 rfl rfl ?_
  refine n_iconst 1 eX3_breaking_5 rfl ?_
  refine r_icmp_eq eX3_breaking_6 (fun hc6 => absurd hc6 hx1) (fun hc6 => ?_)
  refine r_aload_n eX3_breaking_9 rfl rfl ?_
  refine r_bipush (v := (-2)) eX3_breaking_10 rfl ?_
  refine r_callVi1 eX3_breaking_12 lX3_46 (Or.inl ⟨_, _, _, rfl, rfl, rfl⟩) (s3_refuse (t := t) (u := u) (x := (-2)) (c := 2) (by decide) (by decide)) (by omega) (Nat.le_of_ble_eq_true rfl) (fun r1 h1 hq => ?_)
  obtain ⟨rfl, rfl⟩ := (show r1 = (-2) ∧ h1 = hA t (cg_let u, cg_lc u, cg_rt u, cg_rl u, cg_ra u, cg_rf u, cg_rn u, cg_rc u, cg_now u, cg_dra u, cg_kep u, cg_im u, cg_mp u, cg_mw u, cg_mu u, cg_mn u, cg_mi u, cg_mc u, cg_md u, cg_mo u, cg_ms u, cg_mq u, cg_se u, cg_sc u, (va_up (cg_re u) 2 ((cg_re u) 2 + 1))) from hq)
  exact z_iret eX3_breaking_15 rfl rfl ⟨_, rfl, rfl, rfl⟩
