/-! THE CLASS: seeds; lots -/
def tWk (T : zTown) (f : Nat → Nat) : zTown := (tg_kind T, f, tg_takes T, tg_due T, tg_cost T, tg_people T, tg_door T, tg_held T, tg_keys T, tg_watch T, tg_pace T, tg_ring T)
def tDraw (T : zTown) (z : Int32) : zTown := tWk T (fun p => zdr (zsN z (p + 1)))
def tSeedV (T : zTown) (z : Int32) : Nat := if tAll (tDraw T z) 0 0 < 1000000 then tAll (tDraw T z) 0 0 else 0
theorem tSeedV_n {T : zTown} {z : Int32} (h : ¬ tAll (tDraw T z) 0 0 < 1000000) : tSeedV T z = 0 := by
  unfold tSeedV
  rw [if_neg h]
theorem tSeedV_y {T : zTown} {z : Int32} {v : Nat} (h : tAll (tDraw T z) 0 0 < 1000000) (hv : tAll (tDraw T z) 0 0 = v) : tSeedV T z = v := by
  unfold tSeedV
  rw [if_pos h, hv]
theorem tWk_ok {T : zTown} {f : Nat → Nat} (h : tOk T) (hf : ∀ p, p < tg_people T → f p ≤ 99) : tOk (tWk T f) := ⟨h.1, h.2.1, h.2.2.1, h.2.2.2.1, h.2.2.2.2.1, fun p hp => by
  obtain ⟨i1, i2, i3, i4, i5⟩ := h.2.2.2.2.2 p hp
  exact ⟨i1, hf p hp, i3, i4, i5⟩⟩
theorem tWk_eq {T X : zTown} {f g h : Nat → Nat} (he : tEq (tWk T f) X) (hg : ∀ p, p < tg_people T → g p = h p) : tEq (tWk T g) (tWk X h) := by
  obtain ⟨a, b, c, d, e, f', g'⟩ := he
  refine ⟨a, b, c, d, e, fun p hp => ?_, g'⟩
  obtain ⟨i1, i2, i3, i4, i5⟩ := f' p hp
  exact ⟨i1, hg p hp, i3, i4, i5⟩
theorem tWk_self {T X : zTown} (he : tEq T X) : tEq (tWk T (tg_wakes X)) X := by
  obtain ⟨a, b, c, d, e, f', g'⟩ := he
  refine ⟨a, b, c, d, e, fun p hp => ?_, g'⟩
  obtain ⟨i1, i2, i3, i4, i5⟩ := f' p hp
  exact ⟨i1, rfl, i3, i4, i5⟩
theorem zdr_le (x : Int32) : zdr x ≤ 99 := by
  unfold zdr
  omega
theorem tWk_people (T : zTown) (f : Nat → Nat) : tg_people (tWk T f) = tg_people T := rfl
theorem tDraw_people (T : zTown) (z : Int32) : tg_people (tDraw T z) = tg_people T := tWk_people T _
theorem tDraw_ok {T : zTown} (h : tOk T) (z : Int32) : tOk (tDraw T z) := tWk_ok h (fun p _ => zdr_le _)
theorem tWk_keysI {T : zTown} (h : tKeys T) (f : Nat → Nat) : tKeys (tWk T f) := h
theorem tWk_keysN (T : zTown) (f : Nat → Nat) : tg_keys (tWk T f) = tg_keys T := rfl
theorem zss_le {f : Int32 → Nat} {m b : Nat} {z : Int32} (h : ∀ z, f z ≤ b) : ∀ n, (zss f m z n).1 ≤ b * n
  | 0 => Nat.zero_le _
  | n + 1 => by
    have h1 := zss_le (m := m) (z := z) h n
    have h2 := h (zss f m z n).2
    rw [zss]
    show (zss f m z n).1 + f (zss f m z n).2 ≤ b * (n + 1)
    rw [Nat.mul_succ]
    omega
set_option maxHeartbeats 1000000 in
set_option maxRecDepth 100000 in
theorem s3_nextSeed {h : List zC} {z : Int32} : Mi mX3_nextSeed 1 [.int (z)] h (fun r h' => r = zsd z ∧ h' = h) := by
  refine Mi.of (by decide) rfl (Nat.le_of_ble_eq_true rfl) ?_
  refine r_iload_n eX3_nextSeed_0 rfl rfl ?_
  refine n_ldc 1664525 eX3_nextSeed_1 kX3_226 rfl ?_
  refine r_imul eX3_nextSeed_3 ?_
  refine n_ldc 1013904223 eX3_nextSeed_4 kX3_227 rfl ?_
  refine r_iadd eX3_nextSeed_6 ?_
  refine z_top (y := zsd z) rfl ?_
  exact z_iret eX3_nextSeed_7 rfl rfl ⟨_, rfl, rfl, rfl⟩
set_option maxHeartbeats 1000000 in
set_option maxRecDepth 100000 in
theorem s3_draw {h : List zC} {z : Int32} : Mi mX3_drawBelowHundred 1 [.int (z)] h (fun r h' => r = nI (zdr z) ∧ h' = h) := by
  refine Mi.of (by decide) rfl (Nat.le_of_ble_eq_true rfl) ?_
  refine r_iload_n eX3_drawBelowHundred_0 rfl rfl ?_
  refine n_ldc 2147483647 eX3_drawBelowHundred_1 kX3_188 rfl ?_
  refine r_iand eX3_drawBelowHundred_3 ?_
  refine z_top (y := nI (z.toBitVec.toNat % 2 ^ 31)) (zdr_is _) ?_
  refine n_sipush 256 eX3_drawBelowHundred_4 rfl ?_
  refine n_div eX3_drawBelowHundred_7 (by omega) (by omega) (by omega) ?_
  refine n_bipush 100 eX3_drawBelowHundred_8 rfl ?_
  refine n_rem eX3_drawBelowHundred_10 (by omega) (by omega) (by omega) ?_
  exact z_iret eX3_drawBelowHundred_11 rfl rfl ⟨_, rfl, rfl, rfl⟩
set_option maxHeartbeats 1000000 in
set_option maxRecDepth 100000 in
theorem s3_seeds_b {t : zMod} {u : zCls} {n z : Int32} (hn : n < nI 1) : Mi mX3_seeds 8 [.ref 11, .int (n), .int (z)] (hA t u) (fun r h' => r = (-4) ∧ h' = hA t (cg_let u, cg_lc u, cg_rt u, cg_rl u, cg_ra u, cg_rf u, cg_rn u, cg_rc u, cg_now u, cg_dra u, cg_kep u, cg_im u, cg_mp u, cg_mw u, cg_mu u, cg_mn u, cg_mi u, cg_mc u, cg_md u, cg_mo u, cg_ms u, cg_mq u, cg_se u, cg_sc u, (va_up (cg_re u) 4 (cg_re u 4 + 1)))) := by
  refine Mi.of (by decide) rfl (Nat.le_of_ble_eq_true rfl) ?_
  refine r_iload_n eX3_seeds_0 rfl rfl ?_
  refine n_iconst 1 eX3_seeds_1 rfl ?_
  refine r_icmp_ge eX3_seeds_2 (fun hc2 => absurd hc2 (Int32.not_le.mpr hn)) (fun hc2 => ?_)
  refine r_aload_n eX3_seeds_5 rfl rfl ?_
  refine r_bipush (v := (-4)) eX3_seeds_6 rfl ?_
  refine r_callVi1 eX3_seeds_8 lX3_46 (Or.inl ⟨_, _, _, rfl, rfl, rfl⟩) (s3_refuse (t := t) (u := u) (x := (-4)) (c := 4) (by decide) (by decide)) (by omega) (Nat.le_of_ble_eq_true rfl) (fun r1 h1 hq => ?_)
  obtain ⟨rfl, rfl⟩ := (show r1 = (-4) ∧ h1 = hA t (cg_let u, cg_lc u, cg_rt u, cg_rl u, cg_ra u, cg_rf u, cg_rn u, cg_rc u, cg_now u, cg_dra u, cg_kep u, cg_im u, cg_mp u, cg_mw u, cg_mu u, cg_mn u, cg_mi u, cg_mc u, cg_md u, cg_mo u, cg_ms u, cg_mq u, cg_se u, cg_sc u, (va_up (cg_re u) 4 ((cg_re u) 4 + 1))) from hq)
  exact z_iret eX3_seeds_11 rfl rfl ⟨_, rfl, rfl, rfl⟩
set_option maxHeartbeats 1000000 in
set_option maxRecDepth 100000 in
theorem s3_seeds_r {t : zMod} {u : zCls} {n z : Int32} (hn0 : nI 1 ≤ n) (hn : nI 20 < n) : Mi mX3_seeds 8 [.ref 11, .int (n), .int (z)] (hA t u) (fun r h' => r = (-6) ∧ h' = hA t (cg_let u, cg_lc u, cg_rt u, cg_rl u, cg_ra u, cg_rf u, cg_rn u, cg_rc u, cg_now u, cg_dra u, cg_kep u, cg_im u, cg_mp u, cg_mw u, cg_mu u, cg_mn u, cg_mi u, cg_mc u, cg_md u, cg_mo u, cg_ms u, cg_mq u, cg_se u, cg_sc u, (va_up (cg_re u) 6 (cg_re u 6 + 1)))) := by
  refine Mi.of (by decide) rfl (Nat.le_of_ble_eq_true rfl) ?_
  refine r_iload_n eX3_seeds_0 rfl rfl ?_
  refine n_iconst 1 eX3_seeds_1 rfl ?_
  refine r_icmp_ge eX3_seeds_2 (fun hc2 => ?_) (fun hc2 => absurd hc2 (fun z => z hn0))
  refine r_iload_n eX3_seeds_12 rfl rfl ?_
  refine n_bipush 20 eX3_seeds_13 rfl ?_
  refine r_icmp_le eX3_seeds_15 (fun hc15 => absurd hc15 (Int32.not_le.mpr hn)) (fun hc15 => ?_)
  refine r_aload_n eX3_seeds_18 rfl rfl ?_
  refine r_bipush (v := (-6)) eX3_seeds_19 rfl ?_
  refine r_callVi1 eX3_seeds_21 lX3_46 (Or.inl ⟨_, _, _, rfl, rfl, rfl⟩) (s3_refuse (t := t) (u := u) (x := (-6)) (c := 6) (by decide) (by decide)) (by omega) (Nat.le_of_ble_eq_true rfl) (fun r1 h1 hq => ?_)
  obtain ⟨rfl, rfl⟩ := (show r1 = (-6) ∧ h1 = hA t (cg_let u, cg_lc u, cg_rt u, cg_rl u, cg_ra u, cg_rf u, cg_rn u, cg_rc u, cg_now u, cg_dra u, cg_kep u, cg_im u, cg_mp u, cg_mw u, cg_mu u, cg_mn u, cg_mi u, cg_mc u, cg_md u, cg_mo u, cg_ms u, cg_mq u, cg_se u, cg_sc u, (va_up (cg_re u) 6 ((cg_re u) 6 + 1))) from hq)
  exact z_iret eX3_seeds_24 rfl rfl ⟨_, rfl, rfl, rfl⟩
theorem tWk_drop {T X : zTown} {f h : Nat → Nat} (he : tEq (tWk T f) X) : tEq (tWk T (tg_wakes (tWk X h))) (tWk X h) := tWk_eq he (fun _ _ => rfl)
set_option maxHeartbeats 1000000 in
set_option maxRecDepth 100000 in
theorem s3_seeds_i {t : zMod} {u : zCls} {T : zTown} {DX : zTown} (hp7 : tg_people DX ≤ 7) {M : zMp} {R : zMr} {n su dd : Nat} {z z0 : Int32} {Q : Option Int32 → List zC → Prop} (kk9 : ∀ (W : Nat → Nat) (v9 : Value), (∀ i, i < tg_people DX → W i = zdr (zsN z0 (i + 1))) → Rq mX3_seeds 8 none 90 [.ref 11, .int (nI n), .int z, .int (zsN z0 (tg_people DX)), .int (nI su), .int (nI dd), v9] [] (hA t (cg_let u, cg_lc u, cg_rt u, cg_rl u, cg_ra u, cg_rf u, cg_rn u, cg_rc u, cg_now u, (tg_kind DX, W, tg_takes DX, tg_due DX, tg_cost DX, tg_people DX, tg_door DX, tg_held DX, tg_keys DX, tg_watch DX, tg_pace DX, tg_ring DX), cg_kep u, cg_im u, (pg_mp M), (pg_mw M), (pg_mu M), (pg_mn M), (pg_mi M), (pg_mc M), (pg_md M), (qg_mo R), (qg_ms R), (qg_mq R), cg_se u, cg_sc u, cg_re u)) Q) : ∀ (k : Nat) (p : Nat) (W : Nat → Nat) (hd : p + k = tg_people DX) (hW : ∀ i, i < p → W i = zdr (zsN z0 (i + 1))), Rq mX3_seeds 8 none 53 [.ref 11, .int (nI (n)), .int (z), .int ((zsN z0 p)), .int (nI (su)), .int (nI (dd)), .int (nI (p))] [] (hA t (cg_let u, cg_lc u, cg_rt u, cg_rl u, cg_ra u, cg_rf u, cg_rn u, cg_rc u, cg_now u, (tg_kind DX, W, tg_takes DX, tg_due DX, tg_cost DX, tg_people DX, tg_door DX, tg_held DX, tg_keys DX, tg_watch DX, tg_pace DX, tg_ring DX), cg_kep u, cg_im u, (pg_mp M), (pg_mw M), (pg_mu M), (pg_mn M), (pg_mi M), (pg_mc M), (pg_md M), (qg_mo R), (qg_ms R), (qg_mq R), cg_se u, cg_sc u, cg_re u)) Q  := by
  intro k
  induction k with
  | zero =>
    intro p W hd hW
    have e9 : p = tg_people DX := by omega
    subst e9
    refine r_iload eX3_seeds_53 rfl ?_
    refine r_aload_n eX3_seeds_55 rfl rfl ?_
    refine r_getf (v := .ref 24) eX3_seeds_56 fX3_27 rfl rfl ?_
    refine r_getf (v := .int (nI (tg_people DX))) eX3_seeds_59 fX3_130 rfl rfl ?_
    refine n_icmp_ge eX3_seeds_62 (by omega) (by omega) (fun hc62 => ?_) (fun hc62 => absurd hc62 (by omega))
    exact kk9 W _ hW
  | succ k ih =>
    intro p W hd hW
    refine r_iload eX3_seeds_53 rfl ?_
    refine r_aload_n eX3_seeds_55 rfl rfl ?_
    refine r_getf (v := .ref 24) eX3_seeds_56 fX3_27 rfl rfl ?_
    refine r_getf (v := .int (nI (tg_people DX))) eX3_seeds_59 fX3_130 rfl rfl ?_
    refine n_icmp_ge eX3_seeds_62 (by omega) (by omega) (fun hc62 => absurd hc62 (by omega)) (fun hc62 => ?_)
    refine r_iload_n eX3_seeds_65 rfl rfl ?_
    refine r_callSi1 eX3_seeds_66 lX3_207 (s3_nextSeed) (by omega) (Nat.le_of_ble_eq_true rfl) (fun r1 h1 hq => ?_)
    obtain ⟨hr, rfl⟩ := hq
    obtain rfl := (show r1 = zsN z0 (p + 1) from hr)
    refine r_istore_n eX3_seeds_69 rfl (by decide) ?_
    refine r_aload_n eX3_seeds_70 rfl rfl ?_
    refine r_getf (v := .ref 24) eX3_seeds_71 fX3_27 rfl rfl ?_
    refine r_getf (v := .ref 26) eX3_seeds_74 fX3_69 rfl rfl ?_
    refine r_iload eX3_seeds_77 rfl ?_
    refine r_iload_n eX3_seeds_79 rfl rfl ?_
    refine r_callSi1 eX3_seeds_80 lX3_210 (s3_draw) (by omega) (Nat.le_of_ble_eq_true rfl) (fun r1 h1 hq => ?_)
    obtain ⟨rfl, rfl⟩ := hq
    refine cw_dra_wakes (j := p) (v := zdr (zsN z0 (p + 1))) eX3_seeds_83 rfl rfl (by omega) ?_
    refine n_iinc (k := 1) eX3_seeds_84 rfl (by decide) rfl ?_
    refine r_goto eX3_seeds_87 ?_
    refine ih (p + 1) _ (by omega) (fun i hi => ?_)
    by_cases e : i = p
    · rw [e, zu_s]
    · rw [zu_n e]; exact hW i (by omega)
set_option maxHeartbeats 1000000 in
set_option maxRecDepth 100000 in
theorem s3_seeds_m {t : zMod} {u : zCls} {T : zTown} {DX : zTown} (hcD : cT DX T) (h7 : tg_people T ≤ 7) {M : zMp} {R : zMr} (hR : ∀ i, qg_ms R i ≤ 2147483647) {n su dd : Nat} {z zs : Int32} {v9 : Value} {Q : Option Int32 → List zC → Prop} (kk9 : ∀ (M : zMp) (R : zMr) (v : Value) (s9 : Nat), (∀ i, qg_ms R i ≤ 2147483647) → s9 = (if tAll T 0 0 < 1000000 then tAll T 0 0 else 0) → Rq mX3_seeds 8 none 44 [.ref 11, .int (nI n), .int z, .int zs, .int (nI (su + s9)), .int (nI (dd + 1)), v] [] (hA t (cg_let u, cg_lc u, cg_rt u, cg_rl u, cg_ra u, cg_rf u, cg_rn u, cg_rc u, cg_now u, DX, cg_kep u, cg_im u, (pg_mp M), (pg_mw M), (pg_mu M), (pg_mn M), (pg_mi M), (pg_mc M), (pg_md M), (qg_mo R), (qg_ms R), (qg_mq R), cg_se u, cg_sc u, cg_re u)) Q) : Rq mX3_seeds 8 none 90 [.ref 11, .int (nI n), .int z, .int zs, .int (nI su), .int (nI dd), v9] [] (hA t (cg_let u, cg_lc u, cg_rt u, cg_rl u, cg_ra u, cg_rf u, cg_rn u, cg_rc u, cg_now u, DX, cg_kep u, cg_im u, (pg_mp M), (pg_mw M), (pg_mu M), (pg_mn M), (pg_mi M), (pg_mc M), (pg_md M), (qg_mo R), (qg_ms R), (qg_mq R), cg_se u, cg_sc u, cg_re u)) Q := by
  refine r_aload_n eX3_seeds_90 rfl rfl ?_
  refine r_aload_n eX3_seeds_91 rfl rfl ?_
  refine r_getf (v := .ref 24) eX3_seeds_92 fX3_27 rfl rfl ?_
  refine r_callVi1 eX3_seeds_95 lX3_126 (Or.inl ⟨_, _, _, rfl, rfl, rfl⟩) (s3_lastOutOf_dra (t := t) (u := (cg_let u, cg_lc u, cg_rt u, cg_rl u, cg_ra u, cg_rf u, cg_rn u, cg_rc u, cg_now u, DX, cg_kep u, cg_im u, (pg_mp M), (pg_mw M), (pg_mu M), (pg_mn M), (pg_mi M), (pg_mc M), (pg_md M), (qg_mo R), (qg_ms R), (qg_mq R), cg_se u, cg_sc u, cg_re u)) (T := T) hcD hR) (by omega) (Nat.le_of_ble_eq_true rfl) (fun r1 h1 hq => ?_)
  obtain ⟨M95, R95, hh, hr, hM95, hR95⟩ := hq
  obtain rfl := (show h1 = hA t (cg_let u, cg_lc u, cg_rt u, cg_rl u, cg_ra u, cg_rf u, cg_rn u, cg_rc u, cg_now u, DX, cg_kep u, cg_im u, (pg_mp M95), (pg_mw M95), (pg_mu M95), (pg_mn M95), (pg_mi M95), (pg_mc M95), (pg_md M95), (qg_mo R95), (qg_ms R95), (qg_mq R95), cg_se u, cg_sc u, cg_re u) from hh)
  obtain rfl := (show r1 = nI (zmx (qg_mo R95) (tg_people T)) from hr)
  have hz95 := zV2_or (qRs_all hR95)
  refine r_istore eX3_seeds_98 (by decide) ?_
  refine r_iload eX3_seeds_100 rfl ?_
  refine n_ldc 2147483647 eX3_seeds_102 kX3_188 rfl ?_
  refine n_icmp_eq eX3_seeds_104 (by omega) (by omega) (fun hc104 => ?_) (fun hc104 => ?_)
  · refine n_iinc (k := 1) eX3_seeds_114 rfl (by decide) rfl ?_
    refine r_goto eX3_seeds_117 ?_
    exact kk9 M95 R95 (.int (nI (zmx (qg_mo R95) (tg_people T)))) 0 hR95.2.1 (by rw [if_neg (by omega)])
  · refine r_iload eX3_seeds_107 rfl ?_
    refine r_iload eX3_seeds_109 rfl ?_
    refine n_add eX3_seeds_111 ?_
    refine r_istore eX3_seeds_112 (by decide) ?_
    refine n_iinc (k := 1) eX3_seeds_114 rfl (by decide) rfl ?_
    refine r_goto eX3_seeds_117 ?_
    exact kk9 M95 R95 (.int (nI (zmx (qg_mo R95) (tg_people T)))) (zmx (qg_mo R95) (tg_people T)) hR95.2.1 (by rw [if_pos (by omega)]; omega)
set_option maxHeartbeats 1000000 in
set_option maxRecDepth 100000 in
theorem s3_seeds_o {t : zMod} {u : zCls} {T : zTown} (hc : cT (cg_now u) T) {n : Nat} {z : Int32} (hn : n ≤ 20) : ∀ (k : Nat) (dd : Nat) (su : Nat) (zd : Int32) (M : zMp) (R : zMr) (DX : zTown) (v6 : Value) (hd : dd + k = n) (hsu : su = (zss (tSeedV T) (tg_people T) z dd).1) (hzd : zd = (zss (tSeedV T) (tg_people T) z dd).2) (hDX : tEq (tWk T (tg_wakes DX)) DX) (hR : ∀ i, qg_ms R i ≤ 2147483647), Rq mX3_seeds 8 none 44 [.ref 11, .int (nI (n)), .int (z), .int (zd), .int (nI (su)), .int (nI (dd)), v6] [] (hA t (cg_let u, cg_lc u, cg_rt u, cg_rl u, cg_ra u, cg_rf u, cg_rn u, cg_rc u, cg_now u, DX, cg_kep u, cg_im u, (pg_mp M), (pg_mw M), (pg_mu M), (pg_mn M), (pg_mi M), (pg_mc M), (pg_md M), (qg_mo R), (qg_ms R), (qg_mq R), cg_se u, cg_sc u, cg_re u)) (fun r h' => ∃ x, r = some x ∧ ∃ (M' : zMp) (R' : zMr) (D' : zTown), h' = hA t (cg_let u, cg_lc u, cg_rt u, cg_rl u, cg_ra u, cg_rf u, cg_rn u, cg_rc u, cg_now u, D', cg_kep u, cg_im u, (pg_mp M'), (pg_mw M'), (pg_mu M'), (pg_mn M'), (pg_mi M'), (pg_mc M'), (pg_md M'), (qg_mo R'), (qg_ms R'), (qg_mq R'), cg_se u, cg_sc u, cg_re u) ∧ x = nI (zss (tSeedV T) (tg_people T) z n).1 ∧ ∀ i, qg_ms R' i ≤ 2147483647) := by
  intro k
  induction k with
  | zero =>
    intro dd su zd M R DX v6 hd hsu hzd hDX hR
    obtain ⟨he, hT, hty, hk10⟩ := id hc
    have h7 := hT.1
    have hpw9 : 2 ^ tg_people T ≤ 2 ^ 7 := Nat.pow_le_pow_right (by omega) h7
    have ho := he.ok hT
    obtain ⟨he1, he2, he3, he4, he5, he6, he7⟩ := id he
    have hwt9 := hT.2.2.2.1
    have hpp9 := Nat.two_pow_pos (tg_people T)
    have e9 : dd = n := by omega
    subst e9
    subst hsu
    refine r_iload eX3_seeds_44 rfl ?_
    refine r_iload_n eX3_seeds_46 rfl rfl ?_
    refine n_icmp_ge eX3_seeds_47 (by omega) (by omega) (fun hc47 => ?_) (fun hc47 => absurd hc47 (by omega))
    refine r_iload eX3_seeds_120 rfl ?_
    exact z_iret eX3_seeds_122 rfl rfl ⟨_, rfl, M, R, DX, rfl, rfl, hR⟩
  | succ k ih =>
    intro dd su zd M R DX v6 hd hsu hzd hDX hR
    obtain ⟨he, hT, hty, hk10⟩ := id hc
    have h7 := hT.1
    have hpw9 : 2 ^ tg_people T ≤ 2 ^ 7 := Nat.pow_le_pow_right (by omega) h7
    have ho := he.ok hT
    obtain ⟨he1, he2, he3, he4, he5, he6, he7⟩ := id he
    have hwt9 := hT.2.2.2.1
    have hpp9 := Nat.two_pow_pos (tg_people T)
    subst hzd
    refine r_iload eX3_seeds_44 rfl ?_
    refine r_iload_n eX3_seeds_46 rfl rfl ?_
    refine n_icmp_ge eX3_seeds_47 (by omega) (by omega) (fun hc47 => absurd hc47 (by omega)) (fun hc47 => ?_)
    refine n_iconst 0 eX3_seeds_50 rfl ?_
    refine r_istore eX3_seeds_51 (by decide) ?_
    have hpp : tg_people DX = tg_people T := hDX.1.symm
    refine z_h (h' := hA t (cg_let u, cg_lc u, cg_rt u, cg_rl u, cg_ra u, cg_rf u, cg_rn u, cg_rc u, cg_now u, (tg_kind DX, (tg_wakes DX), tg_takes DX, tg_due DX, tg_cost DX, tg_people DX, tg_door DX, tg_held DX, tg_keys DX, tg_watch DX, tg_pace DX, tg_ring DX), cg_kep u, cg_im u, (pg_mp M), (pg_mw M), (pg_mu M), (pg_mn M), (pg_mi M), (pg_mc M), (pg_md M), (qg_mo R), (qg_ms R), (qg_mq R), cg_se u, cg_sc u, cg_re u)) rfl ?_
    refine s3_seeds_i (T := T) (DX := DX) (by omega) (fun W v9 hW => ?_) (tg_people DX) 0 (tg_wakes DX) (Nat.zero_add _) (fun i hi => absurd hi (by omega))
    have hD9 : tEq (tDraw T (zss (tSeedV T) (tg_people T) z dd).2) (tWk DX W) := tWk_eq hDX (fun p hp => (hW p (by omega)).symm)
    have hcD : cT (tWk DX W) (tDraw T (zss (tSeedV T) (tg_people T) z dd).2) := ⟨hD9, tDraw_ok hT _, tWk_keysI hty _, (tWk_keysN T _).symm ▸ hk10⟩
    refine z_h (h' := hA t (cg_let u, cg_lc u, cg_rt u, cg_rl u, cg_ra u, cg_rf u, cg_rn u, cg_rc u, cg_now u, (tWk DX W), cg_kep u, cg_im u, (pg_mp M), (pg_mw M), (pg_mu M), (pg_mn M), (pg_mi M), (pg_mc M), (pg_md M), (qg_mo R), (qg_ms R), (qg_mq R), cg_se u, cg_sc u, cg_re u)) rfl ?_
    refine s3_seeds_m (T := tDraw T (zss (tSeedV T) (tg_people T) z dd).2) hcD (by rw [tDraw_people]; omega) hR (fun M9 R9 v8 s9 hm9 hs9 => ?_)
    refine ih (dd + 1) _ _ M9 R9 (tWk DX W) _ (by omega) ?_ ?_ (tWk_drop hDX) hm9
    · rw [zss]
      show _ = (zss (tSeedV T) (tg_people T) z dd).1 + tSeedV T (zss (tSeedV T) (tg_people T) z dd).2
      rw [hs9, hsu, tSeedV]
    · rw [hpp, zss]
set_option maxHeartbeats 1000000 in
set_option maxRecDepth 100000 in
theorem s3_seeds_k {t : zMod} {u : zCls} {T : zTown} (hc : cT (cg_now u) T) (hms : ∀ i, cg_ms u i ≤ 2147483647) {n : Nat} {z : Int32} (hn1 : 1 ≤ n) (hn : n ≤ 20) : Mi mX3_seeds 8 [.ref 11, .int (nI (n)), .int (z)] (hA t u) (fun r h' => ∃ (M' : zMp) (R' : zMr) (D' : zTown), h' = hA t (cg_let u, cg_lc u, cg_rt u, cg_rl u, cg_ra u, cg_rf u, cg_rn u, cg_rc u, cg_now u, D', cg_kep u, cg_im u, (pg_mp M'), (pg_mw M'), (pg_mu M'), (pg_mn M'), (pg_mi M'), (pg_mc M'), (pg_md M'), (qg_mo R'), (qg_ms R'), (qg_mq R'), cg_se u, cg_sc u, cg_re u) ∧ r = nI (zss (tSeedV T) (tg_people T) z n).1 ∧ ∀ i, qg_ms R' i ≤ 2147483647) := by
  obtain ⟨he, hT, hty, hk10⟩ := id hc
  have h7 := hT.1
  have hpw9 : 2 ^ tg_people T ≤ 2 ^ 7 := Nat.pow_le_pow_right (by omega) h7
  have ho := he.ok hT
  obtain ⟨he1, he2, he3, he4, he5, he6, he7⟩ := id he
  have hwt9 := hT.2.2.2.1
  have hpp9 := Nat.two_pow_pos (tg_people T)
  have hrg9 : tg_ring (cg_now u) ≤ 1 := ho.2.2.2.2.1
  refine Mi.of (by decide) rfl (Nat.le_of_ble_eq_true rfl) ?_
  refine r_iload_n eX3_seeds_0 rfl rfl ?_
  refine n_iconst 1 eX3_seeds_1 rfl ?_
  refine n_icmp_ge eX3_seeds_2 (by omega) (by omega) (fun hc2 => ?_) (fun hc2 => absurd hc2 (by omega))
  refine r_iload_n eX3_seeds_12 rfl rfl ?_
  refine n_bipush 20 eX3_seeds_13 rfl ?_
  refine n_icmp_le eX3_seeds_15 (by omega) (by omega) (fun hc15 => ?_) (fun hc15 => absurd hc15 (by omega))
  refine r_aload_n eX3_seeds_25 rfl rfl ?_
  refine r_getf (v := .ref 24) eX3_seeds_26 fX3_27 rfl rfl ?_
  refine r_aload_n eX3_seeds_29 rfl rfl ?_
  refine r_getf (v := .ref 16) eX3_seeds_30 fX3_23 rfl rfl ?_
  refine r_callVv1 eX3_seeds_33 lX3_54 (Or.inl ⟨_, _, _, rfl, rfl, rfl⟩) (s2_become_dra_now (t := t) (u := u) hrg9) (by omega) (Nat.le_of_ble_eq_true rfl) (fun h1 hq => ?_)
  obtain rfl := (show h1 = hA t (cg_let u, cg_lc u, cg_rt u, cg_rl u, cg_ra u, cg_rf u, cg_rn u, cg_rc u, cg_now u, (zbec (cg_now u) (cg_dra u)), cg_kep u, cg_im u, cg_mp u, cg_mw u, cg_mu u, cg_mn u, cg_mi u, cg_mc u, cg_md u, cg_mo u, cg_ms u, cg_mq u, cg_se u, cg_sc u, cg_re u) from hq)
  refine r_iload_n eX3_seeds_36 rfl rfl ?_
  refine r_istore_n eX3_seeds_37 rfl (by decide) ?_
  refine n_iconst 0 eX3_seeds_38 rfl ?_
  refine r_istore eX3_seeds_39 (by decide) ?_
  refine n_iconst 0 eX3_seeds_41 rfl ?_
  refine r_istore eX3_seeds_42 (by decide) ?_
  refine Rq.mono (s3_seeds_o hc hn n 0 0 z (nMs u) (nRs u) (zbec (cg_now u) (cg_dra u)) _ (Nat.zero_add _) rfl rfl (tWk_self (he.trans (zbec_eq (by omega) (by omega)))) hms) (fun r h9 hq => ?_)
  obtain ⟨x, rfl, M9, R9, D9, q1, q2, q3⟩ := hq
  exact ⟨x, rfl, M9, R9, D9, q1, q2, q3⟩
def zcd : Nat → Nat → Nat → Nat
  | 0, a, _ => a
  | k + 1, a, b => if 0 < b then zcd k b (a % b) else a
theorem zcd_0 (k a : Nat) : zcd k a 0 = a := by
  cases k with
  | zero => rfl
  | succ k => rw [zcd, if_neg (by omega)]
def zab : Nat → Nat × Nat
  | 0 => (0, 1)
  | k + 1 => ((zab k).1 * (k + 1) + (zab k).2, (zab k).2 * (k + 1))
theorem zab_lt : ∀ n, n < 10 → (zab n).1 < 2 ^ 31 ∧ (zab n).2 < 2 ^ 31 := by decide +kernel
theorem zab_cd : ∀ n, n < 10 → 1 ≤ n → 1 ≤ zcd 64 (zab n).1 (zab n).2 ∧ zcd 64 (zab n).1 (zab n).2 < 2 ^ 31 ∧ (zab n).1 / zcd 64 (zab n).1 (zab n).2 = (zlot n).1 ∧ (zab n).2 / zcd 64 (zab n).1 (zab n).2 = (zlot n).2 := by decide +kernel
theorem zc2 {x : Int32} (h : nI 2 ≤ x) : nI 1 < x := by
  rw [Int32.le_iff_toInt_le, nI_toInt (by omega)] at h
  rw [Int32.lt_iff_toInt_lt, nI_toInt (by omega)]
  omega
set_option maxHeartbeats 1000000 in
set_option maxRecDepth 100000 in
theorem s3_common_l {h : List zC} {a0 b0 : Value} : ∀ (k : Nat) (i : Nat) (a : Nat) (b : Nat) (v5 : Value) (hd : i + k = 64) (ha : a < 2 ^ 31) (hb : b < 2 ^ 31) (hq0 : True), Rq mX3_commonDivisor 1 none 7 [a0, b0, .int (nI (a)), .int (nI (b)), .int (nI (i)), v5] [] h (fun r h' => ∃ x, r = some x ∧ (x = nI (zcd k a b) ∧ h' = h)) := by
  intro k
  induction k with
  | zero =>
    intro i a b v5 hd ha hb hq0
    refine r_iload eX3_commonDivisor_7 rfl ?_
    refine n_bipush 64 eX3_commonDivisor_9 rfl ?_
    refine n_icmp_ge eX3_commonDivisor_11 (by omega) (by omega) (fun hc11 => ?_) (fun hc11 => absurd hc11 (by omega))
    refine r_iload_n eX3_commonDivisor_34 rfl rfl ?_
    exact z_iret eX3_commonDivisor_35 rfl rfl ⟨_, rfl, rfl, rfl⟩
  | succ k ih =>
    intro i a b v5 hd ha hb hq0
    refine r_iload eX3_commonDivisor_7 rfl ?_
    refine n_bipush 64 eX3_commonDivisor_9 rfl ?_
    refine n_icmp_ge eX3_commonDivisor_11 (by omega) (by omega) (fun hc11 => absurd hc11 (by omega)) (fun hc11 => ?_)
    refine r_iload_n eX3_commonDivisor_14 rfl rfl ?_
    refine n_if_le eX3_commonDivisor_15 (by omega) (fun hc15 => ?_) (fun hc15 => ?_)
    · refine r_iload_n eX3_commonDivisor_34 rfl rfl ?_
      subst hc15
      rw [zcd_0]
      exact z_iret eX3_commonDivisor_35 rfl rfl ⟨_, rfl, rfl, rfl⟩
    · refine r_iload_n eX3_commonDivisor_18 rfl rfl ?_
      refine r_iload_n eX3_commonDivisor_19 rfl rfl ?_
      refine n_rem eX3_commonDivisor_20 (by omega) (by omega) (by omega) ?_
      refine r_istore eX3_commonDivisor_21 (by decide) ?_
      refine r_iload_n eX3_commonDivisor_23 rfl rfl ?_
      refine r_istore_n eX3_commonDivisor_24 rfl (by decide) ?_
      refine r_iload eX3_commonDivisor_25 rfl ?_
      refine r_istore_n eX3_commonDivisor_27 rfl (by decide) ?_
      refine n_iinc (k := 1) eX3_commonDivisor_28 rfl (by decide) rfl ?_
      refine r_goto eX3_commonDivisor_31 ?_
      have ih9 := ih (i + 1) b (a % b) (.int (nI (a % b))) (by omega) hb (Nat.lt_trans (Nat.mod_lt a hc15) hb) trivial
      rw [show zcd (k + 1) a b = zcd k b (a % b) by rw [zcd, if_pos hc15]]
      exact ih9
set_option maxHeartbeats 1000000 in
set_option maxRecDepth 100000 in
theorem s3_common {h : List zC} {a b : Nat} (ha : a < 2 ^ 31) (hb : b < 2 ^ 31) : Mi mX3_commonDivisor 1 [.int (nI (a)), .int (nI (b))] h (fun r h' => r = nI (zcd 64 a b) ∧ h' = h) := by
  refine Mi.of (by decide) rfl (Nat.le_of_ble_eq_true rfl) ?_
  refine r_iload_n eX3_commonDivisor_0 rfl rfl ?_
  refine r_istore_n eX3_commonDivisor_1 rfl (by decide) ?_
  refine r_iload_n eX3_commonDivisor_2 rfl rfl ?_
  refine r_istore_n eX3_commonDivisor_3 rfl (by decide) ?_
  refine n_iconst 0 eX3_commonDivisor_4 rfl ?_
  refine r_istore eX3_commonDivisor_5 (by decide) ?_
  exact s3_common_l 64 0 a b _ (Nat.zero_add _) ha hb trivial
set_option maxHeartbeats 1000000 in
set_option maxRecDepth 100000 in
theorem s3_mean_l {h : List zC} {n pa : Nat} (hn1 : 1 ≤ n) (hn : n ≤ 9) (hpa : pa < 2) : ∀ (k : Nat) (j : Nat) (hd : j + k = n), Rq mX3_meanRings 2 none 7 [.int (nI (n)), .int (nI (pa)), .int (nI ((zab j).1)), .int (nI ((zab j).2)), .int (nI (j + 1))] [] h (fun r h' => ∃ x, r = some x ∧ (x = nI (if pa = 0 then (zlot n).1 else (zlot n).2) ∧ h' = h)) := by
  intro k
  induction k with
  | zero =>
    intro j hd
    have e9 : j = n := by omega
    subst e9
    obtain ⟨l1, l2⟩ := zab_lt j (by omega)
    obtain ⟨m1, m2, m3, m4⟩ := zab_cd j (by omega) hn1
    refine r_iload eX3_meanRings_7 rfl ?_
    refine r_iload_n eX3_meanRings_9 rfl rfl ?_
    refine n_icmp_gt eX3_meanRings_10 (by omega) (by omega) (fun hc10 => ?_) (fun hc10 => absurd hc10 (by omega))
    refine r_iload_n eX3_meanRings_31 rfl rfl ?_
    refine r_iload_n eX3_meanRings_32 rfl rfl ?_
    refine r_callSi2 eX3_meanRings_33 lX3_223 (s3_common l1 l2) (by omega) (Nat.le_of_ble_eq_true rfl) (fun r1 h1 hq => ?_)
    obtain ⟨rfl, rfl⟩ := hq
    refine r_istore eX3_meanRings_36 (by decide) ?_
    refine r_iload eX3_meanRings_38 rfl ?_
    refine n_iconst 1 eX3_meanRings_40 rfl ?_
    refine n_icmp_ge eX3_meanRings_41 (by omega) (by omega) (fun hc41 => ?_) (fun hc41 => absurd hc41 (by omega))
    refine r_iload_n eX3_meanRings_47 rfl rfl ?_
    refine n_if_ne eX3_meanRings_48 (by omega) (fun hc48 => ?_) (fun hc48 => ?_)
    · refine r_iload_n eX3_meanRings_58 rfl rfl ?_
      refine r_iload eX3_meanRings_59 rfl ?_
      refine n_div eX3_meanRings_61 (by omega) (by omega) (by omega) ?_
      have q9 : ((zab j).2) / (zcd 64 (zab j).1 (zab j).2) = (if pa = 0 then (zlot j).1 else (zlot j).2) := by rw [if_neg (by omega)]; exact (zab_cd j (by omega) hn1).2.2.2
      rw [q9]
      exact z_iret eX3_meanRings_62 rfl rfl ⟨_, rfl, rfl, rfl⟩
    · refine r_iload_n eX3_meanRings_51 rfl rfl ?_
      refine r_iload eX3_meanRings_52 rfl ?_
      refine n_div eX3_meanRings_54 (by omega) (by omega) (by omega) ?_
      refine r_goto eX3_meanRings_55 ?_
      have q9 : ((zab j).1) / (zcd 64 (zab j).1 (zab j).2) = (if pa = 0 then (zlot j).1 else (zlot j).2) := by rw [if_pos (by omega)]; exact (zab_cd j (by omega) hn1).2.2.1
      rw [q9]
      exact z_iret eX3_meanRings_62 rfl rfl ⟨_, rfl, rfl, rfl⟩
  | succ k ih =>
    intro j hd
    refine r_iload eX3_meanRings_7 rfl ?_
    refine r_iload_n eX3_meanRings_9 rfl rfl ?_
    refine n_icmp_gt eX3_meanRings_10 (by omega) (by omega) (fun hc10 => absurd hc10 (by omega)) (fun hc10 => ?_)
    refine r_iload_n eX3_meanRings_13 rfl rfl ?_
    refine r_iload eX3_meanRings_14 rfl ?_
    refine n_mul eX3_meanRings_16 ?_
    refine r_iload_n eX3_meanRings_17 rfl rfl ?_
    refine n_add eX3_meanRings_18 ?_
    refine r_istore_n eX3_meanRings_19 rfl (by decide) ?_
    refine r_iload_n eX3_meanRings_20 rfl rfl ?_
    refine r_iload eX3_meanRings_21 rfl ?_
    refine n_mul eX3_meanRings_23 ?_
    refine r_istore_n eX3_meanRings_24 rfl (by decide) ?_
    refine n_iinc (k := 1) eX3_meanRings_25 rfl (by decide) rfl ?_
    refine r_goto eX3_meanRings_28 ?_
    exact ih (j + 1) (by omega)
set_option maxHeartbeats 1000000 in
set_option maxRecDepth 100000 in
theorem s3_meanRings {h : List zC} {n pa : Nat} (hn1 : 1 ≤ n) (hn : n ≤ 9) (hpa : pa < 2) : Mi mX3_meanRings 2 [.int (nI (n)), .int (nI (pa))] h (fun r h' => r = nI (if pa = 0 then (zlot n).1 else (zlot n).2) ∧ h' = h) := by
  refine Mi.of (by decide) rfl (Nat.le_of_ble_eq_true rfl) ?_
  refine n_iconst 0 eX3_meanRings_0 rfl ?_
  refine r_istore_n eX3_meanRings_1 rfl (by decide) ?_
  refine n_iconst 1 eX3_meanRings_2 rfl ?_
  refine r_istore_n eX3_meanRings_3 rfl (by decide) ?_
  refine n_iconst 1 eX3_meanRings_4 rfl ?_
  refine r_istore eX3_meanRings_5 (by decide) ?_
  exact s3_mean_l hn1 hn hpa n 0 (Nat.zero_add _)
set_option maxHeartbeats 1000000 in
set_option maxRecDepth 100000 in
theorem s3_lot_b {t : zMod} {u : zCls} {n x y : Int32} (hn : n < nI 1) : Mi mX3_lot 3 [.ref 11, .int (n), .int (x), .int (y)] (hA t u) (fun r h' => r = (-4) ∧ h' = hA t (cg_let u, cg_lc u, cg_rt u, cg_rl u, cg_ra u, cg_rf u, cg_rn u, cg_rc u, cg_now u, cg_dra u, cg_kep u, cg_im u, cg_mp u, cg_mw u, cg_mu u, cg_mn u, cg_mi u, cg_mc u, cg_md u, cg_mo u, cg_ms u, cg_mq u, cg_se u, cg_sc u, (va_up (cg_re u) 4 (cg_re u 4 + 1)))) := by
  refine Mi.of (by decide) rfl (Nat.le_of_ble_eq_true rfl) ?_
  refine r_iload_n eX3_lot_0 rfl rfl ?_
  refine n_iconst 1 eX3_lot_1 rfl ?_
  refine r_icmp_ge eX3_lot_2 (fun hc2 => absurd hc2 (Int32.not_le.mpr hn)) (fun hc2 => ?_)
  refine r_aload_n eX3_lot_5 rfl rfl ?_
  refine r_bipush (v := (-4)) eX3_lot_6 rfl ?_
  refine r_callVi1 eX3_lot_8 lX3_46 (Or.inl ⟨_, _, _, rfl, rfl, rfl⟩) (s3_refuse (t := t) (u := u) (x := (-4)) (c := 4) (by decide) (by decide)) (by omega) (Nat.le_of_ble_eq_true rfl) (fun r1 h1 hq => ?_)
  obtain ⟨rfl, rfl⟩ := (show r1 = (-4) ∧ h1 = hA t (cg_let u, cg_lc u, cg_rt u, cg_rl u, cg_ra u, cg_rf u, cg_rn u, cg_rc u, cg_now u, cg_dra u, cg_kep u, cg_im u, cg_mp u, cg_mw u, cg_mu u, cg_mn u, cg_mi u, cg_mc u, cg_md u, cg_mo u, cg_ms u, cg_mq u, cg_se u, cg_sc u, (va_up (cg_re u) 4 ((cg_re u) 4 + 1))) from hq)
  exact z_iret eX3_lot_11 rfl rfl ⟨_, rfl, rfl, rfl⟩
set_option maxHeartbeats 1000000 in
set_option maxRecDepth 100000 in
theorem s3_lot_r {t : zMod} {u : zCls} {n x y : Int32} (hn0 : nI 1 ≤ n) (hn : nI 9 < n) : Mi mX3_lot 3 [.ref 11, .int (n), .int (x), .int (y)] (hA t u) (fun r h' => r = (-6) ∧ h' = hA t (cg_let u, cg_lc u, cg_rt u, cg_rl u, cg_ra u, cg_rf u, cg_rn u, cg_rc u, cg_now u, cg_dra u, cg_kep u, cg_im u, cg_mp u, cg_mw u, cg_mu u, cg_mn u, cg_mi u, cg_mc u, cg_md u, cg_mo u, cg_ms u, cg_mq u, cg_se u, cg_sc u, (va_up (cg_re u) 6 (cg_re u 6 + 1)))) := by
  refine Mi.of (by decide) rfl (Nat.le_of_ble_eq_true rfl) ?_
  refine r_iload_n eX3_lot_0 rfl rfl ?_
  refine n_iconst 1 eX3_lot_1 rfl ?_
  refine r_icmp_ge eX3_lot_2 (fun hc2 => ?_) (fun hc2 => absurd hc2 (fun z => z hn0))
  refine r_iload_n eX3_lot_12 rfl rfl ?_
  refine n_bipush 9 eX3_lot_13 rfl ?_
  refine r_icmp_le eX3_lot_15 (fun hc15 => absurd hc15 (Int32.not_le.mpr hn)) (fun hc15 => ?_)
  refine r_aload_n eX3_lot_18 rfl rfl ?_
  refine r_bipush (v := (-6)) eX3_lot_19 rfl ?_
  refine r_callVi1 eX3_lot_21 lX3_46 (Or.inl ⟨_, _, _, rfl, rfl, rfl⟩) (s3_refuse (t := t) (u := u) (x := (-6)) (c := 6) (by decide) (by decide)) (by omega) (Nat.le_of_ble_eq_true rfl) (fun r1 h1 hq => ?_)
  obtain ⟨rfl, rfl⟩ := (show r1 = (-6) ∧ h1 = hA t (cg_let u, cg_lc u, cg_rt u, cg_rl u, cg_ra u, cg_rf u, cg_rn u, cg_rc u, cg_now u, cg_dra u, cg_kep u, cg_im u, cg_mp u, cg_mw u, cg_mu u, cg_mn u, cg_mi u, cg_mc u, cg_md u, cg_mo u, cg_ms u, cg_mq u, cg_se u, cg_sc u, (va_up (cg_re u) 6 ((cg_re u) 6 + 1))) from hq)
  exact z_iret eX3_lot_24 rfl rfl ⟨_, rfl, rfl, rfl⟩
set_option maxHeartbeats 1000000 in
set_option maxRecDepth 100000 in
theorem s3_lot_o1 {t : zMod} {u : zCls} {n : Nat} (hn1 : 1 ≤ n) (hn : n ≤ 9) {x y : Int32} (hx : x < 0 ∨ nI 2 ≤ x) : Mi mX3_lot 3 [.ref 11, .int (nI (n)), .int (x), .int (y)] (hA t u) (fun r h' => r = (-2) ∧ h' = hA t (cg_let u, cg_lc u, cg_rt u, cg_rl u, cg_ra u, cg_rf u, cg_rn u, cg_rc u, cg_now u, cg_dra u, cg_kep u, cg_im u, cg_mp u, cg_mw u, cg_mu u, cg_mn u, cg_mi u, cg_mc u, cg_md u, cg_mo u, cg_ms u, cg_mq u, cg_se u, cg_sc u, (va_up (cg_re u) 2 (cg_re u 2 + 1)))) := by
  refine Mi.of (by decide) rfl (Nat.le_of_ble_eq_true rfl) ?_
  refine r_iload_n eX3_lot_0 rfl rfl ?_
  refine n_iconst 1 eX3_lot_1 rfl ?_
  refine n_icmp_ge eX3_lot_2 (by omega) (by omega) (fun hc2 => ?_) (fun hc2 => absurd hc2 (by omega))
  refine r_iload_n eX3_lot_12 rfl rfl ?_
  refine n_bipush 9 eX3_lot_13 rfl ?_
  refine n_icmp_le eX3_lot_15 (by omega) (by omega) (fun hc15 => ?_) (fun hc15 => absurd hc15 (by omega))
  refine r_iload_n eX3_lot_25 rfl rfl ?_
  refine r_if_lt eX3_lot_26 (fun hc26 => ?_) (fun hc26 => ?_)
  · refine r_aload_n eX3_lot_43 rfl rfl ?_
    refine r_bipush (v := (-2)) eX3_lot_44 rfl ?_
    refine r_callVi1 eX3_lot_46 lX3_46 (Or.inl ⟨_, _, _, rfl, rfl, rfl⟩) (s3_refuse (t := t) (u := u) (x := (-2)) (c := 2) (by decide) (by decide)) (by omega) (Nat.le_of_ble_eq_true rfl) (fun r1 h1 hq => ?_)
    obtain ⟨rfl, rfl⟩ := (show r1 = (-2) ∧ h1 = hA t (cg_let u, cg_lc u, cg_rt u, cg_rl u, cg_ra u, cg_rf u, cg_rn u, cg_rc u, cg_now u, cg_dra u, cg_kep u, cg_im u, cg_mp u, cg_mw u, cg_mu u, cg_mn u, cg_mi u, cg_mc u, cg_md u, cg_mo u, cg_ms u, cg_mq u, cg_se u, cg_sc u, (va_up (cg_re u) 2 ((cg_re u) 2 + 1))) from hq)
    exact z_iret eX3_lot_49 rfl rfl ⟨_, rfl, rfl, rfl⟩
  · refine r_iload_n eX3_lot_29 rfl rfl ?_
    refine n_iconst 1 eX3_lot_30 rfl ?_
    refine r_icmp_gt eX3_lot_31 (fun hc31 => ?_) (fun hc31 => absurd hc31 (fun z => z (zc2 (hx.resolve_left hc26))))
    refine r_aload_n eX3_lot_43 rfl rfl ?_
    refine r_bipush (v := (-2)) eX3_lot_44 rfl ?_
    refine r_callVi1 eX3_lot_46 lX3_46 (Or.inl ⟨_, _, _, rfl, rfl, rfl⟩) (s3_refuse (t := t) (u := u) (x := (-2)) (c := 2) (by decide) (by decide)) (by omega) (Nat.le_of_ble_eq_true rfl) (fun r1 h1 hq => ?_)
    obtain ⟨rfl, rfl⟩ := (show r1 = (-2) ∧ h1 = hA t (cg_let u, cg_lc u, cg_rt u, cg_rl u, cg_ra u, cg_rf u, cg_rn u, cg_rc u, cg_now u, cg_dra u, cg_kep u, cg_im u, cg_mp u, cg_mw u, cg_mu u, cg_mn u, cg_mi u, cg_mc u, cg_md u, cg_mo u, cg_ms u, cg_mq u, cg_se u, cg_sc u, (va_up (cg_re u) 2 ((cg_re u) 2 + 1))) from hq)
    exact z_iret eX3_lot_49 rfl rfl ⟨_, rfl, rfl, rfl⟩
set_option maxHeartbeats 1000000 in
set_option maxRecDepth 100000 in
theorem s3_lot_o2 {t : zMod} {u : zCls} {n : Nat} (hn1 : 1 ≤ n) (hn : n ≤ 9) {x : Nat} {y : Int32} (hx : x < 2) (hy : y < 0 ∨ nI 2 ≤ y) : Mi mX3_lot 3 [.ref 11, .int (nI (n)), .int (nI (x)), .int (y)] (hA t u) (fun r h' => r = (-2) ∧ h' = hA t (cg_let u, cg_lc u, cg_rt u, cg_rl u, cg_ra u, cg_rf u, cg_rn u, cg_rc u, cg_now u, cg_dra u, cg_kep u, cg_im u, cg_mp u, cg_mw u, cg_mu u, cg_mn u, cg_mi u, cg_mc u, cg_md u, cg_mo u, cg_ms u, cg_mq u, cg_se u, cg_sc u, (va_up (cg_re u) 2 (cg_re u 2 + 1)))) := by
  refine Mi.of (by decide) rfl (Nat.le_of_ble_eq_true rfl) ?_
  refine r_iload_n eX3_lot_0 rfl rfl ?_
  refine n_iconst 1 eX3_lot_1 rfl ?_
  refine n_icmp_ge eX3_lot_2 (by omega) (by omega) (fun hc2 => ?_) (fun hc2 => absurd hc2 (by omega))
  refine r_iload_n eX3_lot_12 rfl rfl ?_
  refine n_bipush 9 eX3_lot_13 rfl ?_
  refine n_icmp_le eX3_lot_15 (by omega) (by omega) (fun hc15 => ?_) (fun hc15 => absurd hc15 (by omega))
  refine r_iload_n eX3_lot_25 rfl rfl ?_
  refine n_if_lt eX3_lot_26 (by omega) ?_
  refine r_iload_n eX3_lot_29 rfl rfl ?_
  refine n_iconst 1 eX3_lot_30 rfl ?_
  refine n_icmp_gt eX3_lot_31 (by omega) (by omega) (fun hc31 => absurd hc31 (by omega)) (fun hc31 => ?_)
  refine r_iload_n eX3_lot_34 rfl rfl ?_
  refine r_if_lt eX3_lot_35 (fun hc35 => ?_) (fun hc35 => ?_)
  · refine r_aload_n eX3_lot_43 rfl rfl ?_
    refine r_bipush (v := (-2)) eX3_lot_44 rfl ?_
    refine r_callVi1 eX3_lot_46 lX3_46 (Or.inl ⟨_, _, _, rfl, rfl, rfl⟩) (s3_refuse (t := t) (u := u) (x := (-2)) (c := 2) (by decide) (by decide)) (by omega) (Nat.le_of_ble_eq_true rfl) (fun r1 h1 hq => ?_)
    obtain ⟨rfl, rfl⟩ := (show r1 = (-2) ∧ h1 = hA t (cg_let u, cg_lc u, cg_rt u, cg_rl u, cg_ra u, cg_rf u, cg_rn u, cg_rc u, cg_now u, cg_dra u, cg_kep u, cg_im u, cg_mp u, cg_mw u, cg_mu u, cg_mn u, cg_mi u, cg_mc u, cg_md u, cg_mo u, cg_ms u, cg_mq u, cg_se u, cg_sc u, (va_up (cg_re u) 2 ((cg_re u) 2 + 1))) from hq)
    exact z_iret eX3_lot_49 rfl rfl ⟨_, rfl, rfl, rfl⟩
  · refine r_iload_n eX3_lot_38 rfl rfl ?_
    refine n_iconst 1 eX3_lot_39 rfl ?_
    refine r_icmp_le eX3_lot_40 (fun hc40 => absurd hc40 (Int32.not_le.mpr (zc2 (hy.resolve_left hc35)))) (fun hc40 => ?_)
    refine r_aload_n eX3_lot_43 rfl rfl ?_
    refine r_bipush (v := (-2)) eX3_lot_44 rfl ?_
    refine r_callVi1 eX3_lot_46 lX3_46 (Or.inl ⟨_, _, _, rfl, rfl, rfl⟩) (s3_refuse (t := t) (u := u) (x := (-2)) (c := 2) (by decide) (by decide)) (by omega) (Nat.le_of_ble_eq_true rfl) (fun r1 h1 hq => ?_)
    obtain ⟨rfl, rfl⟩ := (show r1 = (-2) ∧ h1 = hA t (cg_let u, cg_lc u, cg_rt u, cg_rl u, cg_ra u, cg_rf u, cg_rn u, cg_rc u, cg_now u, cg_dra u, cg_kep u, cg_im u, cg_mp u, cg_mw u, cg_mu u, cg_mn u, cg_mi u, cg_mc u, cg_md u, cg_mo u, cg_ms u, cg_mq u, cg_se u, cg_sc u, (va_up (cg_re u) 2 ((cg_re u) 2 + 1))) from hq)
    exact z_iret eX3_lot_49 rfl rfl ⟨_, rfl, rfl, rfl⟩
set_option maxHeartbeats 1000000 in
set_option maxRecDepth 100000 in
theorem s3_lot_00 {t : zMod} {u : zCls} {n : Nat} (hn1 : 1 ≤ n) (hn : n ≤ 9) : Mi mX3_lot 3 [.ref 11, .int (nI (n)), .int (nI (0)), .int (nI (0))] (hA t u) (fun r h' => r = nI 1 ∧ h' = hA t u) := by
  refine Mi.of (by decide) rfl (Nat.le_of_ble_eq_true rfl) ?_
  refine r_iload_n eX3_lot_0 rfl rfl ?_
  refine n_iconst 1 eX3_lot_1 rfl ?_
  refine n_icmp_ge eX3_lot_2 (by omega) (by omega) (fun hc2 => ?_) (fun hc2 => absurd hc2 (by omega))
  refine r_iload_n eX3_lot_12 rfl rfl ?_
  refine n_bipush 9 eX3_lot_13 rfl ?_
  refine n_icmp_le eX3_lot_15 (by omega) (by omega) (fun hc15 => ?_) (fun hc15 => absurd hc15 (by omega))
  refine r_iload_n eX3_lot_25 rfl rfl ?_
  refine n_if_lt eX3_lot_26 (by omega) ?_
  refine r_iload_n eX3_lot_29 rfl rfl ?_
  refine n_iconst 1 eX3_lot_30 rfl ?_
  refine n_icmp_gt eX3_lot_31 (by omega) (by omega) (fun hc31 => absurd hc31 (by decide)) (fun hc31 => ?_)
  refine r_iload_n eX3_lot_34 rfl rfl ?_
  refine n_if_lt eX3_lot_35 (by omega) ?_
  refine r_iload_n eX3_lot_38 rfl rfl ?_
  refine n_iconst 1 eX3_lot_39 rfl ?_
  refine n_icmp_le eX3_lot_40 (by omega) (by omega) (fun hc40 => ?_) (fun hc40 => absurd hc40 (by decide))
  refine r_iload_n eX3_lot_50 rfl rfl ?_
  refine n_if_ne eX3_lot_51 (by omega) (fun hc51 => absurd hc51 (by decide)) (fun hc51 => ?_)
  refine r_iload_n eX3_lot_54 rfl rfl ?_
  refine n_if_ne eX3_lot_55 (by omega) (fun hc55 => absurd hc55 (by decide)) (fun hc55 => ?_)
  refine n_iconst 1 eX3_lot_58 rfl ?_
  refine r_goto eX3_lot_59 ?_
  exact z_iret eX3_lot_63 rfl rfl ⟨_, rfl, rfl, rfl⟩
set_option maxHeartbeats 1000000 in
set_option maxRecDepth 100000 in
theorem s3_lot_01 {t : zMod} {u : zCls} {n : Nat} (hn1 : 1 ≤ n) (hn : n ≤ 9) : Mi mX3_lot 3 [.ref 11, .int (nI (n)), .int (nI (0)), .int (nI (1))] (hA t u) (fun r h' => r = nI n ∧ h' = hA t u) := by
  refine Mi.of (by decide) rfl (Nat.le_of_ble_eq_true rfl) ?_
  refine r_iload_n eX3_lot_0 rfl rfl ?_
  refine n_iconst 1 eX3_lot_1 rfl ?_
  refine n_icmp_ge eX3_lot_2 (by omega) (by omega) (fun hc2 => ?_) (fun hc2 => absurd hc2 (by omega))
  refine r_iload_n eX3_lot_12 rfl rfl ?_
  refine n_bipush 9 eX3_lot_13 rfl ?_
  refine n_icmp_le eX3_lot_15 (by omega) (by omega) (fun hc15 => ?_) (fun hc15 => absurd hc15 (by omega))
  refine r_iload_n eX3_lot_25 rfl rfl ?_
  refine n_if_lt eX3_lot_26 (by omega) ?_
  refine r_iload_n eX3_lot_29 rfl rfl ?_
  refine n_iconst 1 eX3_lot_30 rfl ?_
  refine n_icmp_gt eX3_lot_31 (by omega) (by omega) (fun hc31 => absurd hc31 (by decide)) (fun hc31 => ?_)
  refine r_iload_n eX3_lot_34 rfl rfl ?_
  refine n_if_lt eX3_lot_35 (by omega) ?_
  refine r_iload_n eX3_lot_38 rfl rfl ?_
  refine n_iconst 1 eX3_lot_39 rfl ?_
  refine n_icmp_le eX3_lot_40 (by omega) (by omega) (fun hc40 => ?_) (fun hc40 => absurd hc40 (by decide))
  refine r_iload_n eX3_lot_50 rfl rfl ?_
  refine n_if_ne eX3_lot_51 (by omega) (fun hc51 => absurd hc51 (by decide)) (fun hc51 => ?_)
  refine r_iload_n eX3_lot_54 rfl rfl ?_
  refine n_if_ne eX3_lot_55 (by omega) (fun hc55 => ?_) (fun hc55 => absurd hc55 (by decide))
  refine r_iload_n eX3_lot_62 rfl rfl ?_
  exact z_iret eX3_lot_63 rfl rfl ⟨_, rfl, rfl, rfl⟩
set_option maxHeartbeats 1000000 in
set_option maxRecDepth 100000 in
theorem s3_lot_1 {t : zMod} {u : zCls} {n : Nat} (hn1 : 1 ≤ n) (hn : n ≤ 9) {pa : Nat} (hpa : pa < 2) : Mi mX3_lot 3 [.ref 11, .int (nI (n)), .int (nI (1)), .int (nI (pa))] (hA t u) (fun r h' => r = nI (if pa = 0 then (zlot n).1 else (zlot n).2) ∧ h' = hA t u) := by
  refine Mi.of (by decide) rfl (Nat.le_of_ble_eq_true rfl) ?_
  refine r_iload_n eX3_lot_0 rfl rfl ?_
  refine n_iconst 1 eX3_lot_1 rfl ?_
  refine n_icmp_ge eX3_lot_2 (by omega) (by omega) (fun hc2 => ?_) (fun hc2 => absurd hc2 (by omega))
  refine r_iload_n eX3_lot_12 rfl rfl ?_
  refine n_bipush 9 eX3_lot_13 rfl ?_
  refine n_icmp_le eX3_lot_15 (by omega) (by omega) (fun hc15 => ?_) (fun hc15 => absurd hc15 (by omega))
  refine r_iload_n eX3_lot_25 rfl rfl ?_
  refine n_if_lt eX3_lot_26 (by omega) ?_
  refine r_iload_n eX3_lot_29 rfl rfl ?_
  refine n_iconst 1 eX3_lot_30 rfl ?_
  refine n_icmp_gt eX3_lot_31 (by omega) (by omega) (fun hc31 => absurd hc31 (by decide)) (fun hc31 => ?_)
  refine r_iload_n eX3_lot_34 rfl rfl ?_
  refine n_if_lt eX3_lot_35 (by omega) ?_
  refine r_iload_n eX3_lot_38 rfl rfl ?_
  refine n_iconst 1 eX3_lot_39 rfl ?_
  refine n_icmp_le eX3_lot_40 (by omega) (by omega) (fun hc40 => ?_) (fun hc40 => absurd hc40 (by omega))
  refine r_iload_n eX3_lot_50 rfl rfl ?_
  refine n_if_ne eX3_lot_51 (by omega) (fun hc51 => ?_) (fun hc51 => absurd hc51 (by decide))
  refine r_iload_n eX3_lot_64 rfl rfl ?_
  refine r_iload_n eX3_lot_65 rfl rfl ?_
  refine r_callSi2 eX3_lot_66 lX3_198 (s3_meanRings hn1 hn hpa) (by omega) (Nat.le_of_ble_eq_true rfl) (fun r1 h1 hq => ?_)
  obtain ⟨rfl, rfl⟩ := hq
  exact z_iret eX3_lot_69 rfl rfl ⟨_, rfl, rfl, rfl⟩
