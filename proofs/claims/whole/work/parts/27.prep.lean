/-! THE CLASS: a morning prepared -/
/-- the morning of u is prepared for the town T -/
def cPr (u : zCls) (T : zTown) : Prop := cg_mp u = tg_people T ∧ ∀ p, p < tg_people T → (∀ h, h < tg_people T → cg_mw u p h = tWay T p h) ∧ cg_mu u p = tUp T p ∧ cg_mn u p = tNd T p ∧ cg_mi u p = tWin T 0 2147483647 p ∧ cg_mc u p = tPc T p ∧ cg_md u p < 128 ∧ ∀ d, d < tg_people T → (cg_md u p).testBit d = tHd T p d
set_option maxHeartbeats 1000000 in
set_option maxRecDepth 100000 in
theorem s0_prep_i_now {t : zMod} {u : zCls} (ho : tOk (cg_now u)) {p : Nat} {U N I C D : Nat → Nat} (hp : p < tg_people (cg_now u)) {Q : Option Int32 → List zC → Prop} (kk9 : ∀ W : Nat → Nat → Nat, (∀ a, a < p + 1 → ∀ h, h < tg_people (cg_now u) → W a h = tWay (cg_now u) a h) → Rq mX0_prepare 3 none 48 [.ref 40, .ref 16, .int (nI p), .int (nI (tg_people (cg_now u)))] [] (hA t (cg_let u, cg_lc u, cg_rt u, cg_rl u, cg_ra u, cg_rf u, cg_rn u, cg_rc u, cg_now u, cg_dra u, cg_kep u, cg_im u, (tg_people (cg_now u)), W, U, N, I, C, D, cg_mo u, cg_ms u, cg_mq u, cg_se u, cg_sc u, cg_re u)) Q) : ∀ (k : Nat) (hh : Nat) (W : Nat → Nat → Nat) (hd : hh + k = tg_people (cg_now u)) (h1 : ∀ a, a < p → ∀ h, h < tg_people (cg_now u) → W a h = tWay (cg_now u) a h) (h2 : ∀ h, h < hh → W p h = tWay (cg_now u) p h), Rq mX0_prepare 3 none 20 [.ref 40, .ref 16, .int (nI (p)), .int (nI (hh))] [] (hA t (cg_let u, cg_lc u, cg_rt u, cg_rl u, cg_ra u, cg_rf u, cg_rn u, cg_rc u, cg_now u, cg_dra u, cg_kep u, cg_im u, (tg_people (cg_now u)), W, U, N, I, C, D, cg_mo u, cg_ms u, cg_mq u, cg_se u, cg_sc u, cg_re u)) Q  := by
  intro k
  induction k with
  | zero =>
    intro hh W hd h1 h2
    have e9 : hh = tg_people (cg_now u) := by omega
    subst e9
    obtain ⟨hp7, hk12, hpc, hwt, hrg, hpp⟩ := id ho
    refine r_iload_n eX0_prepare_20 rfl rfl ?_
    refine r_aload_n eX0_prepare_21 rfl rfl ?_
    refine r_getf (v := .int (nI ((tg_people (cg_now u))))) eX0_prepare_22 fX0_47 rfl rfl ?_
    refine n_icmp_ge eX0_prepare_25 (by omega) (by omega) (fun hc25 => ?_) (fun hc25 => absurd hc25 (by omega))
    refine kk9 W (fun a ha h9 hh9 => ?_)
    by_cases e : a = p
    · rw [e]; exact h2 h9 hh9
    · exact h1 a (by omega) h9 hh9
  | succ k ih =>
    intro hh W hd h1 h2
    obtain ⟨hp7, hk12, hpc, hwt, hrg, hpp⟩ := id ho
    refine r_iload_n eX0_prepare_20 rfl rfl ?_
    refine r_aload_n eX0_prepare_21 rfl rfl ?_
    refine r_getf (v := .int (nI ((tg_people (cg_now u))))) eX0_prepare_22 fX0_47 rfl rfl ?_
    refine n_icmp_ge eX0_prepare_25 (by omega) (by omega) (fun hc25 => absurd hc25 (by omega)) (fun hc25 => ?_)
    refine r_aload_n eX0_prepare_28 rfl rfl ?_
    refine r_getf (v := .ref 41) eX0_prepare_29 fX0_11 rfl rfl ?_
    refine r_iload_n eX0_prepare_32 rfl rfl ?_
    refine r_aald (j := p) (b := 42 + p) (f := fun i => some (42 + i)) eX0_prepare_33 rfl rfl (by omega) (by decide) rfl ?_
    refine r_iload_n eX0_prepare_34 rfl rfl ?_
    refine r_aload_n eX0_prepare_35 rfl rfl ?_
    refine r_iload_n eX0_prepare_36 rfl rfl ?_
    refine r_iload_n eX0_prepare_37 rfl rfl ?_
    refine r_callVi2 eX0_prepare_38 lX0_48 (Or.inl ⟨_, _, _, rfl, rfl, rfl⟩) (s2_wayBetween_now (t := t) (u := (cg_let u, cg_lc u, cg_rt u, cg_rl u, cg_ra u, cg_rf u, cg_rn u, cg_rc u, cg_now u, cg_dra u, cg_kep u, cg_im u, (tg_people (cg_now u)), W, U, N, I, C, D, cg_mo u, cg_ms u, cg_mq u, cg_se u, cg_sc u, cg_re u)) ho (a := p) (b := hh) hp (show hh < tg_people (cg_now u) by omega)) (by omega) (Nat.le_of_ble_eq_true rfl) (fun r1 h1 hq => ?_)
    obtain ⟨rfl, rfl⟩ := (show r1 = nI (tWay (cg_now u) p hh) ∧ h1 = hA t (cg_let u, cg_lc u, cg_rt u, cg_rl u, cg_ra u, cg_rf u, cg_rn u, cg_rc u, cg_now u, cg_dra u, cg_kep u, cg_im u, (tg_people (cg_now u)), W, U, N, I, C, D, cg_mo u, cg_ms u, cg_mq u, cg_se u, cg_sc u, cg_re u) from hq)
    refine cw_mw (p := p) (j := hh) (v := tWay (cg_now u) p hh) (by omega) eX0_prepare_41 rfl rfl (by omega) ?_
    refine n_iinc (k := 1) eX0_prepare_42 rfl (by decide) rfl ?_
    refine r_goto eX0_prepare_45 ?_
    refine ih (hh + 1) _ (by omega) (fun a ha h9 hh9 => ?_) (fun h9 hh9 => ?_)
    · show (if a = p then va_up (W p) hh (tWay (cg_now u) p hh) else W a) h9 = _
      rw [if_neg (by omega)]
      exact h1 a ha h9 hh9
    · show (if p = p then va_up (W p) hh (tWay (cg_now u) p hh) else W p) h9 = _
      rw [if_pos rfl]
      by_cases e : h9 = hh
      · rw [e, zu_s]
      · rw [zu_n e]; exact h2 h9 (by omega)
set_option maxHeartbeats 1000000 in
set_option maxRecDepth 100000 in
theorem s0_prep_p_now {t : zMod} {u : zCls} (ho : tOk (cg_now u)) {Q : Option Int32 → List zC → Prop} (kk9 : ∀ (W : Nat → Nat → Nat) (U N I C D : Nat → Nat) (v2 v3 : Value), (∀ a, a < tg_people (cg_now u) → (∀ h, h < tg_people (cg_now u) → W a h = tWay (cg_now u) a h) ∧ U a = tUp (cg_now u) a ∧ N a = tNd (cg_now u) a ∧ I a = tWin (cg_now u) 0 2147483647 a ∧ C a = tPc (cg_now u) a ∧ D a = 0) → Rq mX0_prepare 3 none 105 [.ref 40, .ref 16, v2, v3] [] (hA t (cg_let u, cg_lc u, cg_rt u, cg_rl u, cg_ra u, cg_rf u, cg_rn u, cg_rc u, cg_now u, cg_dra u, cg_kep u, cg_im u, (tg_people (cg_now u)), W, U, N, I, C, D, cg_mo u, cg_ms u, cg_mq u, cg_se u, cg_sc u, cg_re u)) Q) : ∀ (k : Nat) (p : Nat) (W : Nat → Nat → Nat) (U : Nat → Nat) (N : Nat → Nat) (I : Nat → Nat) (C : Nat → Nat) (D : Nat → Nat) (v3 : Value) (hd : p + k = tg_people (cg_now u)) (hI : ∀ a, a < p → (∀ h, h < tg_people (cg_now u) → W a h = tWay (cg_now u) a h) ∧ U a = tUp (cg_now u) a ∧ N a = tNd (cg_now u) a ∧ I a = tWin (cg_now u) 0 2147483647 a ∧ C a = tPc (cg_now u) a ∧ D a = 0), Rq mX0_prepare 3 none 10 [.ref 40, .ref 16, .int (nI (p)), v3] [] (hA t (cg_let u, cg_lc u, cg_rt u, cg_rl u, cg_ra u, cg_rf u, cg_rn u, cg_rc u, cg_now u, cg_dra u, cg_kep u, cg_im u, (tg_people (cg_now u)), W, U, N, I, C, D, cg_mo u, cg_ms u, cg_mq u, cg_se u, cg_sc u, cg_re u)) Q  := by
  intro k
  induction k with
  | zero =>
    intro p W U N I C D v3 hd hI
    have e9 : p = tg_people (cg_now u) := by omega
    subst e9
    obtain ⟨hp7, hk12, hpc, hwt, hrg, hpp⟩ := id ho
    refine r_iload_n eX0_prepare_10 rfl rfl ?_
    refine r_aload_n eX0_prepare_11 rfl rfl ?_
    refine r_getf (v := .int (nI ((tg_people (cg_now u))))) eX0_prepare_12 fX0_47 rfl rfl ?_
    refine n_icmp_ge eX0_prepare_15 (by omega) (by omega) (fun hc15 => ?_) (fun hc15 => absurd hc15 (by omega))
    exact kk9 W U N I C D _ v3 hI
  | succ k ih =>
    intro p W U N I C D v3 hd hI
    obtain ⟨hp7, hk12, hpc, hwt, hrg, hpp⟩ := id ho
    refine r_iload_n eX0_prepare_10 rfl rfl ?_
    refine r_aload_n eX0_prepare_11 rfl rfl ?_
    refine r_getf (v := .int (nI ((tg_people (cg_now u))))) eX0_prepare_12 fX0_47 rfl rfl ?_
    refine n_icmp_ge eX0_prepare_15 (by omega) (by omega) (fun hc15 => absurd hc15 (by omega)) (fun hc15 => ?_)
    refine n_iconst 0 eX0_prepare_18 rfl ?_
    refine r_istore_n eX0_prepare_19 rfl (by decide) ?_
    refine s0_prep_i_now ho (p := p) (by omega) (fun W9 hW9 => ?_) (tg_people (cg_now u)) 0 W (Nat.zero_add _) (fun a ha => (hI a ha).1) (fun h9 hh9 => absurd hh9 (by omega))
    refine r_aload_n eX0_prepare_48 rfl rfl ?_
    refine r_getf (v := .ref 49) eX0_prepare_49 fX0_16 rfl rfl ?_
    refine r_iload_n eX0_prepare_52 rfl rfl ?_
    refine r_aload_n eX0_prepare_53 rfl rfl ?_
    refine r_iload_n eX0_prepare_54 rfl rfl ?_
    refine r_callVi1 eX0_prepare_55 lX0_52 (Or.inl ⟨_, _, _, rfl, rfl, rfl⟩) (s2_upOf_now (t := t) (u := (cg_let u, cg_lc u, cg_rt u, cg_rl u, cg_ra u, cg_rf u, cg_rn u, cg_rc u, cg_now u, cg_dra u, cg_kep u, cg_im u, (tg_people (cg_now u)), W9, U, N, I, C, D, cg_mo u, cg_ms u, cg_mq u, cg_se u, cg_sc u, cg_re u)) ho (p := p) (show p < tg_people (cg_now u) by omega)) (by omega) (Nat.le_of_ble_eq_true rfl) (fun r1 h1 hq => ?_)
    obtain ⟨rfl, rfl⟩ := (show r1 = nI (tUp (cg_now u) p) ∧ h1 = hA t (cg_let u, cg_lc u, cg_rt u, cg_rl u, cg_ra u, cg_rf u, cg_rn u, cg_rc u, cg_now u, cg_dra u, cg_kep u, cg_im u, (tg_people (cg_now u)), W9, U, N, I, C, D, cg_mo u, cg_ms u, cg_mq u, cg_se u, cg_sc u, cg_re u) from hq)
    refine cw_mu (j := p) (v := tUp (cg_now u) p) eX0_prepare_58 rfl rfl (by omega) ?_
    refine r_aload_n eX0_prepare_59 rfl rfl ?_
    refine r_getf (v := .ref 50) eX0_prepare_60 fX0_20 rfl rfl ?_
    refine r_iload_n eX0_prepare_63 rfl rfl ?_
    refine r_aload_n eX0_prepare_64 rfl rfl ?_
    refine r_iload_n eX0_prepare_65 rfl rfl ?_
    refine r_callVi1 eX0_prepare_66 lX0_56 (Or.inl ⟨_, _, _, rfl, rfl, rfl⟩) (s2_needOf_now (t := t) (u := (cg_let u, cg_lc u, cg_rt u, cg_rl u, cg_ra u, cg_rf u, cg_rn u, cg_rc u, cg_now u, cg_dra u, cg_kep u, cg_im u, (tg_people (cg_now u)), W9, (va_up (U) (p) (tUp (cg_now u) p)), N, I, C, D, cg_mo u, cg_ms u, cg_mq u, cg_se u, cg_sc u, cg_re u)) ho (p := p) (show p < tg_people (cg_now u) by omega)) (by omega) (Nat.le_of_ble_eq_true rfl) (fun r1 h1 hq => ?_)
    obtain ⟨rfl, rfl⟩ := (show r1 = nI (tNd (cg_now u) p) ∧ h1 = hA t (cg_let u, cg_lc u, cg_rt u, cg_rl u, cg_ra u, cg_rf u, cg_rn u, cg_rc u, cg_now u, cg_dra u, cg_kep u, cg_im u, (tg_people (cg_now u)), W9, (va_up (U) (p) (tUp (cg_now u) p)), N, I, C, D, cg_mo u, cg_ms u, cg_mq u, cg_se u, cg_sc u, cg_re u) from hq)
    refine cw_mn (j := p) (v := tNd (cg_now u) p) eX0_prepare_69 rfl rfl (by omega) ?_
    refine r_aload_n eX0_prepare_70 rfl rfl ?_
    refine r_getf (v := .ref 51) eX0_prepare_71 fX0_23 rfl rfl ?_
    refine r_iload_n eX0_prepare_74 rfl rfl ?_
    refine r_aload_n eX0_prepare_75 rfl rfl ?_
    refine r_iload_n eX0_prepare_76 rfl rfl ?_
    refine r_callVi1 eX0_prepare_77 lX0_59 (Or.inl ⟨_, _, _, rfl, rfl, rfl⟩) (s2_windowOf_now (t := t) (u := (cg_let u, cg_lc u, cg_rt u, cg_rl u, cg_ra u, cg_rf u, cg_rn u, cg_rc u, cg_now u, cg_dra u, cg_kep u, cg_im u, (tg_people (cg_now u)), W9, (va_up (U) (p) (tUp (cg_now u) p)), (va_up (N) (p) (tNd (cg_now u) p)), I, C, D, cg_mo u, cg_ms u, cg_mq u, cg_se u, cg_sc u, cg_re u)) ho (p := p) (show p < tg_people (cg_now u) by omega)) (by omega) (Nat.le_of_ble_eq_true rfl) (fun r1 h1 hq => ?_)
    obtain ⟨rfl, rfl⟩ := (show r1 = nI (tWin (cg_now u) 0 2147483647 p) ∧ h1 = hA t (cg_let u, cg_lc u, cg_rt u, cg_rl u, cg_ra u, cg_rf u, cg_rn u, cg_rc u, cg_now u, cg_dra u, cg_kep u, cg_im u, (tg_people (cg_now u)), W9, (va_up (U) (p) (tUp (cg_now u) p)), (va_up (N) (p) (tNd (cg_now u) p)), I, C, D, cg_mo u, cg_ms u, cg_mq u, cg_se u, cg_sc u, cg_re u) from hq)
    refine cw_mi (j := p) (v := tWin (cg_now u) 0 2147483647 p) eX0_prepare_80 rfl rfl (by omega) ?_
    refine r_aload_n eX0_prepare_81 rfl rfl ?_
    refine r_getf (v := .ref 52) eX0_prepare_82 fX0_26 rfl rfl ?_
    refine r_iload_n eX0_prepare_85 rfl rfl ?_
    refine r_aload_n eX0_prepare_86 rfl rfl ?_
    refine r_iload_n eX0_prepare_87 rfl rfl ?_
    refine r_callVi1 eX0_prepare_88 lX0_62 (Or.inl ⟨_, _, _, rfl, rfl, rfl⟩) (s2_paceOf_now (t := t) (u := (cg_let u, cg_lc u, cg_rt u, cg_rl u, cg_ra u, cg_rf u, cg_rn u, cg_rc u, cg_now u, cg_dra u, cg_kep u, cg_im u, (tg_people (cg_now u)), W9, (va_up (U) (p) (tUp (cg_now u) p)), (va_up (N) (p) (tNd (cg_now u) p)), (va_up (I) (p) (tWin (cg_now u) 0 2147483647 p)), C, D, cg_mo u, cg_ms u, cg_mq u, cg_se u, cg_sc u, cg_re u)) ho (p := p) (show p < tg_people (cg_now u) by omega)) (by omega) (Nat.le_of_ble_eq_true rfl) (fun r1 h1 hq => ?_)
    obtain ⟨rfl, rfl⟩ := (show r1 = nI (tPc (cg_now u) p) ∧ h1 = hA t (cg_let u, cg_lc u, cg_rt u, cg_rl u, cg_ra u, cg_rf u, cg_rn u, cg_rc u, cg_now u, cg_dra u, cg_kep u, cg_im u, (tg_people (cg_now u)), W9, (va_up (U) (p) (tUp (cg_now u) p)), (va_up (N) (p) (tNd (cg_now u) p)), (va_up (I) (p) (tWin (cg_now u) 0 2147483647 p)), C, D, cg_mo u, cg_ms u, cg_mq u, cg_se u, cg_sc u, cg_re u) from hq)
    refine cw_mc (j := p) (v := tPc (cg_now u) p) eX0_prepare_91 rfl rfl (by omega) ?_
    refine r_aload_n eX0_prepare_92 rfl rfl ?_
    refine r_getf (v := .ref 53) eX0_prepare_93 fX0_29 rfl rfl ?_
    refine r_iload_n eX0_prepare_96 rfl rfl ?_
    refine n_iconst 0 eX0_prepare_97 rfl ?_
    refine cw_md (j := p) (v := 0) eX0_prepare_98 rfl rfl (by omega) ?_
    refine n_iinc (k := 1) eX0_prepare_99 rfl (by decide) rfl ?_
    refine r_goto eX0_prepare_102 ?_
    refine ih (p + 1) _ _ _ _ _ _ _ (by omega) (fun a ha => ?_)
    by_cases e : a = p
    · subst e
      exact ⟨hW9 a (by omega), zu_s, zu_s, zu_s, zu_s, zu_s⟩
    · obtain ⟨i1, i2, i3, i4, i5, i6⟩ := hI a (by omega)
      exact ⟨hW9 a (by omega), (zu_n e).trans i2, (zu_n e).trans i3, (zu_n e).trans i4, (zu_n e).trans i5, (zu_n e).trans i6⟩
set_option maxHeartbeats 1000000 in
set_option maxRecDepth 100000 in
theorem s0_prep_k_now {t : zMod} {u : zCls} (ho : tOk (cg_now u)) (hk10 : tg_keys (cg_now u) ≤ 10) (hty : tKeys (cg_now u)) {W : Nat → Nat → Nat} {U N I C : Nat → Nat} {v3 : Value} {Q : Option Int32 → List zC → Prop} (kk9 : ∀ (D : Nat → Nat) (v2 : Value), (∀ a, a < tg_people (cg_now u) → D a < 128 ∧ ∀ d, d < tg_people (cg_now u) → (D a).testBit d = (!(d == a) && zhold (tg_door (cg_now u)) (tg_held (cg_now u)) (tg_keys (cg_now u)) a d)) → Rq mX0_prepare 3 none 158 [.ref 40, .ref 16, v2, v3] [] (hA t (cg_let u, cg_lc u, cg_rt u, cg_rl u, cg_ra u, cg_rf u, cg_rn u, cg_rc u, cg_now u, cg_dra u, cg_kep u, cg_im u, (tg_people (cg_now u)), W, U, N, I, C, D, cg_mo u, cg_ms u, cg_mq u, cg_se u, cg_sc u, cg_re u)) Q) : ∀ (k : Nat) (kx : Nat) (D : Nat → Nat) (hd : kx + k = tg_keys (cg_now u)) (hD : ∀ a, a < tg_people (cg_now u) → D a < 128 ∧ ∀ d, d < tg_people (cg_now u) → (D a).testBit d = (!(d == a) && zhold (tg_door (cg_now u)) (tg_held (cg_now u)) kx a d)), Rq mX0_prepare 3 none 107 [.ref 40, .ref 16, .int (nI (kx)), v3] [] (hA t (cg_let u, cg_lc u, cg_rt u, cg_rl u, cg_ra u, cg_rf u, cg_rn u, cg_rc u, cg_now u, cg_dra u, cg_kep u, cg_im u, (tg_people (cg_now u)), W, U, N, I, C, D, cg_mo u, cg_ms u, cg_mq u, cg_se u, cg_sc u, cg_re u)) Q  := by
  intro k
  induction k with
  | zero =>
    intro kx D hd hD
    have e9 : kx = tg_keys (cg_now u) := by omega
    subst e9
    obtain ⟨hp7, hk12, hpc, hwt, hrg, hpp⟩ := id ho
    refine r_iload_n eX0_prepare_107 rfl rfl ?_
    refine r_aload_n eX0_prepare_108 rfl rfl ?_
    refine r_getf (v := .int (nI (tg_keys (cg_now u)))) eX0_prepare_109 fX0_65 rfl rfl ?_
    refine n_icmp_ge eX0_prepare_112 (by omega) (by omega) (fun hc112 => ?_) (fun hc112 => absurd hc112 (by omega))
    exact kk9 D _ hD
  | succ k ih =>
    intro kx D hd hD
    obtain ⟨hp7, hk12, hpc, hwt, hrg, hpp⟩ := id ho
    obtain ⟨y1, y2⟩ := hty kx (by omega)
    have hpw := zpow7 (show (tg_door (cg_now u)) kx < 7 by omega)
    have hDk := hD ((tg_held (cg_now u)) kx) y2
    refine r_iload_n eX0_prepare_107 rfl rfl ?_
    refine r_aload_n eX0_prepare_108 rfl rfl ?_
    refine r_getf (v := .int (nI (tg_keys (cg_now u)))) eX0_prepare_109 fX0_65 rfl rfl ?_
    refine n_icmp_ge eX0_prepare_112 (by omega) (by omega) (fun hc112 => absurd hc112 (by omega)) (fun hc112 => ?_)
    refine r_aload_n eX0_prepare_115 rfl rfl ?_
    refine r_getf (v := .ref 22) eX0_prepare_116 fX0_68 rfl rfl ?_
    refine r_iload_n eX0_prepare_119 rfl rfl ?_
    refine n_iald (f := tg_door (cg_now u)) (j := kx) eX0_prepare_120 rfl rfl (by omega) (by decide) ?_
    refine r_aload_n eX0_prepare_121 rfl rfl ?_
    refine r_getf (v := .ref 23) eX0_prepare_122 fX0_71 rfl rfl ?_
    refine r_iload_n eX0_prepare_125 rfl rfl ?_
    refine n_iald (f := tg_held (cg_now u)) (j := kx) eX0_prepare_126 rfl rfl (by omega) (by decide) ?_
    refine n_icmp_eq eX0_prepare_127 (by omega) (by omega) (fun hc127 => ?_) (fun hc127 => ?_)
    · refine n_iinc (k := 1) eX0_prepare_152 rfl (by decide) rfl ?_
      refine r_goto eX0_prepare_155 ?_
      refine ih (kx + 1) D (by omega) (fun a ha => ⟨(hD a ha).1, fun d hd9 => ?_⟩)
      rw [(hD a ha).2 d hd9, zhold]
      cases h8 : ((tg_held (cg_now u)) kx == a && (tg_door (cg_now u)) kx == d) with
      | false => rw [Bool.or_false]
      | true =>
        simp only [Bool.and_eq_true, beq_iff_eq] at h8
        have e8 : d = a := by omega
        simp [e8]
    · refine r_aload_n eX0_prepare_130 rfl rfl ?_
      refine r_getf (v := .ref 53) eX0_prepare_131 fX0_29 rfl rfl ?_
      refine r_aload_n eX0_prepare_134 rfl rfl ?_
      refine r_getf (v := .ref 23) eX0_prepare_135 fX0_71 rfl rfl ?_
      refine r_iload_n eX0_prepare_138 rfl rfl ?_
      refine n_iald (f := tg_held (cg_now u)) (j := kx) eX0_prepare_139 rfl rfl (by omega) (by decide) ?_
      refine r_dup2 eX0_prepare_140 rfl rfl ?_
      refine n_iald (f := D) (j := (tg_held (cg_now u)) (kx)) eX0_prepare_141 rfl rfl (by omega) (by decide) ?_
      refine n_iconst 1 eX0_prepare_142 rfl ?_
      refine r_aload_n eX0_prepare_143 rfl rfl ?_
      refine r_getf (v := .ref 22) eX0_prepare_144 fX0_68 rfl rfl ?_
      refine r_iload_n eX0_prepare_147 rfl rfl ?_
      refine n_iald (f := tg_door (cg_now u)) (j := kx) eX0_prepare_148 rfl rfl (by omega) (by decide) ?_
      refine n_shl eX0_prepare_149 (by omega) (by omega) ?_
      refine n_or eX0_prepare_150 ?_
      refine cw_md (j := (tg_held (cg_now u)) (kx)) (v := (D ((tg_held (cg_now u)) (kx))) ||| (1 * 2 ^ ((tg_door (cg_now u)) (kx)))) eX0_prepare_151 rfl rfl (by omega) ?_
      refine n_iinc (k := 1) eX0_prepare_152 rfl (by decide) rfl ?_
      refine r_goto eX0_prepare_155 ?_
      refine ih (kx + 1) _ (by omega) (fun a ha => ?_)
      have hh9 := hD a ha
      by_cases e : a = (tg_held (cg_now u)) kx
      · rw [e] at hh9 ⊢
        rw [zu_s]
        refine ⟨zor_lt hh9.1 (by omega), fun d hd9 => ?_⟩
        rw [zor_bit, hh9.2 d hd9, zhold]
        by_cases e2 : d = (tg_door (cg_now u)) kx
        · have e3 : ¬ d = (tg_held (cg_now u)) kx := by omega
          have e4 : (tg_door (cg_now u)) kx = d := e2.symm
          simp [e4, e3]
        · have e4 : ((tg_door (cg_now u)) kx == d) = false := beq_eq_false_iff_ne.mpr (fun z => e2 z.symm)
          have e6 : decide (d = (tg_door (cg_now u)) kx) = false := decide_eq_false e2
          rw [e4, e6]
          simp
      · rw [zu_n e]
        refine ⟨hh9.1, fun d hd9 => ?_⟩
        rw [hh9.2 d hd9, zhold]
        have e4 : ((tg_held (cg_now u)) kx == a) = false := beq_eq_false_iff_ne.mpr (fun z => e z.symm)
        rw [e4]
        simp
set_option maxHeartbeats 1000000 in
set_option maxRecDepth 100000 in
theorem s0_prepare_now {t : zMod} {u : zCls} (ho : tOk (cg_now u)) (hk10 : tg_keys (cg_now u) ≤ 10) (hty : tKeys (cg_now u)) : Mv mX0_prepare 3 [.ref 40, .ref 16] (hA t u) (fun h' => ∃ (W' : Nat → Nat → Nat) (U' N' I' C' D' : Nat → Nat), h' = hA t (cg_let u, cg_lc u, cg_rt u, cg_rl u, cg_ra u, cg_rf u, cg_rn u, cg_rc u, cg_now u, cg_dra u, cg_kep u, cg_im u, (tg_people (cg_now u)), W', U', N', I', C', D', cg_mo u, cg_ms u, cg_mq u, cg_se u, cg_sc u, cg_re u) ∧ cPr (cg_let u, cg_lc u, cg_rt u, cg_rl u, cg_ra u, cg_rf u, cg_rn u, cg_rc u, cg_now u, cg_dra u, cg_kep u, cg_im u, (tg_people (cg_now u)), W', U', N', I', C', D', cg_mo u, cg_ms u, cg_mq u, cg_se u, cg_sc u, cg_re u) (cg_now u)) := by
  obtain ⟨hp7, hk12, hpc, hwt, hrg, hpp⟩ := id ho
  refine Mv.of (by decide) rfl rfl (Nat.le_of_ble_eq_true rfl) ?_
  refine r_aload_n eX0_prepare_0 rfl rfl ?_
  refine r_aload_n eX0_prepare_1 rfl rfl ?_
  refine r_getf (v := .int (nI (tg_people (cg_now u)))) eX0_prepare_2 fX0_41 rfl rfl ?_
  refine z_h (h' := hA t (cg_let u, cg_lc u, cg_rt u, cg_rl u, cg_ra u, cg_rf u, cg_rn u, cg_rc u, cg_now u, cg_dra u, cg_kep u, cg_im u, cg_mp u, cg_mw u, cg_mu u, cg_mn u, cg_mi u, cg_mc u, cg_md u, cg_mo u, cg_ms u, cg_mq u, cg_se u, cg_sc u, cg_re u)) rfl ?_
  refine cp_mp (v := tg_people (cg_now u)) eX0_prepare_5 fX0_47 rfl ?_
  refine n_iconst 0 eX0_prepare_8 rfl ?_
  refine r_istore_n eX0_prepare_9 rfl (by decide) ?_
  refine z_h (h' := hA t (cg_let u, cg_lc u, cg_rt u, cg_rl u, cg_ra u, cg_rf u, cg_rn u, cg_rc u, cg_now u, cg_dra u, cg_kep u, cg_im u, (tg_people (cg_now u)), (cg_mw u), (cg_mu u), (cg_mn u), (cg_mi u), (cg_mc u), (cg_md u), cg_mo u, cg_ms u, cg_mq u, cg_se u, cg_sc u, cg_re u)) rfl ?_
  refine s0_prep_p_now ho (fun W U N I C D v2 v3 hI => ?_) (tg_people (cg_now u)) 0 _ _ _ _ _ _ _ (Nat.zero_add _) (fun a ha => absurd ha (by omega))
  refine n_iconst 0 eX0_prepare_105 rfl ?_
  refine r_istore_n eX0_prepare_106 rfl (by decide) ?_
  refine s0_prep_k_now ho hk10 hty (fun D9 v9 hD9 => ?_) (tg_keys (cg_now u)) 0 D (Nat.zero_add _) (fun a ha => ?_)
  · refine z_vret eX0_prepare_158 ⟨rfl, W, U, N, I, C, D9, rfl, rfl, fun p hp => ?_⟩
    obtain ⟨i1, i2, i3, i4, i5, i6⟩ := hI p hp
    exact ⟨i1, i2, i3, i4, i5, (hD9 p hp).1, (hD9 p hp).2⟩
  · have h8 := (hI a ha).2.2.2.2.2
    rw [h8]
    exact ⟨by decide, fun d _ => by rw [Nat.zero_testBit]; simp [zhold]⟩
set_option maxHeartbeats 1000000 in
set_option maxRecDepth 100000 in
theorem s0_prep_i_dra {t : zMod} {u : zCls} (ho : tOk (cg_dra u)) {p : Nat} {U N I C D : Nat → Nat} (hp : p < tg_people (cg_dra u)) {Q : Option Int32 → List zC → Prop} (kk9 : ∀ W : Nat → Nat → Nat, (∀ a, a < p + 1 → ∀ h, h < tg_people (cg_dra u) → W a h = tWay (cg_dra u) a h) → Rq mX0_prepare 3 none 48 [.ref 40, .ref 24, .int (nI p), .int (nI (tg_people (cg_dra u)))] [] (hA t (cg_let u, cg_lc u, cg_rt u, cg_rl u, cg_ra u, cg_rf u, cg_rn u, cg_rc u, cg_now u, cg_dra u, cg_kep u, cg_im u, (tg_people (cg_dra u)), W, U, N, I, C, D, cg_mo u, cg_ms u, cg_mq u, cg_se u, cg_sc u, cg_re u)) Q) : ∀ (k : Nat) (hh : Nat) (W : Nat → Nat → Nat) (hd : hh + k = tg_people (cg_dra u)) (h1 : ∀ a, a < p → ∀ h, h < tg_people (cg_dra u) → W a h = tWay (cg_dra u) a h) (h2 : ∀ h, h < hh → W p h = tWay (cg_dra u) p h), Rq mX0_prepare 3 none 20 [.ref 40, .ref 24, .int (nI (p)), .int (nI (hh))] [] (hA t (cg_let u, cg_lc u, cg_rt u, cg_rl u, cg_ra u, cg_rf u, cg_rn u, cg_rc u, cg_now u, cg_dra u, cg_kep u, cg_im u, (tg_people (cg_dra u)), W, U, N, I, C, D, cg_mo u, cg_ms u, cg_mq u, cg_se u, cg_sc u, cg_re u)) Q  := by
  intro k
  induction k with
  | zero =>
    intro hh W hd h1 h2
    have e9 : hh = tg_people (cg_dra u) := by omega
    subst e9
    obtain ⟨hp7, hk12, hpc, hwt, hrg, hpp⟩ := id ho
    refine r_iload_n eX0_prepare_20 rfl rfl ?_
    refine r_aload_n eX0_prepare_21 rfl rfl ?_
    refine r_getf (v := .int (nI ((tg_people (cg_dra u))))) eX0_prepare_22 fX0_47 rfl rfl ?_
    refine n_icmp_ge eX0_prepare_25 (by omega) (by omega) (fun hc25 => ?_) (fun hc25 => absurd hc25 (by omega))
    refine kk9 W (fun a ha h9 hh9 => ?_)
    by_cases e : a = p
    · rw [e]; exact h2 h9 hh9
    · exact h1 a (by omega) h9 hh9
  | succ k ih =>
    intro hh W hd h1 h2
    obtain ⟨hp7, hk12, hpc, hwt, hrg, hpp⟩ := id ho
    refine r_iload_n eX0_prepare_20 rfl rfl ?_
    refine r_aload_n eX0_prepare_21 rfl rfl ?_
    refine r_getf (v := .int (nI ((tg_people (cg_dra u))))) eX0_prepare_22 fX0_47 rfl rfl ?_
    refine n_icmp_ge eX0_prepare_25 (by omega) (by omega) (fun hc25 => absurd hc25 (by omega)) (fun hc25 => ?_)
    refine r_aload_n eX0_prepare_28 rfl rfl ?_
    refine r_getf (v := .ref 41) eX0_prepare_29 fX0_11 rfl rfl ?_
    refine r_iload_n eX0_prepare_32 rfl rfl ?_
    refine r_aald (j := p) (b := 42 + p) (f := fun i => some (42 + i)) eX0_prepare_33 rfl rfl (by omega) (by decide) rfl ?_
    refine r_iload_n eX0_prepare_34 rfl rfl ?_
    refine r_aload_n eX0_prepare_35 rfl rfl ?_
    refine r_iload_n eX0_prepare_36 rfl rfl ?_
    refine r_iload_n eX0_prepare_37 rfl rfl ?_
    refine r_callVi2 eX0_prepare_38 lX0_48 (Or.inl ⟨_, _, _, rfl, rfl, rfl⟩) (s2_wayBetween_dra (t := t) (u := (cg_let u, cg_lc u, cg_rt u, cg_rl u, cg_ra u, cg_rf u, cg_rn u, cg_rc u, cg_now u, cg_dra u, cg_kep u, cg_im u, (tg_people (cg_dra u)), W, U, N, I, C, D, cg_mo u, cg_ms u, cg_mq u, cg_se u, cg_sc u, cg_re u)) ho (a := p) (b := hh) hp (show hh < tg_people (cg_dra u) by omega)) (by omega) (Nat.le_of_ble_eq_true rfl) (fun r1 h1 hq => ?_)
    obtain ⟨rfl, rfl⟩ := (show r1 = nI (tWay (cg_dra u) p hh) ∧ h1 = hA t (cg_let u, cg_lc u, cg_rt u, cg_rl u, cg_ra u, cg_rf u, cg_rn u, cg_rc u, cg_now u, cg_dra u, cg_kep u, cg_im u, (tg_people (cg_dra u)), W, U, N, I, C, D, cg_mo u, cg_ms u, cg_mq u, cg_se u, cg_sc u, cg_re u) from hq)
    refine cw_mw (p := p) (j := hh) (v := tWay (cg_dra u) p hh) (by omega) eX0_prepare_41 rfl rfl (by omega) ?_
    refine n_iinc (k := 1) eX0_prepare_42 rfl (by decide) rfl ?_
    refine r_goto eX0_prepare_45 ?_
    refine ih (hh + 1) _ (by omega) (fun a ha h9 hh9 => ?_) (fun h9 hh9 => ?_)
    · show (if a = p then va_up (W p) hh (tWay (cg_dra u) p hh) else W a) h9 = _
      rw [if_neg (by omega)]
      exact h1 a ha h9 hh9
    · show (if p = p then va_up (W p) hh (tWay (cg_dra u) p hh) else W p) h9 = _
      rw [if_pos rfl]
      by_cases e : h9 = hh
      · rw [e, zu_s]
      · rw [zu_n e]; exact h2 h9 (by omega)
set_option maxHeartbeats 1000000 in
set_option maxRecDepth 100000 in
theorem s0_prep_p_dra {t : zMod} {u : zCls} (ho : tOk (cg_dra u)) {Q : Option Int32 → List zC → Prop} (kk9 : ∀ (W : Nat → Nat → Nat) (U N I C D : Nat → Nat) (v2 v3 : Value), (∀ a, a < tg_people (cg_dra u) → (∀ h, h < tg_people (cg_dra u) → W a h = tWay (cg_dra u) a h) ∧ U a = tUp (cg_dra u) a ∧ N a = tNd (cg_dra u) a ∧ I a = tWin (cg_dra u) 0 2147483647 a ∧ C a = tPc (cg_dra u) a ∧ D a = 0) → Rq mX0_prepare 3 none 105 [.ref 40, .ref 24, v2, v3] [] (hA t (cg_let u, cg_lc u, cg_rt u, cg_rl u, cg_ra u, cg_rf u, cg_rn u, cg_rc u, cg_now u, cg_dra u, cg_kep u, cg_im u, (tg_people (cg_dra u)), W, U, N, I, C, D, cg_mo u, cg_ms u, cg_mq u, cg_se u, cg_sc u, cg_re u)) Q) : ∀ (k : Nat) (p : Nat) (W : Nat → Nat → Nat) (U : Nat → Nat) (N : Nat → Nat) (I : Nat → Nat) (C : Nat → Nat) (D : Nat → Nat) (v3 : Value) (hd : p + k = tg_people (cg_dra u)) (hI : ∀ a, a < p → (∀ h, h < tg_people (cg_dra u) → W a h = tWay (cg_dra u) a h) ∧ U a = tUp (cg_dra u) a ∧ N a = tNd (cg_dra u) a ∧ I a = tWin (cg_dra u) 0 2147483647 a ∧ C a = tPc (cg_dra u) a ∧ D a = 0), Rq mX0_prepare 3 none 10 [.ref 40, .ref 24, .int (nI (p)), v3] [] (hA t (cg_let u, cg_lc u, cg_rt u, cg_rl u, cg_ra u, cg_rf u, cg_rn u, cg_rc u, cg_now u, cg_dra u, cg_kep u, cg_im u, (tg_people (cg_dra u)), W, U, N, I, C, D, cg_mo u, cg_ms u, cg_mq u, cg_se u, cg_sc u, cg_re u)) Q  := by
  intro k
  induction k with
  | zero =>
    intro p W U N I C D v3 hd hI
    have e9 : p = tg_people (cg_dra u) := by omega
    subst e9
    obtain ⟨hp7, hk12, hpc, hwt, hrg, hpp⟩ := id ho
    refine r_iload_n eX0_prepare_10 rfl rfl ?_
    refine r_aload_n eX0_prepare_11 rfl rfl ?_
    refine r_getf (v := .int (nI ((tg_people (cg_dra u))))) eX0_prepare_12 fX0_47 rfl rfl ?_
    refine n_icmp_ge eX0_prepare_15 (by omega) (by omega) (fun hc15 => ?_) (fun hc15 => absurd hc15 (by omega))
    exact kk9 W U N I C D _ v3 hI
  | succ k ih =>
    intro p W U N I C D v3 hd hI
    obtain ⟨hp7, hk12, hpc, hwt, hrg, hpp⟩ := id ho
    refine r_iload_n eX0_prepare_10 rfl rfl ?_
    refine r_aload_n eX0_prepare_11 rfl rfl ?_
    refine r_getf (v := .int (nI ((tg_people (cg_dra u))))) eX0_prepare_12 fX0_47 rfl rfl ?_
    refine n_icmp_ge eX0_prepare_15 (by omega) (by omega) (fun hc15 => absurd hc15 (by omega)) (fun hc15 => ?_)
    refine n_iconst 0 eX0_prepare_18 rfl ?_
    refine r_istore_n eX0_prepare_19 rfl (by decide) ?_
    refine s0_prep_i_dra ho (p := p) (by omega) (fun W9 hW9 => ?_) (tg_people (cg_dra u)) 0 W (Nat.zero_add _) (fun a ha => (hI a ha).1) (fun h9 hh9 => absurd hh9 (by omega))
    refine r_aload_n eX0_prepare_48 rfl rfl ?_
    refine r_getf (v := .ref 49) eX0_prepare_49 fX0_16 rfl rfl ?_
    refine r_iload_n eX0_prepare_52 rfl rfl ?_
    refine r_aload_n eX0_prepare_53 rfl rfl ?_
    refine r_iload_n eX0_prepare_54 rfl rfl ?_
    refine r_callVi1 eX0_prepare_55 lX0_52 (Or.inl ⟨_, _, _, rfl, rfl, rfl⟩) (s2_upOf_dra (t := t) (u := (cg_let u, cg_lc u, cg_rt u, cg_rl u, cg_ra u, cg_rf u, cg_rn u, cg_rc u, cg_now u, cg_dra u, cg_kep u, cg_im u, (tg_people (cg_dra u)), W9, U, N, I, C, D, cg_mo u, cg_ms u, cg_mq u, cg_se u, cg_sc u, cg_re u)) ho (p := p) (show p < tg_people (cg_dra u) by omega)) (by omega) (Nat.le_of_ble_eq_true rfl) (fun r1 h1 hq => ?_)
    obtain ⟨rfl, rfl⟩ := (show r1 = nI (tUp (cg_dra u) p) ∧ h1 = hA t (cg_let u, cg_lc u, cg_rt u, cg_rl u, cg_ra u, cg_rf u, cg_rn u, cg_rc u, cg_now u, cg_dra u, cg_kep u, cg_im u, (tg_people (cg_dra u)), W9, U, N, I, C, D, cg_mo u, cg_ms u, cg_mq u, cg_se u, cg_sc u, cg_re u) from hq)
    refine cw_mu (j := p) (v := tUp (cg_dra u) p) eX0_prepare_58 rfl rfl (by omega) ?_
    refine r_aload_n eX0_prepare_59 rfl rfl ?_
    refine r_getf (v := .ref 50) eX0_prepare_60 fX0_20 rfl rfl ?_
    refine r_iload_n eX0_prepare_63 rfl rfl ?_
    refine r_aload_n eX0_prepare_64 rfl rfl ?_
    refine r_iload_n eX0_prepare_65 rfl rfl ?_
    refine r_callVi1 eX0_prepare_66 lX0_56 (Or.inl ⟨_, _, _, rfl, rfl, rfl⟩) (s2_needOf_dra (t := t) (u := (cg_let u, cg_lc u, cg_rt u, cg_rl u, cg_ra u, cg_rf u, cg_rn u, cg_rc u, cg_now u, cg_dra u, cg_kep u, cg_im u, (tg_people (cg_dra u)), W9, (va_up (U) (p) (tUp (cg_dra u) p)), N, I, C, D, cg_mo u, cg_ms u, cg_mq u, cg_se u, cg_sc u, cg_re u)) ho (p := p) (show p < tg_people (cg_dra u) by omega)) (by omega) (Nat.le_of_ble_eq_true rfl) (fun r1 h1 hq => ?_)
    obtain ⟨rfl, rfl⟩ := (show r1 = nI (tNd (cg_dra u) p) ∧ h1 = hA t (cg_let u, cg_lc u, cg_rt u, cg_rl u, cg_ra u, cg_rf u, cg_rn u, cg_rc u, cg_now u, cg_dra u, cg_kep u, cg_im u, (tg_people (cg_dra u)), W9, (va_up (U) (p) (tUp (cg_dra u) p)), N, I, C, D, cg_mo u, cg_ms u, cg_mq u, cg_se u, cg_sc u, cg_re u) from hq)
    refine cw_mn (j := p) (v := tNd (cg_dra u) p) eX0_prepare_69 rfl rfl (by omega) ?_
    refine r_aload_n eX0_prepare_70 rfl rfl ?_
    refine r_getf (v := .ref 51) eX0_prepare_71 fX0_23 rfl rfl ?_
    refine r_iload_n eX0_prepare_74 rfl rfl ?_
    refine r_aload_n eX0_prepare_75 rfl rfl ?_
    refine r_iload_n eX0_prepare_76 rfl rfl ?_
    refine r_callVi1 eX0_prepare_77 lX0_59 (Or.inl ⟨_, _, _, rfl, rfl, rfl⟩) (s2_windowOf_dra (t := t) (u := (cg_let u, cg_lc u, cg_rt u, cg_rl u, cg_ra u, cg_rf u, cg_rn u, cg_rc u, cg_now u, cg_dra u, cg_kep u, cg_im u, (tg_people (cg_dra u)), W9, (va_up (U) (p) (tUp (cg_dra u) p)), (va_up (N) (p) (tNd (cg_dra u) p)), I, C, D, cg_mo u, cg_ms u, cg_mq u, cg_se u, cg_sc u, cg_re u)) ho (p := p) (show p < tg_people (cg_dra u) by omega)) (by omega) (Nat.le_of_ble_eq_true rfl) (fun r1 h1 hq => ?_)
    obtain ⟨rfl, rfl⟩ := (show r1 = nI (tWin (cg_dra u) 0 2147483647 p) ∧ h1 = hA t (cg_let u, cg_lc u, cg_rt u, cg_rl u, cg_ra u, cg_rf u, cg_rn u, cg_rc u, cg_now u, cg_dra u, cg_kep u, cg_im u, (tg_people (cg_dra u)), W9, (va_up (U) (p) (tUp (cg_dra u) p)), (va_up (N) (p) (tNd (cg_dra u) p)), I, C, D, cg_mo u, cg_ms u, cg_mq u, cg_se u, cg_sc u, cg_re u) from hq)
    refine cw_mi (j := p) (v := tWin (cg_dra u) 0 2147483647 p) eX0_prepare_80 rfl rfl (by omega) ?_
    refine r_aload_n eX0_prepare_81 rfl rfl ?_
    refine r_getf (v := .ref 52) eX0_prepare_82 fX0_26 rfl rfl ?_
    refine r_iload_n eX0_prepare_85 rfl rfl ?_
    refine r_aload_n eX0_prepare_86 rfl rfl ?_
    refine r_iload_n eX0_prepare_87 rfl rfl ?_
    refine r_callVi1 eX0_prepare_88 lX0_62 (Or.inl ⟨_, _, _, rfl, rfl, rfl⟩) (s2_paceOf_dra (t := t) (u := (cg_let u, cg_lc u, cg_rt u, cg_rl u, cg_ra u, cg_rf u, cg_rn u, cg_rc u, cg_now u, cg_dra u, cg_kep u, cg_im u, (tg_people (cg_dra u)), W9, (va_up (U) (p) (tUp (cg_dra u) p)), (va_up (N) (p) (tNd (cg_dra u) p)), (va_up (I) (p) (tWin (cg_dra u) 0 2147483647 p)), C, D, cg_mo u, cg_ms u, cg_mq u, cg_se u, cg_sc u, cg_re u)) ho (p := p) (show p < tg_people (cg_dra u) by omega)) (by omega) (Nat.le_of_ble_eq_true rfl) (fun r1 h1 hq => ?_)
    obtain ⟨rfl, rfl⟩ := (show r1 = nI (tPc (cg_dra u) p) ∧ h1 = hA t (cg_let u, cg_lc u, cg_rt u, cg_rl u, cg_ra u, cg_rf u, cg_rn u, cg_rc u, cg_now u, cg_dra u, cg_kep u, cg_im u, (tg_people (cg_dra u)), W9, (va_up (U) (p) (tUp (cg_dra u) p)), (va_up (N) (p) (tNd (cg_dra u) p)), (va_up (I) (p) (tWin (cg_dra u) 0 2147483647 p)), C, D, cg_mo u, cg_ms u, cg_mq u, cg_se u, cg_sc u, cg_re u) from hq)
    refine cw_mc (j := p) (v := tPc (cg_dra u) p) eX0_prepare_91 rfl rfl (by omega) ?_
    refine r_aload_n eX0_prepare_92 rfl rfl ?_
    refine r_getf (v := .ref 53) eX0_prepare_93 fX0_29 rfl rfl ?_
    refine r_iload_n eX0_prepare_96 rfl rfl ?_
    refine n_iconst 0 eX0_prepare_97 rfl ?_
    refine cw_md (j := p) (v := 0) eX0_prepare_98 rfl rfl (by omega) ?_
    refine n_iinc (k := 1) eX0_prepare_99 rfl (by decide) rfl ?_
    refine r_goto eX0_prepare_102 ?_
    refine ih (p + 1) _ _ _ _ _ _ _ (by omega) (fun a ha => ?_)
    by_cases e : a = p
    · subst e
      exact ⟨hW9 a (by omega), zu_s, zu_s, zu_s, zu_s, zu_s⟩
    · obtain ⟨i1, i2, i3, i4, i5, i6⟩ := hI a (by omega)
      exact ⟨hW9 a (by omega), (zu_n e).trans i2, (zu_n e).trans i3, (zu_n e).trans i4, (zu_n e).trans i5, (zu_n e).trans i6⟩
set_option maxHeartbeats 1000000 in
set_option maxRecDepth 100000 in
theorem s0_prep_k_dra {t : zMod} {u : zCls} (ho : tOk (cg_dra u)) (hk10 : tg_keys (cg_dra u) ≤ 10) (hty : tKeys (cg_dra u)) {W : Nat → Nat → Nat} {U N I C : Nat → Nat} {v3 : Value} {Q : Option Int32 → List zC → Prop} (kk9 : ∀ (D : Nat → Nat) (v2 : Value), (∀ a, a < tg_people (cg_dra u) → D a < 128 ∧ ∀ d, d < tg_people (cg_dra u) → (D a).testBit d = (!(d == a) && zhold (tg_door (cg_dra u)) (tg_held (cg_dra u)) (tg_keys (cg_dra u)) a d)) → Rq mX0_prepare 3 none 158 [.ref 40, .ref 24, v2, v3] [] (hA t (cg_let u, cg_lc u, cg_rt u, cg_rl u, cg_ra u, cg_rf u, cg_rn u, cg_rc u, cg_now u, cg_dra u, cg_kep u, cg_im u, (tg_people (cg_dra u)), W, U, N, I, C, D, cg_mo u, cg_ms u, cg_mq u, cg_se u, cg_sc u, cg_re u)) Q) : ∀ (k : Nat) (kx : Nat) (D : Nat → Nat) (hd : kx + k = tg_keys (cg_dra u)) (hD : ∀ a, a < tg_people (cg_dra u) → D a < 128 ∧ ∀ d, d < tg_people (cg_dra u) → (D a).testBit d = (!(d == a) && zhold (tg_door (cg_dra u)) (tg_held (cg_dra u)) kx a d)), Rq mX0_prepare 3 none 107 [.ref 40, .ref 24, .int (nI (kx)), v3] [] (hA t (cg_let u, cg_lc u, cg_rt u, cg_rl u, cg_ra u, cg_rf u, cg_rn u, cg_rc u, cg_now u, cg_dra u, cg_kep u, cg_im u, (tg_people (cg_dra u)), W, U, N, I, C, D, cg_mo u, cg_ms u, cg_mq u, cg_se u, cg_sc u, cg_re u)) Q  := by
  intro k
  induction k with
  | zero =>
    intro kx D hd hD
    have e9 : kx = tg_keys (cg_dra u) := by omega
    subst e9
    obtain ⟨hp7, hk12, hpc, hwt, hrg, hpp⟩ := id ho
    refine r_iload_n eX0_prepare_107 rfl rfl ?_
    refine r_aload_n eX0_prepare_108 rfl rfl ?_
    refine r_getf (v := .int (nI (tg_keys (cg_dra u)))) eX0_prepare_109 fX0_65 rfl rfl ?_
    refine n_icmp_ge eX0_prepare_112 (by omega) (by omega) (fun hc112 => ?_) (fun hc112 => absurd hc112 (by omega))
    exact kk9 D _ hD
  | succ k ih =>
    intro kx D hd hD
    obtain ⟨hp7, hk12, hpc, hwt, hrg, hpp⟩ := id ho
    obtain ⟨y1, y2⟩ := hty kx (by omega)
    have hpw := zpow7 (show (tg_door (cg_dra u)) kx < 7 by omega)
    have hDk := hD ((tg_held (cg_dra u)) kx) y2
    refine r_iload_n eX0_prepare_107 rfl rfl ?_
    refine r_aload_n eX0_prepare_108 rfl rfl ?_
    refine r_getf (v := .int (nI (tg_keys (cg_dra u)))) eX0_prepare_109 fX0_65 rfl rfl ?_
    refine n_icmp_ge eX0_prepare_112 (by omega) (by omega) (fun hc112 => absurd hc112 (by omega)) (fun hc112 => ?_)
    refine r_aload_n eX0_prepare_115 rfl rfl ?_
    refine r_getf (v := .ref 30) eX0_prepare_116 fX0_68 rfl rfl ?_
    refine r_iload_n eX0_prepare_119 rfl rfl ?_
    refine n_iald (f := tg_door (cg_dra u)) (j := kx) eX0_prepare_120 rfl rfl (by omega) (by decide) ?_
    refine r_aload_n eX0_prepare_121 rfl rfl ?_
    refine r_getf (v := .ref 31) eX0_prepare_122 fX0_71 rfl rfl ?_
    refine r_iload_n eX0_prepare_125 rfl rfl ?_
    refine n_iald (f := tg_held (cg_dra u)) (j := kx) eX0_prepare_126 rfl rfl (by omega) (by decide) ?_
    refine n_icmp_eq eX0_prepare_127 (by omega) (by omega) (fun hc127 => ?_) (fun hc127 => ?_)
    · refine n_iinc (k := 1) eX0_prepare_152 rfl (by decide) rfl ?_
      refine r_goto eX0_prepare_155 ?_
      refine ih (kx + 1) D (by omega) (fun a ha => ⟨(hD a ha).1, fun d hd9 => ?_⟩)
      rw [(hD a ha).2 d hd9, zhold]
      cases h8 : ((tg_held (cg_dra u)) kx == a && (tg_door (cg_dra u)) kx == d) with
      | false => rw [Bool.or_false]
      | true =>
        simp only [Bool.and_eq_true, beq_iff_eq] at h8
        have e8 : d = a := by omega
        simp [e8]
    · refine r_aload_n eX0_prepare_130 rfl rfl ?_
      refine r_getf (v := .ref 53) eX0_prepare_131 fX0_29 rfl rfl ?_
      refine r_aload_n eX0_prepare_134 rfl rfl ?_
      refine r_getf (v := .ref 31) eX0_prepare_135 fX0_71 rfl rfl ?_
      refine r_iload_n eX0_prepare_138 rfl rfl ?_
      refine n_iald (f := tg_held (cg_dra u)) (j := kx) eX0_prepare_139 rfl rfl (by omega) (by decide) ?_
      refine r_dup2 eX0_prepare_140 rfl rfl ?_
      refine n_iald (f := D) (j := (tg_held (cg_dra u)) (kx)) eX0_prepare_141 rfl rfl (by omega) (by decide) ?_
      refine n_iconst 1 eX0_prepare_142 rfl ?_
      refine r_aload_n eX0_prepare_143 rfl rfl ?_
      refine r_getf (v := .ref 30) eX0_prepare_144 fX0_68 rfl rfl ?_
      refine r_iload_n eX0_prepare_147 rfl rfl ?_
      refine n_iald (f := tg_door (cg_dra u)) (j := kx) eX0_prepare_148 rfl rfl (by omega) (by decide) ?_
      refine n_shl eX0_prepare_149 (by omega) (by omega) ?_
      refine n_or eX0_prepare_150 ?_
      refine cw_md (j := (tg_held (cg_dra u)) (kx)) (v := (D ((tg_held (cg_dra u)) (kx))) ||| (1 * 2 ^ ((tg_door (cg_dra u)) (kx)))) eX0_prepare_151 rfl rfl (by omega) ?_
      refine n_iinc (k := 1) eX0_prepare_152 rfl (by decide) rfl ?_
      refine r_goto eX0_prepare_155 ?_
      refine ih (kx + 1) _ (by omega) (fun a ha => ?_)
      have hh9 := hD a ha
      by_cases e : a = (tg_held (cg_dra u)) kx
      · rw [e] at hh9 ⊢
        rw [zu_s]
        refine ⟨zor_lt hh9.1 (by omega), fun d hd9 => ?_⟩
        rw [zor_bit, hh9.2 d hd9, zhold]
        by_cases e2 : d = (tg_door (cg_dra u)) kx
        · have e3 : ¬ d = (tg_held (cg_dra u)) kx := by omega
          have e4 : (tg_door (cg_dra u)) kx = d := e2.symm
          simp [e4, e3]
        · have e4 : ((tg_door (cg_dra u)) kx == d) = false := beq_eq_false_iff_ne.mpr (fun z => e2 z.symm)
          have e6 : decide (d = (tg_door (cg_dra u)) kx) = false := decide_eq_false e2
          rw [e4, e6]
          simp
      · rw [zu_n e]
        refine ⟨hh9.1, fun d hd9 => ?_⟩
        rw [hh9.2 d hd9, zhold]
        have e4 : ((tg_held (cg_dra u)) kx == a) = false := beq_eq_false_iff_ne.mpr (fun z => e z.symm)
        rw [e4]
        simp
set_option maxHeartbeats 1000000 in
set_option maxRecDepth 100000 in
theorem s0_prepare_dra {t : zMod} {u : zCls} (ho : tOk (cg_dra u)) (hk10 : tg_keys (cg_dra u) ≤ 10) (hty : tKeys (cg_dra u)) : Mv mX0_prepare 3 [.ref 40, .ref 24] (hA t u) (fun h' => ∃ (W' : Nat → Nat → Nat) (U' N' I' C' D' : Nat → Nat), h' = hA t (cg_let u, cg_lc u, cg_rt u, cg_rl u, cg_ra u, cg_rf u, cg_rn u, cg_rc u, cg_now u, cg_dra u, cg_kep u, cg_im u, (tg_people (cg_dra u)), W', U', N', I', C', D', cg_mo u, cg_ms u, cg_mq u, cg_se u, cg_sc u, cg_re u) ∧ cPr (cg_let u, cg_lc u, cg_rt u, cg_rl u, cg_ra u, cg_rf u, cg_rn u, cg_rc u, cg_now u, cg_dra u, cg_kep u, cg_im u, (tg_people (cg_dra u)), W', U', N', I', C', D', cg_mo u, cg_ms u, cg_mq u, cg_se u, cg_sc u, cg_re u) (cg_dra u)) := by
  obtain ⟨hp7, hk12, hpc, hwt, hrg, hpp⟩ := id ho
  refine Mv.of (by decide) rfl rfl (Nat.le_of_ble_eq_true rfl) ?_
  refine r_aload_n eX0_prepare_0 rfl rfl ?_
  refine r_aload_n eX0_prepare_1 rfl rfl ?_
  refine r_getf (v := .int (nI (tg_people (cg_dra u)))) eX0_prepare_2 fX0_41 rfl rfl ?_
  refine z_h (h' := hA t (cg_let u, cg_lc u, cg_rt u, cg_rl u, cg_ra u, cg_rf u, cg_rn u, cg_rc u, cg_now u, cg_dra u, cg_kep u, cg_im u, cg_mp u, cg_mw u, cg_mu u, cg_mn u, cg_mi u, cg_mc u, cg_md u, cg_mo u, cg_ms u, cg_mq u, cg_se u, cg_sc u, cg_re u)) rfl ?_
  refine cp_mp (v := tg_people (cg_dra u)) eX0_prepare_5 fX0_47 rfl ?_
  refine n_iconst 0 eX0_prepare_8 rfl ?_
  refine r_istore_n eX0_prepare_9 rfl (by decide) ?_
  refine z_h (h' := hA t (cg_let u, cg_lc u, cg_rt u, cg_rl u, cg_ra u, cg_rf u, cg_rn u, cg_rc u, cg_now u, cg_dra u, cg_kep u, cg_im u, (tg_people (cg_dra u)), (cg_mw u), (cg_mu u), (cg_mn u), (cg_mi u), (cg_mc u), (cg_md u), cg_mo u, cg_ms u, cg_mq u, cg_se u, cg_sc u, cg_re u)) rfl ?_
  refine s0_prep_p_dra ho (fun W U N I C D v2 v3 hI => ?_) (tg_people (cg_dra u)) 0 _ _ _ _ _ _ _ (Nat.zero_add _) (fun a ha => absurd ha (by omega))
  refine n_iconst 0 eX0_prepare_105 rfl ?_
  refine r_istore_n eX0_prepare_106 rfl (by decide) ?_
  refine s0_prep_k_dra ho hk10 hty (fun D9 v9 hD9 => ?_) (tg_keys (cg_dra u)) 0 D (Nat.zero_add _) (fun a ha => ?_)
  · refine z_vret eX0_prepare_158 ⟨rfl, W, U, N, I, C, D9, rfl, rfl, fun p hp => ?_⟩
    obtain ⟨i1, i2, i3, i4, i5, i6⟩ := hI p hp
    exact ⟨i1, i2, i3, i4, i5, (hD9 p hp).1, (hD9 p hp).2⟩
  · have h8 := (hI a ha).2.2.2.2.2
    rw [h8]
    exact ⟨by decide, fun d _ => by rw [Nat.zero_testBit]; simp [zhold]⟩
