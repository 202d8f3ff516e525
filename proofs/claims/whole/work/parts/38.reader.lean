/-! THE CLASS: a STATEMENT read -/
set_option maxHeartbeats 1000000 in
set_option maxRecDepth 100000 in
theorem s1_parseSign {t : zMod} {u : zCls} (hrl : cg_rl u ≤ 80) (hlet : ∀ i, cg_let u i ≤ 255) (hat : cg_ra u ≤ cg_rl u) {c : Nat} (hc : c < 256) : Mi mX1_parseSign 1 [.ref 13, .int (nI (c))] (hA t (cg_let u, cg_lc u, 12, cg_rl u, cg_ra u, cg_rf u, cg_rn u, cg_rc u, cg_now u, cg_dra u, cg_kep u, cg_im u, cg_mp u, cg_mw u, cg_mu u, cg_mn u, cg_mi u, cg_mc u, cg_md u, cg_mo u, cg_ms u, cg_mq u, cg_se u, cg_sc u, cg_re u)) (fun r h' => r = nI (pB (cg_let u) (cg_rl u) c (cg_ra u)) ∧ h' = hA t (cg_let u, cg_lc u, 12, cg_rl u, (pE (cg_let u) (cg_rl u) c (cg_ra u)), cg_rf u, cg_rn u, cg_rc u, cg_now u, cg_dra u, cg_kep u, cg_im u, cg_mp u, cg_mw u, cg_mu u, cg_mn u, cg_mi u, cg_mc u, cg_md u, cg_mo u, cg_ms u, cg_mq u, cg_se u, cg_sc u, cg_re u)) := by
  have hl9 := hlet (cg_ra u)
  refine Mi.of (by decide) rfl (Nat.le_of_ble_eq_true rfl) ?_
  refine r_aload_n eX1_parseSign_0 rfl rfl ?_
  refine r_getf (v := .int (nI (cg_ra u))) eX1_parseSign_1 fX1_32 rfl rfl ?_
  refine r_aload_n eX1_parseSign_4 rfl rfl ?_
  refine r_getf (v := .int (nI (cg_rl u))) eX1_parseSign_5 fX1_24 rfl rfl ?_
  refine n_icmp_ge eX1_parseSign_8 (by omega) (by omega) (fun hc8 => ?_) (fun hc8 => ?_)
  · refine n_iconst 0 eX1_parseSign_24 rfl ?_
    have q8 : pE (cg_let u) (cg_rl u) c (cg_ra u) = cg_ra u := if_neg (fun z => by omega)
    have q9 : pB (cg_let u) (cg_rl u) c (cg_ra u) = 0 := if_neg (fun z => by omega)
    rw [q8, q9]
    exact z_iret eX1_parseSign_25 rfl (by decide) ⟨_, rfl, rfl, rfl⟩
  · refine r_aload_n eX1_parseSign_11 rfl rfl ?_
    refine r_getf (v := .ref 12) eX1_parseSign_12 fX1_9 rfl rfl ?_
    refine r_aload_n eX1_parseSign_15 rfl rfl ?_
    refine r_getf (v := .int (nI (cg_ra u))) eX1_parseSign_16 fX1_32 rfl rfl ?_
    refine n_iald (f := cg_let u) (j := cg_ra u) eX1_parseSign_19 rfl rfl (by omega) (by decide) ?_
    refine r_iload_n eX1_parseSign_20 rfl rfl ?_
    refine n_icmp_eq eX1_parseSign_21 (by omega) (by omega) (fun hc21 => ?_) (fun hc21 => ?_)
    · refine r_aload_n eX1_parseSign_26 rfl rfl ?_
      refine r_dup eX1_parseSign_27 rfl ?_
      refine r_getf (v := .int (nI (cg_ra u))) eX1_parseSign_28 fX1_32 rfl rfl ?_
      refine n_iconst 1 eX1_parseSign_31 rfl ?_
      refine n_add eX1_parseSign_32 ?_
      refine cp_ra (v := (cg_ra u) + 1) eX1_parseSign_33 fX1_32 rfl ?_
      refine n_iconst 1 eX1_parseSign_36 rfl ?_
      have q8 : pE (cg_let u) (cg_rl u) c (cg_ra u) = cg_ra u + 1 := if_pos ⟨hc8, hc21⟩
      have q9 : pB (cg_let u) (cg_rl u) c (cg_ra u) = 1 := if_pos ⟨hc8, hc21⟩
      rw [q8, q9]
      exact z_iret eX1_parseSign_37 rfl (by decide) ⟨_, rfl, rfl, rfl⟩
    · refine n_iconst 0 eX1_parseSign_24 rfl ?_
      have q8 : pE (cg_let u) (cg_rl u) c (cg_ra u) = cg_ra u := if_neg (fun z => hc21 z.2)
      have q9 : pB (cg_let u) (cg_rl u) c (cg_ra u) = 0 := if_neg (fun z => hc21 z.2)
      rw [q8, q9]
      exact z_iret eX1_parseSign_25 rfl (by decide) ⟨_, rfl, rfl, rfl⟩
set_option maxHeartbeats 1000000 in
set_option maxRecDepth 100000 in
theorem s1_keepNumber {t : zMod} {u : zCls} (hrl : cg_rl u ≤ 80) (hlet : ∀ i, cg_let u i ≤ 255) (hrc : cg_rc u < 5) {v : Nat} : Mi mX1_keepNumber 1 [.ref 13, .int (nI (v))] (hA t (cg_let u, cg_lc u, 12, cg_rl u, cg_ra u, cg_rf u, cg_rn u, cg_rc u, cg_now u, cg_dra u, cg_kep u, cg_im u, cg_mp u, cg_mw u, cg_mu u, cg_mn u, cg_mi u, cg_mc u, cg_md u, cg_mo u, cg_ms u, cg_mq u, cg_se u, cg_sc u, cg_re u)) (fun r h' => r = nI 1 ∧ h' = hA t (cg_let u, cg_lc u, 12, cg_rl u, cg_ra u, cg_rf u, (va_up (cg_rn u) (cg_rc u) v), (cg_rc u + 1), cg_now u, cg_dra u, cg_kep u, cg_im u, cg_mp u, cg_mw u, cg_mu u, cg_mn u, cg_mi u, cg_mc u, cg_md u, cg_mo u, cg_ms u, cg_mq u, cg_se u, cg_sc u, cg_re u)) := by
  refine Mi.of (by decide) rfl (Nat.le_of_ble_eq_true rfl) ?_
  refine r_aload_n eX1_keepNumber_0 rfl rfl ?_
  refine r_getf (v := .int (nI (cg_rc u))) eX1_keepNumber_1 fX1_45 rfl rfl ?_
  refine r_aload_n eX1_keepNumber_4 rfl rfl ?_
  refine r_getf (v := .ref 15) eX1_keepNumber_5 fX1_15 rfl rfl ?_
  refine r_alen eX1_keepNumber_8 rfl ?_
  refine n_icmp_lt eX1_keepNumber_9 (by omega) (by omega) (fun hc9 => ?_) (fun hc9 => absurd hc9 (by omega))
  refine r_aload_n eX1_keepNumber_14 rfl rfl ?_
  refine r_getf (v := .ref 15) eX1_keepNumber_15 fX1_15 rfl rfl ?_
  refine r_aload_n eX1_keepNumber_18 rfl rfl ?_
  refine r_getf (v := .int (nI (cg_rc u))) eX1_keepNumber_19 fX1_45 rfl rfl ?_
  refine r_iload_n eX1_keepNumber_22 rfl rfl ?_
  refine cw_rn (j := cg_rc u) (v := v) eX1_keepNumber_23 rfl rfl (by omega) ?_
  refine r_aload_n eX1_keepNumber_24 rfl rfl ?_
  refine r_dup eX1_keepNumber_25 rfl ?_
  refine r_getf (v := .int (nI (cg_rc u))) eX1_keepNumber_26 fX1_45 rfl rfl ?_
  refine n_iconst 1 eX1_keepNumber_29 rfl ?_
  refine n_add eX1_keepNumber_30 ?_
  refine cp_rc (v := (cg_rc u) + 1) eX1_keepNumber_31 fX1_45 rfl ?_
  refine n_iconst 1 eX1_keepNumber_34 rfl ?_
  exact z_iret eX1_keepNumber_35 rfl (by decide) ⟨_, rfl, rfl, rfl⟩
set_option maxHeartbeats 1000000 in
set_option maxRecDepth 100000 in
theorem s1_pn_x {t : zMod} {u : zCls} (hrl : cg_rl u ≤ 80) (hlet : ∀ i, cg_let u i ≤ 255) (hat : cg_ra u ≤ cg_rl u) (hrc : cg_rc u < 5) {m : Nat} {a vl dg : Nat} (hres : (nR (cg_let u) (cg_rl u) m (cg_ra u) 0) = (a, vl)) (hdg : 0 < dg ↔ zdg (cg_let u) (cg_rl u) (cg_ra u) = true) (hdg3 : dg ≤ 3) : Rq mX1_parseNumber 2 none 82 [.ref 13, .int (nI m), .int (nI vl), .int (nI dg)] [] (hA t (cg_let u, cg_lc u, 12, cg_rl u, a, cg_rf u, cg_rn u, cg_rc u, cg_now u, cg_dra u, cg_kep u, cg_im u, cg_mp u, cg_mw u, cg_mu u, cg_mn u, cg_mi u, cg_mc u, cg_md u, cg_mo u, cg_ms u, cg_mq u, cg_se u, cg_sc u, cg_re u)) (fun r h' => ∃ x, r = some x ∧ ∃ (N' : Nat → Nat) (C' : Nat), h' = hA t (cg_let u, cg_lc u, 12, cg_rl u, (nE (cg_let u) (cg_rl u) m (cg_ra u)), cg_rf u, N', C', cg_now u, cg_dra u, cg_kep u, cg_im u, cg_mp u, cg_mw u, cg_mu u, cg_mn u, cg_mi u, cg_mc u, cg_md u, cg_mo u, cg_ms u, cg_mq u, cg_se u, cg_sc u, cg_re u) ∧ x = nI (nB (cg_let u) (cg_rl u) (cg_ra u)) ∧ (0 < nB (cg_let u) (cg_rl u) (cg_ra u) → N' = va_up (cg_rn u) (cg_rc u) (nV (cg_let u) (cg_rl u) m (cg_ra u)) ∧ C' = cg_rc u + 1)) := by
  have he : nE (cg_let u) (cg_rl u) m (cg_ra u) = a := congrArg Prod.fst hres
  have hv : nV (cg_let u) (cg_rl u) m (cg_ra u) = vl := congrArg Prod.snd hres
  refine r_iload_n eX1_parseNumber_82 rfl rfl ?_
  refine n_if_le eX1_parseNumber_83 (by omega) (fun hc83 => ?_) (fun hc83 => ?_)
  · refine n_iconst 0 eX1_parseNumber_98 rfl ?_
    have hz : ¬ zdg (cg_let u) (cg_rl u) (cg_ra u) = true := fun z => by have := hdg.mpr z; omega
    have q9 : nB (cg_let u) (cg_rl u) (cg_ra u) = 0 := if_neg hz
    rw [he, q9]
    exact z_iret eX1_parseNumber_99 rfl (by decide) ⟨_, rfl, cg_rn u, cg_rc u, rfl, rfl, fun z => absurd z (by omega)⟩
  · refine r_aload_n eX1_parseNumber_86 rfl rfl ?_
    refine r_iload_n eX1_parseNumber_87 rfl rfl ?_
    refine r_callVi1 eX1_parseNumber_88 lX1_70 (Or.inl ⟨_, _, _, rfl, rfl, rfl⟩) (s1_keepNumber (t := t) (u := (cg_let u, cg_lc u, 12, cg_rl u, a, cg_rf u, cg_rn u, cg_rc u, cg_now u, cg_dra u, cg_kep u, cg_im u, cg_mp u, cg_mw u, cg_mu u, cg_mn u, cg_mi u, cg_mc u, cg_md u, cg_mo u, cg_ms u, cg_mq u, cg_se u, cg_sc u, cg_re u)) hrl hlet hrc (v := vl)) (by omega) (Nat.le_of_ble_eq_true rfl) (fun r1 h1 hq => ?_)
    obtain ⟨rfl, rfl⟩ := (show r1 = nI (1) ∧ h1 = hA t (cg_let u, cg_lc u, 12, cg_rl u, a, cg_rf u, (va_up (cg_rn u) (cg_rc u) vl), ((cg_rc u) + 1), cg_now u, cg_dra u, cg_kep u, cg_im u, cg_mp u, cg_mw u, cg_mu u, cg_mn u, cg_mi u, cg_mc u, cg_md u, cg_mo u, cg_ms u, cg_mq u, cg_se u, cg_sc u, cg_re u) from hq)
    refine n_if_eq eX1_parseNumber_91 (by omega) (fun hc91 => absurd hc91 (by decide)) (fun hc91 => ?_)
    refine n_iconst 1 eX1_parseNumber_94 rfl ?_
    refine r_goto eX1_parseNumber_95 ?_
    have q9 : nB (cg_let u) (cg_rl u) (cg_ra u) = 1 := if_pos (hdg.mp hc83)
    rw [he, hv, q9]
    exact z_iret eX1_parseNumber_99 rfl (by decide) ⟨_, rfl, va_up (cg_rn u) (cg_rc u) vl, cg_rc u + 1, rfl, rfl, fun _ => ⟨rfl, rfl⟩⟩
set_option maxHeartbeats 1000000 in
set_option maxRecDepth 100000 in
theorem s1_pn_l {t : zMod} {u : zCls} (hrl : cg_rl u ≤ 80) (hlet : ∀ i, cg_let u i ≤ 255) (hat : cg_ra u ≤ cg_rl u) (hrc : cg_rc u < 5) {m : Nat} (hm1 : 1 ≤ m) (hm3 : m ≤ 3) : ∀ (k : Nat) (a : Nat) (vl : Nat) (dg : Nat) (hd : dg + k = m) (hres : (nR (cg_let u) (cg_rl u) m (cg_ra u) 0) = (nR (cg_let u) (cg_rl u) k a vl)) (hdg : 0 < dg → zdg (cg_let u) (cg_rl u) (cg_ra u) = true) (hd0 : dg = 0 → a = cg_ra u) (han : a ≤ cg_rl u), Rq mX1_parseNumber 2 none 4 [.ref 13, .int (nI (m)), .int (nI (vl)), .int (nI (dg))] [] (hA t (cg_let u, cg_lc u, 12, cg_rl u, a, cg_rf u, cg_rn u, cg_rc u, cg_now u, cg_dra u, cg_kep u, cg_im u, cg_mp u, cg_mw u, cg_mu u, cg_mn u, cg_mi u, cg_mc u, cg_md u, cg_mo u, cg_ms u, cg_mq u, cg_se u, cg_sc u, cg_re u)) (fun r h' => ∃ x, r = some x ∧ ∃ (N' : Nat → Nat) (C' : Nat), h' = hA t (cg_let u, cg_lc u, 12, cg_rl u, (nE (cg_let u) (cg_rl u) m (cg_ra u)), cg_rf u, N', C', cg_now u, cg_dra u, cg_kep u, cg_im u, cg_mp u, cg_mw u, cg_mu u, cg_mn u, cg_mi u, cg_mc u, cg_md u, cg_mo u, cg_ms u, cg_mq u, cg_se u, cg_sc u, cg_re u) ∧ x = nI (nB (cg_let u) (cg_rl u) (cg_ra u)) ∧ (0 < nB (cg_let u) (cg_rl u) (cg_ra u) → N' = va_up (cg_rn u) (cg_rc u) (nV (cg_let u) (cg_rl u) m (cg_ra u)) ∧ C' = cg_rc u + 1)) := by
  intro k
  induction k with
  | zero =>
    intro a vl dg hd hres hdg hd0 han
    refine r_iload_n eX1_parseNumber_4 rfl rfl ?_
    refine r_iload_n eX1_parseNumber_5 rfl rfl ?_
    refine n_icmp_ge eX1_parseNumber_6 (by omega) (by omega) (fun hc6 => ?_) (fun hc6 => absurd hc6 (by omega))
    exact s1_pn_x hrl hlet hat hrc hres ⟨hdg, fun _ => by omega⟩ (by omega)
  | succ k ih =>
    intro a vl dg hd hres hdg hd0 han
    have hl9 := hlet a
    refine r_iload_n eX1_parseNumber_4 rfl rfl ?_
    refine r_iload_n eX1_parseNumber_5 rfl rfl ?_
    refine n_icmp_ge eX1_parseNumber_6 (by omega) (by omega) (fun hc6 => absurd hc6 (by omega)) (fun hc6 => ?_)
    refine r_aload_n eX1_parseNumber_9 rfl rfl ?_
    refine r_getf (v := .int (nI (a))) eX1_parseNumber_10 fX1_32 rfl rfl ?_
    refine r_aload_n eX1_parseNumber_13 rfl rfl ?_
    refine r_getf (v := .int (nI (cg_rl u))) eX1_parseNumber_14 fX1_24 rfl rfl ?_
    refine n_icmp_ge eX1_parseNumber_17 (by omega) (by omega) (fun hc17 => ?_) (fun hc17 => ?_)
    · have hz : ¬ zdg (cg_let u) (cg_rl u) a = true := fun z => by have := (of_decide_eq_true z).1; omega
      have hr9 : (nR (cg_let u) (cg_rl u) (k + 1) a vl) = (a, vl) := by rw [nR, if_neg hz]
      refine s1_pn_x hrl hlet hat hrc (hres.trans hr9) ⟨hdg, fun z => Nat.pos_of_ne_zero fun e => hz ?_⟩ (by omega)
      rw [hd0 e]
      exact z
    · refine r_aload_n eX1_parseNumber_20 rfl rfl ?_
      refine r_getf (v := .ref 12) eX1_parseNumber_21 fX1_9 rfl rfl ?_
      refine r_aload_n eX1_parseNumber_24 rfl rfl ?_
      refine r_getf (v := .int (nI (a))) eX1_parseNumber_25 fX1_32 rfl rfl ?_
      refine n_iald (f := cg_let u) (j := a) eX1_parseNumber_28 rfl rfl (by omega) (by decide) ?_
      refine n_bipush 48 eX1_parseNumber_29 rfl ?_
      refine n_icmp_lt eX1_parseNumber_31 (by omega) (by omega) (fun hc31 => ?_) (fun hc31 => ?_)
      · have hz : ¬ zdg (cg_let u) (cg_rl u) a = true := fun z => by have := (of_decide_eq_true z).2.1; omega
        have hr9 : (nR (cg_let u) (cg_rl u) (k + 1) a vl) = (a, vl) := by rw [nR, if_neg hz]
        refine s1_pn_x hrl hlet hat hrc (hres.trans hr9) ⟨hdg, fun z => Nat.pos_of_ne_zero fun e => hz ?_⟩ (by omega)
        rw [hd0 e]
        exact z
      · refine r_aload_n eX1_parseNumber_34 rfl rfl ?_
        refine r_getf (v := .ref 12) eX1_parseNumber_35 fX1_9 rfl rfl ?_
        refine r_aload_n eX1_parseNumber_38 rfl rfl ?_
        refine r_getf (v := .int (nI (a))) eX1_parseNumber_39 fX1_32 rfl rfl ?_
        refine n_iald (f := cg_let u) (j := a) eX1_parseNumber_42 rfl rfl (by omega) (by decide) ?_
        refine n_bipush 57 eX1_parseNumber_43 rfl ?_
        refine n_icmp_gt eX1_parseNumber_45 (by omega) (by omega) (fun hc45 => ?_) (fun hc45 => ?_)
        · have hz : ¬ zdg (cg_let u) (cg_rl u) a = true := fun z => by have := (of_decide_eq_true z).2.2; omega
          have hr9 : (nR (cg_let u) (cg_rl u) (k + 1) a vl) = (a, vl) := by rw [nR, if_neg hz]
          refine s1_pn_x hrl hlet hat hrc (hres.trans hr9) ⟨hdg, fun z => Nat.pos_of_ne_zero fun e => hz ?_⟩ (by omega)
          rw [hd0 e]
          exact z
        · refine n_bipush 10 eX1_parseNumber_48 rfl ?_
          refine r_iload_n eX1_parseNumber_50 rfl rfl ?_
          refine n_mul eX1_parseNumber_51 ?_
          refine r_aload_n eX1_parseNumber_52 rfl rfl ?_
          refine r_getf (v := .ref 12) eX1_parseNumber_53 fX1_9 rfl rfl ?_
          refine r_aload_n eX1_parseNumber_56 rfl rfl ?_
          refine r_getf (v := .int (nI (a))) eX1_parseNumber_57 fX1_32 rfl rfl ?_
          refine n_iald (f := cg_let u) (j := a) eX1_parseNumber_60 rfl rfl (by omega) (by decide) ?_
          refine n_add eX1_parseNumber_61 ?_
          refine n_bipush 48 eX1_parseNumber_62 rfl ?_
          refine n_sub eX1_parseNumber_64 (by omega) ?_
          refine r_istore_n eX1_parseNumber_65 rfl (by decide) ?_
          refine n_iinc (k := 1) eX1_parseNumber_66 rfl (by decide) rfl ?_
          refine r_aload_n eX1_parseNumber_69 rfl rfl ?_
          refine r_dup eX1_parseNumber_70 rfl ?_
          refine r_getf (v := .int (nI (a))) eX1_parseNumber_71 fX1_32 rfl rfl ?_
          refine n_iconst 1 eX1_parseNumber_74 rfl ?_
          refine n_add eX1_parseNumber_75 ?_
          refine cp_ra (v := a + 1) eX1_parseNumber_76 fX1_32 rfl ?_
          refine r_goto eX1_parseNumber_79 ?_
          have hz : zdg (cg_let u) (cg_rl u) a = true := decide_eq_true ⟨by omega, by omega, by omega⟩
          refine ih (a + 1) _ (dg + 1) (by omega) (hres.trans (by rw [nR, if_pos hz])) (fun _ => ?_) (fun z => by omega) (by omega)
          by_cases e : dg = 0
          · rw [← hd0 e]; exact hz
          · exact hdg (by omega)
set_option maxHeartbeats 1000000 in
set_option maxRecDepth 100000 in
theorem s1_parseNumber {t : zMod} {u : zCls} (hrl : cg_rl u ≤ 80) (hlet : ∀ i, cg_let u i ≤ 255) (hat : cg_ra u ≤ cg_rl u) (hrc : cg_rc u < 5) {m : Nat} (hm1 : 1 ≤ m) (hm3 : m ≤ 3) : Mi mX1_parseNumber 2 [.ref 13, .int (nI (m))] (hA t (cg_let u, cg_lc u, 12, cg_rl u, cg_ra u, cg_rf u, cg_rn u, cg_rc u, cg_now u, cg_dra u, cg_kep u, cg_im u, cg_mp u, cg_mw u, cg_mu u, cg_mn u, cg_mi u, cg_mc u, cg_md u, cg_mo u, cg_ms u, cg_mq u, cg_se u, cg_sc u, cg_re u)) (fun r h' => ∃ (N' : Nat → Nat) (C' : Nat), h' = hA t (cg_let u, cg_lc u, 12, cg_rl u, (nE (cg_let u) (cg_rl u) m (cg_ra u)), cg_rf u, N', C', cg_now u, cg_dra u, cg_kep u, cg_im u, cg_mp u, cg_mw u, cg_mu u, cg_mn u, cg_mi u, cg_mc u, cg_md u, cg_mo u, cg_ms u, cg_mq u, cg_se u, cg_sc u, cg_re u) ∧ r = nI (nB (cg_let u) (cg_rl u) (cg_ra u)) ∧ (0 < nB (cg_let u) (cg_rl u) (cg_ra u) → N' = va_up (cg_rn u) (cg_rc u) (nV (cg_let u) (cg_rl u) m (cg_ra u)) ∧ C' = cg_rc u + 1)) := by
  refine Mi.of (by decide) rfl (Nat.le_of_ble_eq_true rfl) ?_
  refine n_iconst 0 eX1_parseNumber_0 rfl ?_
  refine r_istore_n eX1_parseNumber_1 rfl (by decide) ?_
  refine n_iconst 0 eX1_parseNumber_2 rfl ?_
  refine r_istore_n eX1_parseNumber_3 rfl (by decide) ?_
  refine z_h (h' := hA t (cg_let u, cg_lc u, 12, cg_rl u, (cg_ra u), cg_rf u, cg_rn u, cg_rc u, cg_now u, cg_dra u, cg_kep u, cg_im u, cg_mp u, cg_mw u, cg_mu u, cg_mn u, cg_mi u, cg_mc u, cg_md u, cg_mo u, cg_ms u, cg_mq u, cg_se u, cg_sc u, cg_re u)) rfl ?_
  exact s1_pn_l hrl hlet hat hrc hm1 hm3 m (cg_ra u) 0 0 (by omega) rfl (fun z => absurd z (by omega)) (fun _ => rfl) hat
theorem pB_pos {f : Nat → Nat} {n c a : Nat} (h : 0 < pB f n c a) : a < n ∧ f a = c := by
  unfold pB at h
  split at h
  · assumption
  · omega
theorem pB_zero {f : Nat → Nat} {n c a : Nat} (h : pB f n c a = 0) : ¬ (a < n ∧ f a = c) := fun z => by
  unfold pB at h
  rw [if_pos z] at h
  omega
theorem pE_zero {f : Nat → Nat} {n c a : Nat} (h : pB f n c a = 0) : pE f n c a = a := if_neg (pB_zero h)
theorem pE_pos {f : Nat → Nat} {n c a : Nat} (h : 0 < pB f n c a) : pE f n c a = a + 1 := if_pos (pB_pos h)
theorem pB_lt2 (f : Nat → Nat) (n c a : Nat) : pB f n c a < 2 := by
  unfold pB
  split <;> omega
theorem nB_lt2 (f : Nat → Nat) (n a : Nat) : nB f n a < 2 := by
  unfold nB
  split <;> omega
theorem kB_lt2 (f : Nat → Nat) (n a : Nat) : kB f n a < 2 := by
  unfold kB
  exact Bool.toNat_lt _
set_option maxHeartbeats 1000000 in
set_option maxRecDepth 100000 in
theorem s1_parseKind {t : zMod} {u : zCls} (hrl : cg_rl u ≤ 80) (hlet : ∀ i, cg_let u i ≤ 255) (hat : cg_ra u ≤ cg_rl u) (hrc : cg_rc u < 5) : Mi mX1_parseKind 6 [.ref 13] (hA t (cg_let u, cg_lc u, 12, cg_rl u, cg_ra u, cg_rf u, cg_rn u, cg_rc u, cg_now u, cg_dra u, cg_kep u, cg_im u, cg_mp u, cg_mw u, cg_mu u, cg_mn u, cg_mi u, cg_mc u, cg_md u, cg_mo u, cg_ms u, cg_mq u, cg_se u, cg_sc u, cg_re u)) (fun r h' => ∃ (N' : Nat → Nat) (C' : Nat), h' = hA t (cg_let u, cg_lc u, 12, cg_rl u, (kE (cg_let u) (cg_rl u) (cg_ra u)), cg_rf u, N', C', cg_now u, cg_dra u, cg_kep u, cg_im u, cg_mp u, cg_mw u, cg_mu u, cg_mn u, cg_mi u, cg_mc u, cg_md u, cg_mo u, cg_ms u, cg_mq u, cg_se u, cg_sc u, cg_re u) ∧ r = nI (kB (cg_let u) (cg_rl u) (cg_ra u)) ∧ (0 < kB (cg_let u) (cg_rl u) (cg_ra u) → N' = va_up (cg_rn u) (cg_rc u) (kV (cg_let u) (cg_rl u) (cg_ra u)) ∧ C' = cg_rc u + 1)) := by
  refine Mi.of (by decide) rfl (Nat.le_of_ble_eq_true rfl) ?_
  refine n_iconst 0 eX1_parseKind_0 rfl ?_
  refine r_istore_n eX1_parseKind_1 rfl (by decide) ?_
  refine r_iload_n eX1_parseKind_2 rfl rfl ?_
  refine r_ldcS eX1_parseKind_3 rfl ?_
  refine r_callVi0 eX1_parseKind_5 lX1_61 (Or.inr ⟨rfl, rfl⟩) (sj_length) (by omega) (Nat.le_of_ble_eq_true rfl) (fun r1 h1 hq => ?_)
  obtain ⟨rfl, rfl⟩ := hq
  refine n_icmp_ge eX1_parseKind_8 (by omega) (by omega) (fun hc8 => absurd hc8 (by decide)) (fun hc8 => ?_)
  refine r_aload_n eX1_parseKind_11 rfl rfl ?_
  refine r_ldcS eX1_parseKind_12 rfl ?_
  refine r_iload_n eX1_parseKind_14 rfl rfl ?_
  refine r_callVi1 eX1_parseKind_15 lX1_66 (Or.inr ⟨rfl, rfl⟩) (sj_char_0) (by omega) (Nat.le_of_ble_eq_true rfl) (fun r1 h1 hq => ?_)
  obtain ⟨rfl, rfl⟩ := hq
  refine r_callVi1 eX1_parseKind_18 lX1_55 (Or.inl ⟨_, _, _, rfl, rfl, rfl⟩) (s1_parseSign (t := t) (u := (cg_let u, cg_lc u, 12, cg_rl u, cg_ra u, cg_rf u, cg_rn u, cg_rc u, cg_now u, cg_dra u, cg_kep u, cg_im u, cg_mp u, cg_mw u, cg_mu u, cg_mn u, cg_mi u, cg_mc u, cg_md u, cg_mo u, cg_ms u, cg_mq u, cg_se u, cg_sc u, cg_re u)) hrl hlet hat (c := 112) (by decide)) (by omega) (Nat.le_of_ble_eq_true rfl) (fun r1 h1 hq => ?_)
  obtain ⟨rfl, rfl⟩ := (show r1 = nI (pB (cg_let u) (cg_rl u) 112 (cg_ra u)) ∧ h1 = hA t (cg_let u, cg_lc u, 12, cg_rl u, (pE (cg_let u) (cg_rl u) 112 (cg_ra u)), cg_rf u, cg_rn u, cg_rc u, cg_now u, cg_dra u, cg_kep u, cg_im u, cg_mp u, cg_mw u, cg_mu u, cg_mn u, cg_mi u, cg_mc u, cg_md u, cg_mo u, cg_ms u, cg_mq u, cg_se u, cg_sc u, cg_re u) from hq)
  have hpb := pB_lt2 (cg_let u) (cg_rl u) 112 (cg_ra u)
  refine n_if_eq eX1_parseKind_21 (by omega) (fun hc21 => ?_) (fun hc21 => ?_)
  · have he112 := pB_zero hc21
    refine z_h (h' := hA t (cg_let u, cg_lc u, 12, cg_rl u, cg_ra u, cg_rf u, cg_rn u, cg_rc u, cg_now u, cg_dra u, cg_kep u, cg_im u, cg_mp u, cg_mw u, cg_mu u, cg_mn u, cg_mi u, cg_mc u, cg_md u, cg_mo u, cg_ms u, cg_mq u, cg_se u, cg_sc u, cg_re u)) (by rw [pE_zero hc21]) ?_
    refine n_iinc (k := 1) eX1_parseKind_30 rfl (by decide) rfl ?_
    refine r_goto eX1_parseKind_33 ?_
    refine r_iload_n eX1_parseKind_2 rfl rfl ?_
    refine r_ldcS eX1_parseKind_3 rfl ?_
    refine r_callVi0 eX1_parseKind_5 lX1_61 (Or.inr ⟨rfl, rfl⟩) (sj_length) (by omega) (Nat.le_of_ble_eq_true rfl) (fun r1 h1 hq => ?_)
    obtain ⟨rfl, rfl⟩ := hq
    refine n_icmp_ge eX1_parseKind_8 (by omega) (by omega) (fun hc8 => absurd hc8 (by decide)) (fun hc8 => ?_)
    refine r_aload_n eX1_parseKind_11 rfl rfl ?_
    refine r_ldcS eX1_parseKind_12 rfl ?_
    refine r_iload_n eX1_parseKind_14 rfl rfl ?_
    refine r_callVi1 eX1_parseKind_15 lX1_66 (Or.inr ⟨rfl, rfl⟩) (sj_char_1) (by omega) (Nat.le_of_ble_eq_true rfl) (fun r1 h1 hq => ?_)
    obtain ⟨rfl, rfl⟩ := hq
    refine r_callVi1 eX1_parseKind_18 lX1_55 (Or.inl ⟨_, _, _, rfl, rfl, rfl⟩) (s1_parseSign (t := t) (u := (cg_let u, cg_lc u, 12, cg_rl u, cg_ra u, cg_rf u, cg_rn u, cg_rc u, cg_now u, cg_dra u, cg_kep u, cg_im u, cg_mp u, cg_mw u, cg_mu u, cg_mn u, cg_mi u, cg_mc u, cg_md u, cg_mo u, cg_ms u, cg_mq u, cg_se u, cg_sc u, cg_re u)) hrl hlet hat (c := 113) (by decide)) (by omega) (Nat.le_of_ble_eq_true rfl) (fun r1 h1 hq => ?_)
    obtain ⟨rfl, rfl⟩ := (show r1 = nI (pB (cg_let u) (cg_rl u) 113 (cg_ra u)) ∧ h1 = hA t (cg_let u, cg_lc u, 12, cg_rl u, (pE (cg_let u) (cg_rl u) 113 (cg_ra u)), cg_rf u, cg_rn u, cg_rc u, cg_now u, cg_dra u, cg_kep u, cg_im u, cg_mp u, cg_mw u, cg_mu u, cg_mn u, cg_mi u, cg_mc u, cg_md u, cg_mo u, cg_ms u, cg_mq u, cg_se u, cg_sc u, cg_re u) from hq)
    have hpb := pB_lt2 (cg_let u) (cg_rl u) 113 (cg_ra u)
    refine n_if_eq eX1_parseKind_21 (by omega) (fun hc21 => ?_) (fun hc21 => ?_)
    · have he113 := pB_zero hc21
      refine z_h (h' := hA t (cg_let u, cg_lc u, 12, cg_rl u, cg_ra u, cg_rf u, cg_rn u, cg_rc u, cg_now u, cg_dra u, cg_kep u, cg_im u, cg_mp u, cg_mw u, cg_mu u, cg_mn u, cg_mi u, cg_mc u, cg_md u, cg_mo u, cg_ms u, cg_mq u, cg_se u, cg_sc u, cg_re u)) (by rw [pE_zero hc21]) ?_
      refine n_iinc (k := 1) eX1_parseKind_30 rfl (by decide) rfl ?_
      refine r_goto eX1_parseKind_33 ?_
      refine r_iload_n eX1_parseKind_2 rfl rfl ?_
      refine r_ldcS eX1_parseKind_3 rfl ?_
      refine r_callVi0 eX1_parseKind_5 lX1_61 (Or.inr ⟨rfl, rfl⟩) (sj_length) (by omega) (Nat.le_of_ble_eq_true rfl) (fun r1 h1 hq => ?_)
      obtain ⟨rfl, rfl⟩ := hq
      refine n_icmp_ge eX1_parseKind_8 (by omega) (by omega) (fun hc8 => absurd hc8 (by decide)) (fun hc8 => ?_)
      refine r_aload_n eX1_parseKind_11 rfl rfl ?_
      refine r_ldcS eX1_parseKind_12 rfl ?_
      refine r_iload_n eX1_parseKind_14 rfl rfl ?_
      refine r_callVi1 eX1_parseKind_15 lX1_66 (Or.inr ⟨rfl, rfl⟩) (sj_char_2) (by omega) (Nat.le_of_ble_eq_true rfl) (fun r1 h1 hq => ?_)
      obtain ⟨rfl, rfl⟩ := hq
      refine r_callVi1 eX1_parseKind_18 lX1_55 (Or.inl ⟨_, _, _, rfl, rfl, rfl⟩) (s1_parseSign (t := t) (u := (cg_let u, cg_lc u, 12, cg_rl u, cg_ra u, cg_rf u, cg_rn u, cg_rc u, cg_now u, cg_dra u, cg_kep u, cg_im u, cg_mp u, cg_mw u, cg_mu u, cg_mn u, cg_mi u, cg_mc u, cg_md u, cg_mo u, cg_ms u, cg_mq u, cg_se u, cg_sc u, cg_re u)) hrl hlet hat (c := 115) (by decide)) (by omega) (Nat.le_of_ble_eq_true rfl) (fun r1 h1 hq => ?_)
      obtain ⟨rfl, rfl⟩ := (show r1 = nI (pB (cg_let u) (cg_rl u) 115 (cg_ra u)) ∧ h1 = hA t (cg_let u, cg_lc u, 12, cg_rl u, (pE (cg_let u) (cg_rl u) 115 (cg_ra u)), cg_rf u, cg_rn u, cg_rc u, cg_now u, cg_dra u, cg_kep u, cg_im u, cg_mp u, cg_mw u, cg_mu u, cg_mn u, cg_mi u, cg_mc u, cg_md u, cg_mo u, cg_ms u, cg_mq u, cg_se u, cg_sc u, cg_re u) from hq)
      have hpb := pB_lt2 (cg_let u) (cg_rl u) 115 (cg_ra u)
      refine n_if_eq eX1_parseKind_21 (by omega) (fun hc21 => ?_) (fun hc21 => ?_)
      · have he115 := pB_zero hc21
        refine z_h (h' := hA t (cg_let u, cg_lc u, 12, cg_rl u, cg_ra u, cg_rf u, cg_rn u, cg_rc u, cg_now u, cg_dra u, cg_kep u, cg_im u, cg_mp u, cg_mw u, cg_mu u, cg_mn u, cg_mi u, cg_mc u, cg_md u, cg_mo u, cg_ms u, cg_mq u, cg_se u, cg_sc u, cg_re u)) (by rw [pE_zero hc21]) ?_
        refine n_iinc (k := 1) eX1_parseKind_30 rfl (by decide) rfl ?_
        refine r_goto eX1_parseKind_33 ?_
        refine r_iload_n eX1_parseKind_2 rfl rfl ?_
        refine r_ldcS eX1_parseKind_3 rfl ?_
        refine r_callVi0 eX1_parseKind_5 lX1_61 (Or.inr ⟨rfl, rfl⟩) (sj_length) (by omega) (Nat.le_of_ble_eq_true rfl) (fun r1 h1 hq => ?_)
        obtain ⟨rfl, rfl⟩ := hq
        refine n_icmp_ge eX1_parseKind_8 (by omega) (by omega) (fun hc8 => absurd hc8 (by decide)) (fun hc8 => ?_)
        refine r_aload_n eX1_parseKind_11 rfl rfl ?_
        refine r_ldcS eX1_parseKind_12 rfl ?_
        refine r_iload_n eX1_parseKind_14 rfl rfl ?_
        refine r_callVi1 eX1_parseKind_15 lX1_66 (Or.inr ⟨rfl, rfl⟩) (sj_char_3) (by omega) (Nat.le_of_ble_eq_true rfl) (fun r1 h1 hq => ?_)
        obtain ⟨rfl, rfl⟩ := hq
        refine r_callVi1 eX1_parseKind_18 lX1_55 (Or.inl ⟨_, _, _, rfl, rfl, rfl⟩) (s1_parseSign (t := t) (u := (cg_let u, cg_lc u, 12, cg_rl u, cg_ra u, cg_rf u, cg_rn u, cg_rc u, cg_now u, cg_dra u, cg_kep u, cg_im u, cg_mp u, cg_mw u, cg_mu u, cg_mn u, cg_mi u, cg_mc u, cg_md u, cg_mo u, cg_ms u, cg_mq u, cg_se u, cg_sc u, cg_re u)) hrl hlet hat (c := 116) (by decide)) (by omega) (Nat.le_of_ble_eq_true rfl) (fun r1 h1 hq => ?_)
        obtain ⟨rfl, rfl⟩ := (show r1 = nI (pB (cg_let u) (cg_rl u) 116 (cg_ra u)) ∧ h1 = hA t (cg_let u, cg_lc u, 12, cg_rl u, (pE (cg_let u) (cg_rl u) 116 (cg_ra u)), cg_rf u, cg_rn u, cg_rc u, cg_now u, cg_dra u, cg_kep u, cg_im u, cg_mp u, cg_mw u, cg_mu u, cg_mn u, cg_mi u, cg_mc u, cg_md u, cg_mo u, cg_ms u, cg_mq u, cg_se u, cg_sc u, cg_re u) from hq)
        have hpb := pB_lt2 (cg_let u) (cg_rl u) 116 (cg_ra u)
        refine n_if_eq eX1_parseKind_21 (by omega) (fun hc21 => ?_) (fun hc21 => ?_)
        · have he116 := pB_zero hc21
          refine z_h (h' := hA t (cg_let u, cg_lc u, 12, cg_rl u, cg_ra u, cg_rf u, cg_rn u, cg_rc u, cg_now u, cg_dra u, cg_kep u, cg_im u, cg_mp u, cg_mw u, cg_mu u, cg_mn u, cg_mi u, cg_mc u, cg_md u, cg_mo u, cg_ms u, cg_mq u, cg_se u, cg_sc u, cg_re u)) (by rw [pE_zero hc21]) ?_
          refine n_iinc (k := 1) eX1_parseKind_30 rfl (by decide) rfl ?_
          refine r_goto eX1_parseKind_33 ?_
          refine r_iload_n eX1_parseKind_2 rfl rfl ?_
          refine r_ldcS eX1_parseKind_3 rfl ?_
          refine r_callVi0 eX1_parseKind_5 lX1_61 (Or.inr ⟨rfl, rfl⟩) (sj_length) (by omega) (Nat.le_of_ble_eq_true rfl) (fun r1 h1 hq => ?_)
          obtain ⟨rfl, rfl⟩ := hq
          refine n_icmp_ge eX1_parseKind_8 (by omega) (by omega) (fun hc8 => absurd hc8 (by decide)) (fun hc8 => ?_)
          refine r_aload_n eX1_parseKind_11 rfl rfl ?_
          refine r_ldcS eX1_parseKind_12 rfl ?_
          refine r_iload_n eX1_parseKind_14 rfl rfl ?_
          refine r_callVi1 eX1_parseKind_15 lX1_66 (Or.inr ⟨rfl, rfl⟩) (sj_char_4) (by omega) (Nat.le_of_ble_eq_true rfl) (fun r1 h1 hq => ?_)
          obtain ⟨rfl, rfl⟩ := hq
          refine r_callVi1 eX1_parseKind_18 lX1_55 (Or.inl ⟨_, _, _, rfl, rfl, rfl⟩) (s1_parseSign (t := t) (u := (cg_let u, cg_lc u, 12, cg_rl u, cg_ra u, cg_rf u, cg_rn u, cg_rc u, cg_now u, cg_dra u, cg_kep u, cg_im u, cg_mp u, cg_mw u, cg_mu u, cg_mn u, cg_mi u, cg_mc u, cg_md u, cg_mo u, cg_ms u, cg_mq u, cg_se u, cg_sc u, cg_re u)) hrl hlet hat (c := 98) (by decide)) (by omega) (Nat.le_of_ble_eq_true rfl) (fun r1 h1 hq => ?_)
          obtain ⟨rfl, rfl⟩ := (show r1 = nI (pB (cg_let u) (cg_rl u) 98 (cg_ra u)) ∧ h1 = hA t (cg_let u, cg_lc u, 12, cg_rl u, (pE (cg_let u) (cg_rl u) 98 (cg_ra u)), cg_rf u, cg_rn u, cg_rc u, cg_now u, cg_dra u, cg_kep u, cg_im u, cg_mp u, cg_mw u, cg_mu u, cg_mn u, cg_mi u, cg_mc u, cg_md u, cg_mo u, cg_ms u, cg_mq u, cg_se u, cg_sc u, cg_re u) from hq)
          have hpb := pB_lt2 (cg_let u) (cg_rl u) 98 (cg_ra u)
          refine n_if_eq eX1_parseKind_21 (by omega) (fun hc21 => ?_) (fun hc21 => ?_)
          · have he98 := pB_zero hc21
            refine z_h (h' := hA t (cg_let u, cg_lc u, 12, cg_rl u, cg_ra u, cg_rf u, cg_rn u, cg_rc u, cg_now u, cg_dra u, cg_kep u, cg_im u, cg_mp u, cg_mw u, cg_mu u, cg_mn u, cg_mi u, cg_mc u, cg_md u, cg_mo u, cg_ms u, cg_mq u, cg_se u, cg_sc u, cg_re u)) (by rw [pE_zero hc21]) ?_
            refine n_iinc (k := 1) eX1_parseKind_30 rfl (by decide) rfl ?_
            refine r_goto eX1_parseKind_33 ?_
            refine r_iload_n eX1_parseKind_2 rfl rfl ?_
            refine r_ldcS eX1_parseKind_3 rfl ?_
            refine r_callVi0 eX1_parseKind_5 lX1_61 (Or.inr ⟨rfl, rfl⟩) (sj_length) (by omega) (Nat.le_of_ble_eq_true rfl) (fun r1 h1 hq => ?_)
            obtain ⟨rfl, rfl⟩ := hq
            refine n_icmp_ge eX1_parseKind_8 (by omega) (by omega) (fun hc8 => absurd hc8 (by decide)) (fun hc8 => ?_)
            refine r_aload_n eX1_parseKind_11 rfl rfl ?_
            refine r_ldcS eX1_parseKind_12 rfl ?_
            refine r_iload_n eX1_parseKind_14 rfl rfl ?_
            refine r_callVi1 eX1_parseKind_15 lX1_66 (Or.inr ⟨rfl, rfl⟩) (sj_char_5) (by omega) (Nat.le_of_ble_eq_true rfl) (fun r1 h1 hq => ?_)
            obtain ⟨rfl, rfl⟩ := hq
            refine r_callVi1 eX1_parseKind_18 lX1_55 (Or.inl ⟨_, _, _, rfl, rfl, rfl⟩) (s1_parseSign (t := t) (u := (cg_let u, cg_lc u, 12, cg_rl u, cg_ra u, cg_rf u, cg_rn u, cg_rc u, cg_now u, cg_dra u, cg_kep u, cg_im u, cg_mp u, cg_mw u, cg_mu u, cg_mn u, cg_mi u, cg_mc u, cg_md u, cg_mo u, cg_ms u, cg_mq u, cg_se u, cg_sc u, cg_re u)) hrl hlet hat (c := 104) (by decide)) (by omega) (Nat.le_of_ble_eq_true rfl) (fun r1 h1 hq => ?_)
            obtain ⟨rfl, rfl⟩ := (show r1 = nI (pB (cg_let u) (cg_rl u) 104 (cg_ra u)) ∧ h1 = hA t (cg_let u, cg_lc u, 12, cg_rl u, (pE (cg_let u) (cg_rl u) 104 (cg_ra u)), cg_rf u, cg_rn u, cg_rc u, cg_now u, cg_dra u, cg_kep u, cg_im u, cg_mp u, cg_mw u, cg_mu u, cg_mn u, cg_mi u, cg_mc u, cg_md u, cg_mo u, cg_ms u, cg_mq u, cg_se u, cg_sc u, cg_re u) from hq)
            have hpb := pB_lt2 (cg_let u) (cg_rl u) 104 (cg_ra u)
            refine n_if_eq eX1_parseKind_21 (by omega) (fun hc21 => ?_) (fun hc21 => ?_)
            · have he104 := pB_zero hc21
              refine z_h (h' := hA t (cg_let u, cg_lc u, 12, cg_rl u, cg_ra u, cg_rf u, cg_rn u, cg_rc u, cg_now u, cg_dra u, cg_kep u, cg_im u, cg_mp u, cg_mw u, cg_mu u, cg_mn u, cg_mi u, cg_mc u, cg_md u, cg_mo u, cg_ms u, cg_mq u, cg_se u, cg_sc u, cg_re u)) (by rw [pE_zero hc21]) ?_
              refine n_iinc (k := 1) eX1_parseKind_30 rfl (by decide) rfl ?_
              refine r_goto eX1_parseKind_33 ?_
              refine r_iload_n eX1_parseKind_2 rfl rfl ?_
              refine r_ldcS eX1_parseKind_3 rfl ?_
              refine r_callVi0 eX1_parseKind_5 lX1_61 (Or.inr ⟨rfl, rfl⟩) (sj_length) (by omega) (Nat.le_of_ble_eq_true rfl) (fun r1 h1 hq => ?_)
              obtain ⟨rfl, rfl⟩ := hq
              refine n_icmp_ge eX1_parseKind_8 (by omega) (by omega) (fun hc8 => ?_) (fun hc8 => absurd hc8 (by decide))
              refine n_iconst 0 eX1_parseKind_36 rfl ?_
              have hk9 : kO (cg_let u) (cg_rl u) (cg_ra u) = none := by
                unfold kO
                by_cases ha : cg_ra u < cg_rl u
                · rw [if_pos ha]
                  unfold zkd
                  rw [if_neg (fun z => he112 ⟨ha, z⟩), if_neg (fun z => he113 ⟨ha, z⟩), if_neg (fun z => he115 ⟨ha, z⟩), if_neg (fun z => he116 ⟨ha, z⟩), if_neg (fun z => he98 ⟨ha, z⟩), if_neg (fun z => he104 ⟨ha, z⟩)]
                · rw [if_neg ha]
              have q7 : kE (cg_let u) (cg_rl u) (cg_ra u) = cg_ra u := by unfold kE; rw [hk9]; rfl
              have q8 : kB (cg_let u) (cg_rl u) (cg_ra u) = 0 := by unfold kB; rw [hk9]; rfl
              rw [q7, q8]
              exact z_iret eX1_parseKind_37 rfl (by decide) ⟨_, rfl, cg_rn u, cg_rc u, rfl, rfl, fun z => absurd z (by omega)⟩
            · refine r_aload_n eX1_parseKind_24 rfl rfl ?_
              refine r_iload_n eX1_parseKind_25 rfl rfl ?_
              refine r_callVi1 eX1_parseKind_26 lX1_70 (Or.inl ⟨_, _, _, rfl, rfl, rfl⟩) (s1_keepNumber (t := t) (u := (cg_let u, cg_lc u, 12, cg_rl u, (pE (cg_let u) (cg_rl u) 104 (cg_ra u)), cg_rf u, cg_rn u, cg_rc u, cg_now u, cg_dra u, cg_kep u, cg_im u, cg_mp u, cg_mw u, cg_mu u, cg_mn u, cg_mi u, cg_mc u, cg_md u, cg_mo u, cg_ms u, cg_mq u, cg_se u, cg_sc u, cg_re u)) hrl hlet hrc (v := 5)) (by omega) (Nat.le_of_ble_eq_true rfl) (fun r1 h1 hq => ?_)
              obtain ⟨rfl, rfl⟩ := (show r1 = nI (1) ∧ h1 = hA t (cg_let u, cg_lc u, 12, cg_rl u, (pE (cg_let u) (cg_rl u) 104 (cg_ra u)), cg_rf u, (va_up (cg_rn u) (cg_rc u) 5), (cg_rc u + 1), cg_now u, cg_dra u, cg_kep u, cg_im u, cg_mp u, cg_mw u, cg_mu u, cg_mn u, cg_mi u, cg_mc u, cg_md u, cg_mo u, cg_ms u, cg_mq u, cg_se u, cg_sc u, cg_re u) from hq)
              have hk9 : kO (cg_let u) (cg_rl u) (cg_ra u) = some 5 := by
                unfold kO
                rw [if_pos (pB_pos hc21).1, (pB_pos hc21).2]
                rfl
              have q7 : kE (cg_let u) (cg_rl u) (cg_ra u) = cg_ra u + 1 := by unfold kE; rw [hk9]; rfl
              have q8 : kB (cg_let u) (cg_rl u) (cg_ra u) = 1 := by unfold kB; rw [hk9]; rfl
              have q9 : kV (cg_let u) (cg_rl u) (cg_ra u) = 5 := by unfold kV; rw [hk9]; rfl
              rw [q7, q8, q9, pE_pos hc21]
              exact z_iret eX1_parseKind_29 rfl (by decide) ⟨_, rfl, _, _, rfl, rfl, fun _ => ⟨rfl, rfl⟩⟩
          · refine r_aload_n eX1_parseKind_24 rfl rfl ?_
            refine r_iload_n eX1_parseKind_25 rfl rfl ?_
            refine r_callVi1 eX1_parseKind_26 lX1_70 (Or.inl ⟨_, _, _, rfl, rfl, rfl⟩) (s1_keepNumber (t := t) (u := (cg_let u, cg_lc u, 12, cg_rl u, (pE (cg_let u) (cg_rl u) 98 (cg_ra u)), cg_rf u, cg_rn u, cg_rc u, cg_now u, cg_dra u, cg_kep u, cg_im u, cg_mp u, cg_mw u, cg_mu u, cg_mn u, cg_mi u, cg_mc u, cg_md u, cg_mo u, cg_ms u, cg_mq u, cg_se u, cg_sc u, cg_re u)) hrl hlet hrc (v := 4)) (by omega) (Nat.le_of_ble_eq_true rfl) (fun r1 h1 hq => ?_)
            obtain ⟨rfl, rfl⟩ := (show r1 = nI (1) ∧ h1 = hA t (cg_let u, cg_lc u, 12, cg_rl u, (pE (cg_let u) (cg_rl u) 98 (cg_ra u)), cg_rf u, (va_up (cg_rn u) (cg_rc u) 4), (cg_rc u + 1), cg_now u, cg_dra u, cg_kep u, cg_im u, cg_mp u, cg_mw u, cg_mu u, cg_mn u, cg_mi u, cg_mc u, cg_md u, cg_mo u, cg_ms u, cg_mq u, cg_se u, cg_sc u, cg_re u) from hq)
            have hk9 : kO (cg_let u) (cg_rl u) (cg_ra u) = some 4 := by
              unfold kO
              rw [if_pos (pB_pos hc21).1, (pB_pos hc21).2]
              rfl
            have q7 : kE (cg_let u) (cg_rl u) (cg_ra u) = cg_ra u + 1 := by unfold kE; rw [hk9]; rfl
            have q8 : kB (cg_let u) (cg_rl u) (cg_ra u) = 1 := by unfold kB; rw [hk9]; rfl
            have q9 : kV (cg_let u) (cg_rl u) (cg_ra u) = 4 := by unfold kV; rw [hk9]; rfl
            rw [q7, q8, q9, pE_pos hc21]
            exact z_iret eX1_parseKind_29 rfl (by decide) ⟨_, rfl, _, _, rfl, rfl, fun _ => ⟨rfl, rfl⟩⟩
        · refine r_aload_n eX1_parseKind_24 rfl rfl ?_
          refine r_iload_n eX1_parseKind_25 rfl rfl ?_
          refine r_callVi1 eX1_parseKind_26 lX1_70 (Or.inl ⟨_, _, _, rfl, rfl, rfl⟩) (s1_keepNumber (t := t) (u := (cg_let u, cg_lc u, 12, cg_rl u, (pE (cg_let u) (cg_rl u) 116 (cg_ra u)), cg_rf u, cg_rn u, cg_rc u, cg_now u, cg_dra u, cg_kep u, cg_im u, cg_mp u, cg_mw u, cg_mu u, cg_mn u, cg_mi u, cg_mc u, cg_md u, cg_mo u, cg_ms u, cg_mq u, cg_se u, cg_sc u, cg_re u)) hrl hlet hrc (v := 3)) (by omega) (Nat.le_of_ble_eq_true rfl) (fun r1 h1 hq => ?_)
          obtain ⟨rfl, rfl⟩ := (show r1 = nI (1) ∧ h1 = hA t (cg_let u, cg_lc u, 12, cg_rl u, (pE (cg_let u) (cg_rl u) 116 (cg_ra u)), cg_rf u, (va_up (cg_rn u) (cg_rc u) 3), (cg_rc u + 1), cg_now u, cg_dra u, cg_kep u, cg_im u, cg_mp u, cg_mw u, cg_mu u, cg_mn u, cg_mi u, cg_mc u, cg_md u, cg_mo u, cg_ms u, cg_mq u, cg_se u, cg_sc u, cg_re u) from hq)
          have hk9 : kO (cg_let u) (cg_rl u) (cg_ra u) = some 3 := by
            unfold kO
            rw [if_pos (pB_pos hc21).1, (pB_pos hc21).2]
            rfl
          have q7 : kE (cg_let u) (cg_rl u) (cg_ra u) = cg_ra u + 1 := by unfold kE; rw [hk9]; rfl
          have q8 : kB (cg_let u) (cg_rl u) (cg_ra u) = 1 := by unfold kB; rw [hk9]; rfl
          have q9 : kV (cg_let u) (cg_rl u) (cg_ra u) = 3 := by unfold kV; rw [hk9]; rfl
          rw [q7, q8, q9, pE_pos hc21]
          exact z_iret eX1_parseKind_29 rfl (by decide) ⟨_, rfl, _, _, rfl, rfl, fun _ => ⟨rfl, rfl⟩⟩
      · refine r_aload_n eX1_parseKind_24 rfl rfl ?_
        refine r_iload_n eX1_parseKind_25 rfl rfl ?_
        refine r_callVi1 eX1_parseKind_26 lX1_70 (Or.inl ⟨_, _, _, rfl, rfl, rfl⟩) (s1_keepNumber (t := t) (u := (cg_let u, cg_lc u, 12, cg_rl u, (pE (cg_let u) (cg_rl u) 115 (cg_ra u)), cg_rf u, cg_rn u, cg_rc u, cg_now u, cg_dra u, cg_kep u, cg_im u, cg_mp u, cg_mw u, cg_mu u, cg_mn u, cg_mi u, cg_mc u, cg_md u, cg_mo u, cg_ms u, cg_mq u, cg_se u, cg_sc u, cg_re u)) hrl hlet hrc (v := 2)) (by omega) (Nat.le_of_ble_eq_true rfl) (fun r1 h1 hq => ?_)
        obtain ⟨rfl, rfl⟩ := (show r1 = nI (1) ∧ h1 = hA t (cg_let u, cg_lc u, 12, cg_rl u, (pE (cg_let u) (cg_rl u) 115 (cg_ra u)), cg_rf u, (va_up (cg_rn u) (cg_rc u) 2), (cg_rc u + 1), cg_now u, cg_dra u, cg_kep u, cg_im u, cg_mp u, cg_mw u, cg_mu u, cg_mn u, cg_mi u, cg_mc u, cg_md u, cg_mo u, cg_ms u, cg_mq u, cg_se u, cg_sc u, cg_re u) from hq)
        have hk9 : kO (cg_let u) (cg_rl u) (cg_ra u) = some 2 := by
          unfold kO
          rw [if_pos (pB_pos hc21).1, (pB_pos hc21).2]
          rfl
        have q7 : kE (cg_let u) (cg_rl u) (cg_ra u) = cg_ra u + 1 := by unfold kE; rw [hk9]; rfl
        have q8 : kB (cg_let u) (cg_rl u) (cg_ra u) = 1 := by unfold kB; rw [hk9]; rfl
        have q9 : kV (cg_let u) (cg_rl u) (cg_ra u) = 2 := by unfold kV; rw [hk9]; rfl
        rw [q7, q8, q9, pE_pos hc21]
        exact z_iret eX1_parseKind_29 rfl (by decide) ⟨_, rfl, _, _, rfl, rfl, fun _ => ⟨rfl, rfl⟩⟩
    · refine r_aload_n eX1_parseKind_24 rfl rfl ?_
      refine r_iload_n eX1_parseKind_25 rfl rfl ?_
      refine r_callVi1 eX1_parseKind_26 lX1_70 (Or.inl ⟨_, _, _, rfl, rfl, rfl⟩) (s1_keepNumber (t := t) (u := (cg_let u, cg_lc u, 12, cg_rl u, (pE (cg_let u) (cg_rl u) 113 (cg_ra u)), cg_rf u, cg_rn u, cg_rc u, cg_now u, cg_dra u, cg_kep u, cg_im u, cg_mp u, cg_mw u, cg_mu u, cg_mn u, cg_mi u, cg_mc u, cg_md u, cg_mo u, cg_ms u, cg_mq u, cg_se u, cg_sc u, cg_re u)) hrl hlet hrc (v := 1)) (by omega) (Nat.le_of_ble_eq_true rfl) (fun r1 h1 hq => ?_)
      obtain ⟨rfl, rfl⟩ := (show r1 = nI (1) ∧ h1 = hA t (cg_let u, cg_lc u, 12, cg_rl u, (pE (cg_let u) (cg_rl u) 113 (cg_ra u)), cg_rf u, (va_up (cg_rn u) (cg_rc u) 1), (cg_rc u + 1), cg_now u, cg_dra u, cg_kep u, cg_im u, cg_mp u, cg_mw u, cg_mu u, cg_mn u, cg_mi u, cg_mc u, cg_md u, cg_mo u, cg_ms u, cg_mq u, cg_se u, cg_sc u, cg_re u) from hq)
      have hk9 : kO (cg_let u) (cg_rl u) (cg_ra u) = some 1 := by
        unfold kO
        rw [if_pos (pB_pos hc21).1, (pB_pos hc21).2]
        rfl
      have q7 : kE (cg_let u) (cg_rl u) (cg_ra u) = cg_ra u + 1 := by unfold kE; rw [hk9]; rfl
      have q8 : kB (cg_let u) (cg_rl u) (cg_ra u) = 1 := by unfold kB; rw [hk9]; rfl
      have q9 : kV (cg_let u) (cg_rl u) (cg_ra u) = 1 := by unfold kV; rw [hk9]; rfl
      rw [q7, q8, q9, pE_pos hc21]
      exact z_iret eX1_parseKind_29 rfl (by decide) ⟨_, rfl, _, _, rfl, rfl, fun _ => ⟨rfl, rfl⟩⟩
  · refine r_aload_n eX1_parseKind_24 rfl rfl ?_
    refine r_iload_n eX1_parseKind_25 rfl rfl ?_
    refine r_callVi1 eX1_parseKind_26 lX1_70 (Or.inl ⟨_, _, _, rfl, rfl, rfl⟩) (s1_keepNumber (t := t) (u := (cg_let u, cg_lc u, 12, cg_rl u, (pE (cg_let u) (cg_rl u) 112 (cg_ra u)), cg_rf u, cg_rn u, cg_rc u, cg_now u, cg_dra u, cg_kep u, cg_im u, cg_mp u, cg_mw u, cg_mu u, cg_mn u, cg_mi u, cg_mc u, cg_md u, cg_mo u, cg_ms u, cg_mq u, cg_se u, cg_sc u, cg_re u)) hrl hlet hrc (v := 0)) (by omega) (Nat.le_of_ble_eq_true rfl) (fun r1 h1 hq => ?_)
    obtain ⟨rfl, rfl⟩ := (show r1 = nI (1) ∧ h1 = hA t (cg_let u, cg_lc u, 12, cg_rl u, (pE (cg_let u) (cg_rl u) 112 (cg_ra u)), cg_rf u, (va_up (cg_rn u) (cg_rc u) 0), (cg_rc u + 1), cg_now u, cg_dra u, cg_kep u, cg_im u, cg_mp u, cg_mw u, cg_mu u, cg_mn u, cg_mi u, cg_mc u, cg_md u, cg_mo u, cg_ms u, cg_mq u, cg_se u, cg_sc u, cg_re u) from hq)
    have hk9 : kO (cg_let u) (cg_rl u) (cg_ra u) = some 0 := by
      unfold kO
      rw [if_pos (pB_pos hc21).1, (pB_pos hc21).2]
      rfl
    have q7 : kE (cg_let u) (cg_rl u) (cg_ra u) = cg_ra u + 1 := by unfold kE; rw [hk9]; rfl
    have q8 : kB (cg_let u) (cg_rl u) (cg_ra u) = 1 := by unfold kB; rw [hk9]; rfl
    have q9 : kV (cg_let u) (cg_rl u) (cg_ra u) = 0 := by unfold kV; rw [hk9]; rfl
    rw [q7, q8, q9, pE_pos hc21]
    exact z_iret eX1_parseKind_29 rfl (by decide) ⟨_, rfl, _, _, rfl, rfl, fun _ => ⟨rfl, rfl⟩⟩
def zTn (c : Nat) (x : zN5) (L : Nat → Nat) : Prop := (c = 112 → L 0 = x.1 ∧ L 1 = x.2.1 ∧ L 2 = x.2.2.1 ∧ L 3 = x.2.2.2.1 ∧ L 4 = x.2.2.2.2) ∧ (c = 107 → L 0 = x.1 ∧ L 1 = x.2.1) ∧ (c = 119 ∨ c = 115 → L 0 = x.1)
set_option maxHeartbeats 1000000 in
set_option maxRecDepth 100000 in
theorem s1_pst_112 {t : zMod} {u : zCls} (hrl : cg_rl u ≤ 80) (hlet : ∀ i, cg_let u i ≤ 255) (ha : cg_ra u < cg_rl u) (hc : cg_let u (cg_ra u) = 112) : Mi mX1_parseStatement 7 [.ref 13] (hA t (cg_let u, cg_lc u, 12, cg_rl u, cg_ra u, cg_rf u, cg_rn u, cg_rc u, cg_now u, cg_dra u, cg_kep u, cg_im u, cg_mp u, cg_mw u, cg_mu u, cg_mn u, cg_mi u, cg_mc u, cg_md u, cg_mo u, cg_ms u, cg_mq u, cg_se u, cg_sc u, cg_re u)) (fun r h' => ∃ (F' : Nat) (N' : Nat → Nat) (C' : Nat), r = nI ((pSt (cg_let u) (cg_rl u) (cg_ra u)).2.isSome.toNat) ∧ h' = hA t (cg_let u, cg_lc u, 12, cg_rl u, ((pSt (cg_let u) (cg_rl u) (cg_ra u)).1), F', N', C', cg_now u, cg_dra u, cg_kep u, cg_im u, cg_mp u, cg_mw u, cg_mu u, cg_mn u, cg_mi u, cg_mc u, cg_md u, cg_mo u, cg_ms u, cg_mq u, cg_se u, cg_sc u, cg_re u) ∧ ∀ x, (pSt (cg_let u) (cg_rl u) (cg_ra u)).2 = some x → F' = cg_let u (cg_ra u) ∧ zTn (cg_let u (cg_ra u)) x N') := by
  have g0 : cg_ra u ≤ cg_ra u + 1 ∧ cg_ra u + 1 ≤ cg_rl u := ⟨by omega, ha⟩
  have hl9 := hlet (cg_ra u)
  refine Mi.of (by decide) rfl (Nat.le_of_ble_eq_true rfl) ?_
  refine r_aload_n eX1_parseStatement_0 rfl rfl ?_
  refine r_getf (v := .int (nI (cg_ra u))) eX1_parseStatement_1 fX1_32 rfl rfl ?_
  refine r_aload_n eX1_parseStatement_4 rfl rfl ?_
  refine r_getf (v := .int (nI (cg_rl u))) eX1_parseStatement_5 fX1_24 rfl rfl ?_
  refine n_icmp_ge eX1_parseStatement_8 (by omega) (by omega) (fun hc8 => absurd hc8 (by omega)) (fun hc8 => ?_)
  refine r_aload_n eX1_parseStatement_11 rfl rfl ?_
  refine r_getf (v := .int (nI (cg_ra u))) eX1_parseStatement_12 fX1_32 rfl rfl ?_
  refine r_aload_n eX1_parseStatement_15 rfl rfl ?_
  refine r_getf (v := .ref 12) eX1_parseStatement_16 fX1_9 rfl rfl ?_
  refine r_alen eX1_parseStatement_19 rfl ?_
  refine n_icmp_lt eX1_parseStatement_20 (by omega) (by omega) (fun hc20 => ?_) (fun hc20 => absurd hc20 (by omega))
  refine r_aload_n eX1_parseStatement_25 rfl rfl ?_
  refine r_aload_n eX1_parseStatement_26 rfl rfl ?_
  refine r_getf (v := .ref 12) eX1_parseStatement_27 fX1_9 rfl rfl ?_
  refine r_aload_n eX1_parseStatement_30 rfl rfl ?_
  refine r_getf (v := .int (nI (cg_ra u))) eX1_parseStatement_31 fX1_32 rfl rfl ?_
  refine n_iald (f := cg_let u) (j := cg_ra u) eX1_parseStatement_34 rfl rfl (by omega) (by decide) ?_
  refine cp_rf (v := (cg_let u) (cg_ra u)) eX1_parseStatement_35 fX1_42 rfl ?_
  refine r_aload_n eX1_parseStatement_38 rfl rfl ?_
  refine n_iconst 0 eX1_parseStatement_39 rfl ?_
  refine cp_rc (v := 0) eX1_parseStatement_40 fX1_45 rfl ?_
  refine r_aload_n eX1_parseStatement_43 rfl rfl ?_
  refine r_getf (v := .int (nI ((cg_let u) (cg_ra u)))) eX1_parseStatement_44 fX1_42 rfl rfl ?_
  refine z_top (y := nI (112)) (congrArg nI hc) ?_
  refine r_tabIn (off := 65) (tgt := 112) eX1_parseStatement_47 (by decide) (by decide) (by decide) (by decide) ?_
  refine r_aload_n eX1_parseStatement_112 rfl rfl ?_
  refine r_dup eX1_parseStatement_113 rfl ?_
  refine r_getf (v := .int (nI (cg_ra u))) eX1_parseStatement_114 fX1_32 rfl rfl ?_
  refine n_iconst 1 eX1_parseStatement_117 rfl ?_
  refine n_add eX1_parseStatement_118 ?_
  refine cp_ra (v := (cg_ra u) + 1) eX1_parseStatement_119 fX1_32 rfl ?_
  refine r_aload_n eX1_parseStatement_122 rfl rfl ?_
  refine r_callVi0 eX1_parseStatement_123 lX1_48 (Or.inl ⟨_, _, _, rfl, rfl, rfl⟩) (s1_parseKind (t := t) (u := (cg_let u, cg_lc u, 12, cg_rl u, (cg_ra u) + 1, (cg_let u) (cg_ra u), cg_rn u, 0, cg_now u, cg_dra u, cg_kep u, cg_im u, cg_mp u, cg_mw u, cg_mu u, cg_mn u, cg_mi u, cg_mc u, cg_md u, cg_mo u, cg_ms u, cg_mq u, cg_se u, cg_sc u, cg_re u)) hrl hlet g0.2 (show 0 < 5 by decide)) (by omega) (Nat.le_of_ble_eq_true rfl) (fun r1 h1 hq => ?_)
  obtain ⟨N123, C123, hh, hr, hn123⟩ := hq
  obtain rfl := (show h1 = hA t (cg_let u, cg_lc u, 12, cg_rl u, (kE (cg_let u) (cg_rl u) ((cg_ra u) + 1)), (cg_let u) (cg_ra u), N123, C123, cg_now u, cg_dra u, cg_kep u, cg_im u, cg_mp u, cg_mw u, cg_mu u, cg_mn u, cg_mi u, cg_mc u, cg_md u, cg_mo u, cg_ms u, cg_mq u, cg_se u, cg_sc u, cg_re u) from hh)
  obtain rfl := (show r1 = nI (kB (cg_let u) (cg_rl u) ((cg_ra u) + 1)) from hr)
  have hn123 : 0 < kB (cg_let u) (cg_rl u) ((cg_ra u) + 1) → N123 = va_up (cg_rn u) 0 (kV (cg_let u) (cg_rl u) ((cg_ra u) + 1)) ∧ C123 = 0 + 1 := hn123
  have g123 := kE_ok (f := (cg_let u)) g0.2
  have hlt123 := kB_lt2 (cg_let u) (cg_rl u) ((cg_ra u) + 1)
  refine n_if_eq eX1_parseStatement_126 (by omega) (fun hc126 => ?_) (fun hc126 => ?_)
  · refine n_iconst 0 eX1_parseStatement_201 rfl ?_
    have hp : (pSt (cg_let u) (cg_rl u) (cg_ra u)) = ((kE (cg_let u) (cg_rl u) ((cg_ra u) + 1)), none) := by
      unfold pSt
      rw [if_pos ha, if_pos hc]
      exact pK_n hc126
    exact z_iret eX1_parseStatement_202 rfl (by decide) ⟨_, rfl, (cg_let u (cg_ra u)), N123, C123, by rw [hp]; first | done | rfl, by rw [hp], (fun x hx => by rw [hp] at hx; cases hx)⟩
  · obtain ⟨ea, eb⟩ := hn123 hc126
    subst ea
    subst eb
    refine r_aload_n eX1_parseStatement_129 rfl rfl ?_
    refine n_iconst 2 eX1_parseStatement_130 rfl ?_
    refine r_callVi1 eX1_parseStatement_131 lX1_51 (Or.inl ⟨_, _, _, rfl, rfl, rfl⟩) (s1_parseNumber (t := t) (u := (cg_let u, cg_lc u, 12, cg_rl u, (kE (cg_let u) (cg_rl u) ((cg_ra u) + 1)), (cg_let u) (cg_ra u), (va_up (cg_rn u) 0 (kV (cg_let u) (cg_rl u) ((cg_ra u) + 1))), (0 + 1), cg_now u, cg_dra u, cg_kep u, cg_im u, cg_mp u, cg_mw u, cg_mu u, cg_mn u, cg_mi u, cg_mc u, cg_md u, cg_mo u, cg_ms u, cg_mq u, cg_se u, cg_sc u, cg_re u)) hrl hlet g123.2 (show (0 + 1) < 5 by decide) (m := 2) (by decide) (by decide)) (by omega) (Nat.le_of_ble_eq_true rfl) (fun r1 h1 hq => ?_)
    obtain ⟨N131, C131, hh, hr, hn131⟩ := hq
    obtain rfl := (show h1 = hA t (cg_let u, cg_lc u, 12, cg_rl u, (nE (cg_let u) (cg_rl u) 2 (kE (cg_let u) (cg_rl u) ((cg_ra u) + 1))), (cg_let u) (cg_ra u), N131, C131, cg_now u, cg_dra u, cg_kep u, cg_im u, cg_mp u, cg_mw u, cg_mu u, cg_mn u, cg_mi u, cg_mc u, cg_md u, cg_mo u, cg_ms u, cg_mq u, cg_se u, cg_sc u, cg_re u) from hh)
    obtain rfl := (show r1 = nI (nB (cg_let u) (cg_rl u) (kE (cg_let u) (cg_rl u) ((cg_ra u) + 1))) from hr)
    have hn131 : 0 < nB (cg_let u) (cg_rl u) (kE (cg_let u) (cg_rl u) ((cg_ra u) + 1)) → N131 = va_up (va_up (cg_rn u) 0 (kV (cg_let u) (cg_rl u) ((cg_ra u) + 1))) (0 + 1) (nV (cg_let u) (cg_rl u) 2 (kE (cg_let u) (cg_rl u) ((cg_ra u) + 1))) ∧ C131 = (0 + 1) + 1 := hn131
    have g131 := nE_ok (f := (cg_let u)) (k := 2) g123.2
    have hlt131 := nB_lt2 (cg_let u) (cg_rl u) (kE (cg_let u) (cg_rl u) ((cg_ra u) + 1))
    refine n_if_eq eX1_parseStatement_134 (by omega) (fun hc134 => ?_) (fun hc134 => ?_)
    · refine n_iconst 0 eX1_parseStatement_201 rfl ?_
      have hp : (pSt (cg_let u) (cg_rl u) (cg_ra u)) = ((nE (cg_let u) (cg_rl u) 2 (kE (cg_let u) (cg_rl u) ((cg_ra u) + 1))), none) := by
        unfold pSt
        rw [if_pos ha, if_pos hc]
        refine (pK_y hc126).trans ?_
        exact pN_n hc134
      exact z_iret eX1_parseStatement_202 rfl (by decide) ⟨_, rfl, (cg_let u (cg_ra u)), N131, C131, by rw [hp]; first | done | rfl, by rw [hp], (fun x hx => by rw [hp] at hx; cases hx)⟩
    · obtain ⟨ea, eb⟩ := hn131 hc134
      subst ea
      subst eb
      refine r_aload_n eX1_parseStatement_137 rfl rfl ?_
      refine n_bipush 44 eX1_parseStatement_138 rfl ?_
      refine r_callVi1 eX1_parseStatement_140 lX1_55 (Or.inl ⟨_, _, _, rfl, rfl, rfl⟩) (s1_parseSign (t := t) (u := (cg_let u, cg_lc u, 12, cg_rl u, (nE (cg_let u) (cg_rl u) 2 (kE (cg_let u) (cg_rl u) ((cg_ra u) + 1))), (cg_let u) (cg_ra u), (va_up (va_up (cg_rn u) 0 (kV (cg_let u) (cg_rl u) ((cg_ra u) + 1))) (0 + 1) (nV (cg_let u) (cg_rl u) 2 (kE (cg_let u) (cg_rl u) ((cg_ra u) + 1)))), ((0 + 1) + 1), cg_now u, cg_dra u, cg_kep u, cg_im u, cg_mp u, cg_mw u, cg_mu u, cg_mn u, cg_mi u, cg_mc u, cg_md u, cg_mo u, cg_ms u, cg_mq u, cg_se u, cg_sc u, cg_re u)) hrl hlet g131.2 (c := 44) (by decide)) (by omega) (Nat.le_of_ble_eq_true rfl) (fun r1 h1 hq => ?_)
      obtain ⟨rfl, rfl⟩ := (show r1 = nI (pB (cg_let u) (cg_rl u) 44 (nE (cg_let u) (cg_rl u) 2 (kE (cg_let u) (cg_rl u) ((cg_ra u) + 1)))) ∧ h1 = hA t (cg_let u, cg_lc u, 12, cg_rl u, (pE (cg_let u) (cg_rl u) 44 (nE (cg_let u) (cg_rl u) 2 (kE (cg_let u) (cg_rl u) ((cg_ra u) + 1)))), (cg_let u) (cg_ra u), (va_up (va_up (cg_rn u) 0 (kV (cg_let u) (cg_rl u) ((cg_ra u) + 1))) (0 + 1) (nV (cg_let u) (cg_rl u) 2 (kE (cg_let u) (cg_rl u) ((cg_ra u) + 1)))), ((0 + 1) + 1), cg_now u, cg_dra u, cg_kep u, cg_im u, cg_mp u, cg_mw u, cg_mu u, cg_mn u, cg_mi u, cg_mc u, cg_md u, cg_mo u, cg_ms u, cg_mq u, cg_se u, cg_sc u, cg_re u) from hq)
      have g140 := pE_ok (f := (cg_let u)) (c := 44) g131.2
      have hlt140 := pB_lt2 (cg_let u) (cg_rl u) 44 (nE (cg_let u) (cg_rl u) 2 (kE (cg_let u) (cg_rl u) ((cg_ra u) + 1)))
      refine n_if_eq eX1_parseStatement_143 (by omega) (fun hc143 => ?_) (fun hc143 => ?_)
      · refine n_iconst 0 eX1_parseStatement_201 rfl ?_
        have hp : (pSt (cg_let u) (cg_rl u) (cg_ra u)) = ((pE (cg_let u) (cg_rl u) 44 (nE (cg_let u) (cg_rl u) 2 (kE (cg_let u) (cg_rl u) ((cg_ra u) + 1)))), none) := by
          unfold pSt
          rw [if_pos ha, if_pos hc]
          refine (pK_y hc126).trans ?_
          refine (pN_y hc134).trans ?_
          exact pS_n hc143
        exact z_iret eX1_parseStatement_202 rfl (by decide) ⟨_, rfl, (cg_let u (cg_ra u)), (va_up (va_up (cg_rn u) 0 (kV (cg_let u) (cg_rl u) ((cg_ra u) + 1))) (0 + 1) (nV (cg_let u) (cg_rl u) 2 (kE (cg_let u) (cg_rl u) ((cg_ra u) + 1)))), ((0 + 1) + 1), by rw [hp]; first | done | rfl, by rw [hp], (fun x hx => by rw [hp] at hx; cases hx)⟩
      · refine r_aload_n eX1_parseStatement_146 rfl rfl ?_
        refine n_iconst 1 eX1_parseStatement_147 rfl ?_
        refine r_callVi1 eX1_parseStatement_148 lX1_51 (Or.inl ⟨_, _, _, rfl, rfl, rfl⟩) (s1_parseNumber (t := t) (u := (cg_let u, cg_lc u, 12, cg_rl u, (pE (cg_let u) (cg_rl u) 44 (nE (cg_let u) (cg_rl u) 2 (kE (cg_let u) (cg_rl u) ((cg_ra u) + 1)))), (cg_let u) (cg_ra u), (va_up (va_up (cg_rn u) 0 (kV (cg_let u) (cg_rl u) ((cg_ra u) + 1))) (0 + 1) (nV (cg_let u) (cg_rl u) 2 (kE (cg_let u) (cg_rl u) ((cg_ra u) + 1)))), ((0 + 1) + 1), cg_now u, cg_dra u, cg_kep u, cg_im u, cg_mp u, cg_mw u, cg_mu u, cg_mn u, cg_mi u, cg_mc u, cg_md u, cg_mo u, cg_ms u, cg_mq u, cg_se u, cg_sc u, cg_re u)) hrl hlet g140.2 (show ((0 + 1) + 1) < 5 by decide) (m := 1) (by decide) (by decide)) (by omega) (Nat.le_of_ble_eq_true rfl) (fun r1 h1 hq => ?_)
        obtain ⟨N148, C148, hh, hr, hn148⟩ := hq
        obtain rfl := (show h1 = hA t (cg_let u, cg_lc u, 12, cg_rl u, (nE (cg_let u) (cg_rl u) 1 (pE (cg_let u) (cg_rl u) 44 (nE (cg_let u) (cg_rl u) 2 (kE (cg_let u) (cg_rl u) ((cg_ra u) + 1))))), (cg_let u) (cg_ra u), N148, C148, cg_now u, cg_dra u, cg_kep u, cg_im u, cg_mp u, cg_mw u, cg_mu u, cg_mn u, cg_mi u, cg_mc u, cg_md u, cg_mo u, cg_ms u, cg_mq u, cg_se u, cg_sc u, cg_re u) from hh)
        obtain rfl := (show r1 = nI (nB (cg_let u) (cg_rl u) (pE (cg_let u) (cg_rl u) 44 (nE (cg_let u) (cg_rl u) 2 (kE (cg_let u) (cg_rl u) ((cg_ra u) + 1))))) from hr)
        have hn148 : 0 < nB (cg_let u) (cg_rl u) (pE (cg_let u) (cg_rl u) 44 (nE (cg_let u) (cg_rl u) 2 (kE (cg_let u) (cg_rl u) ((cg_ra u) + 1)))) → N148 = va_up (va_up (va_up (cg_rn u) 0 (kV (cg_let u) (cg_rl u) ((cg_ra u) + 1))) (0 + 1) (nV (cg_let u) (cg_rl u) 2 (kE (cg_let u) (cg_rl u) ((cg_ra u) + 1)))) ((0 + 1) + 1) (nV (cg_let u) (cg_rl u) 1 (pE (cg_let u) (cg_rl u) 44 (nE (cg_let u) (cg_rl u) 2 (kE (cg_let u) (cg_rl u) ((cg_ra u) + 1))))) ∧ C148 = ((0 + 1) + 1) + 1 := hn148
        have g148 := nE_ok (f := (cg_let u)) (k := 1) g140.2
        have hlt148 := nB_lt2 (cg_let u) (cg_rl u) (pE (cg_let u) (cg_rl u) 44 (nE (cg_let u) (cg_rl u) 2 (kE (cg_let u) (cg_rl u) ((cg_ra u) + 1))))
        refine n_if_eq eX1_parseStatement_151 (by omega) (fun hc151 => ?_) (fun hc151 => ?_)
        · refine n_iconst 0 eX1_parseStatement_201 rfl ?_
          have hp : (pSt (cg_let u) (cg_rl u) (cg_ra u)) = ((nE (cg_let u) (cg_rl u) 1 (pE (cg_let u) (cg_rl u) 44 (nE (cg_let u) (cg_rl u) 2 (kE (cg_let u) (cg_rl u) ((cg_ra u) + 1))))), none) := by
            unfold pSt
            rw [if_pos ha, if_pos hc]
            refine (pK_y hc126).trans ?_
            refine (pN_y hc134).trans ?_
            refine (pS_y hc143).trans ?_
            exact pN_n hc151
          exact z_iret eX1_parseStatement_202 rfl (by decide) ⟨_, rfl, (cg_let u (cg_ra u)), N148, C148, by rw [hp]; first | done | rfl, by rw [hp], (fun x hx => by rw [hp] at hx; cases hx)⟩
        · obtain ⟨ea, eb⟩ := hn148 hc151
          subst ea
          subst eb
          refine r_aload_n eX1_parseStatement_154 rfl rfl ?_
          refine n_bipush 44 eX1_parseStatement_155 rfl ?_
          refine r_callVi1 eX1_parseStatement_157 lX1_55 (Or.inl ⟨_, _, _, rfl, rfl, rfl⟩) (s1_parseSign (t := t) (u := (cg_let u, cg_lc u, 12, cg_rl u, (nE (cg_let u) (cg_rl u) 1 (pE (cg_let u) (cg_rl u) 44 (nE (cg_let u) (cg_rl u) 2 (kE (cg_let u) (cg_rl u) ((cg_ra u) + 1))))), (cg_let u) (cg_ra u), (va_up (va_up (va_up (cg_rn u) 0 (kV (cg_let u) (cg_rl u) ((cg_ra u) + 1))) (0 + 1) (nV (cg_let u) (cg_rl u) 2 (kE (cg_let u) (cg_rl u) ((cg_ra u) + 1)))) ((0 + 1) + 1) (nV (cg_let u) (cg_rl u) 1 (pE (cg_let u) (cg_rl u) 44 (nE (cg_let u) (cg_rl u) 2 (kE (cg_let u) (cg_rl u) ((cg_ra u) + 1)))))), (((0 + 1) + 1) + 1), cg_now u, cg_dra u, cg_kep u, cg_im u, cg_mp u, cg_mw u, cg_mu u, cg_mn u, cg_mi u, cg_mc u, cg_md u, cg_mo u, cg_ms u, cg_mq u, cg_se u, cg_sc u, cg_re u)) hrl hlet g148.2 (c := 44) (by decide)) (by omega) (Nat.le_of_ble_eq_true rfl) (fun r1 h1 hq => ?_)
          obtain ⟨rfl, rfl⟩ := (show r1 = nI (pB (cg_let u) (cg_rl u) 44 (nE (cg_let u) (cg_rl u) 1 (pE (cg_let u) (cg_rl u) 44 (nE (cg_let u) (cg_rl u) 2 (kE (cg_let u) (cg_rl u) ((cg_ra u) + 1)))))) ∧ h1 = hA t (cg_let u, cg_lc u, 12, cg_rl u, (pE (cg_let u) (cg_rl u) 44 (nE (cg_let u) (cg_rl u) 1 (pE (cg_let u) (cg_rl u) 44 (nE (cg_let u) (cg_rl u) 2 (kE (cg_let u) (cg_rl u) ((cg_ra u) + 1)))))), (cg_let u) (cg_ra u), (va_up (va_up (va_up (cg_rn u) 0 (kV (cg_let u) (cg_rl u) ((cg_ra u) + 1))) (0 + 1) (nV (cg_let u) (cg_rl u) 2 (kE (cg_let u) (cg_rl u) ((cg_ra u) + 1)))) ((0 + 1) + 1) (nV (cg_let u) (cg_rl u) 1 (pE (cg_let u) (cg_rl u) 44 (nE (cg_let u) (cg_rl u) 2 (kE (cg_let u) (cg_rl u) ((cg_ra u) + 1)))))), (((0 + 1) + 1) + 1), cg_now u, cg_dra u, cg_kep u, cg_im u, cg_mp u, cg_mw u, cg_mu u, cg_mn u, cg_mi u, cg_mc u, cg_md u, cg_mo u, cg_ms u, cg_mq u, cg_se u, cg_sc u, cg_re u) from hq)
          have g157 := pE_ok (f := (cg_let u)) (c := 44) g148.2
          have hlt157 := pB_lt2 (cg_let u) (cg_rl u) 44 (nE (cg_let u) (cg_rl u) 1 (pE (cg_let u) (cg_rl u) 44 (nE (cg_let u) (cg_rl u) 2 (kE (cg_let u) (cg_rl u) ((cg_ra u) + 1)))))
          refine n_if_eq eX1_parseStatement_160 (by omega) (fun hc160 => ?_) (fun hc160 => ?_)
          · refine n_iconst 0 eX1_parseStatement_201 rfl ?_
            have hp : (pSt (cg_let u) (cg_rl u) (cg_ra u)) = ((pE (cg_let u) (cg_rl u) 44 (nE (cg_let u) (cg_rl u) 1 (pE (cg_let u) (cg_rl u) 44 (nE (cg_let u) (cg_rl u) 2 (kE (cg_let u) (cg_rl u) ((cg_ra u) + 1)))))), none) := by
              unfold pSt
              rw [if_pos ha, if_pos hc]
              refine (pK_y hc126).trans ?_
              refine (pN_y hc134).trans ?_
              refine (pS_y hc143).trans ?_
              refine (pN_y hc151).trans ?_
              exact pS_n hc160
            exact z_iret eX1_parseStatement_202 rfl (by decide) ⟨_, rfl, (cg_let u (cg_ra u)), (va_up (va_up (va_up (cg_rn u) 0 (kV (cg_let u) (cg_rl u) ((cg_ra u) + 1))) (0 + 1) (nV (cg_let u) (cg_rl u) 2 (kE (cg_let u) (cg_rl u) ((cg_ra u) + 1)))) ((0 + 1) + 1) (nV (cg_let u) (cg_rl u) 1 (pE (cg_let u) (cg_rl u) 44 (nE (cg_let u) (cg_rl u) 2 (kE (cg_let u) (cg_rl u) ((cg_ra u) + 1)))))), (((0 + 1) + 1) + 1), by rw [hp]; first | done | rfl, by rw [hp], (fun x hx => by rw [hp] at hx; cases hx)⟩
          · refine r_aload_n eX1_parseStatement_163 rfl rfl ?_
            refine n_iconst 3 eX1_parseStatement_164 rfl ?_
            refine r_callVi1 eX1_parseStatement_165 lX1_51 (Or.inl ⟨_, _, _, rfl, rfl, rfl⟩) (s1_parseNumber (t := t) (u := (cg_let u, cg_lc u, 12, cg_rl u, (pE (cg_let u) (cg_rl u) 44 (nE (cg_let u) (cg_rl u) 1 (pE (cg_let u) (cg_rl u) 44 (nE (cg_let u) (cg_rl u) 2 (kE (cg_let u) (cg_rl u) ((cg_ra u) + 1)))))), (cg_let u) (cg_ra u), (va_up (va_up (va_up (cg_rn u) 0 (kV (cg_let u) (cg_rl u) ((cg_ra u) + 1))) (0 + 1) (nV (cg_let u) (cg_rl u) 2 (kE (cg_let u) (cg_rl u) ((cg_ra u) + 1)))) ((0 + 1) + 1) (nV (cg_let u) (cg_rl u) 1 (pE (cg_let u) (cg_rl u) 44 (nE (cg_let u) (cg_rl u) 2 (kE (cg_let u) (cg_rl u) ((cg_ra u) + 1)))))), (((0 + 1) + 1) + 1), cg_now u, cg_dra u, cg_kep u, cg_im u, cg_mp u, cg_mw u, cg_mu u, cg_mn u, cg_mi u, cg_mc u, cg_md u, cg_mo u, cg_ms u, cg_mq u, cg_se u, cg_sc u, cg_re u)) hrl hlet g157.2 (show (((0 + 1) + 1) + 1) < 5 by decide) (m := 3) (by decide) (by decide)) (by omega) (Nat.le_of_ble_eq_true rfl) (fun r1 h1 hq => ?_)
            obtain ⟨N165, C165, hh, hr, hn165⟩ := hq
            obtain rfl := (show h1 = hA t (cg_let u, cg_lc u, 12, cg_rl u, (nE (cg_let u) (cg_rl u) 3 (pE (cg_let u) (cg_rl u) 44 (nE (cg_let u) (cg_rl u) 1 (pE (cg_let u) (cg_rl u) 44 (nE (cg_let u) (cg_rl u) 2 (kE (cg_let u) (cg_rl u) ((cg_ra u) + 1))))))), (cg_let u) (cg_ra u), N165, C165, cg_now u, cg_dra u, cg_kep u, cg_im u, cg_mp u, cg_mw u, cg_mu u, cg_mn u, cg_mi u, cg_mc u, cg_md u, cg_mo u, cg_ms u, cg_mq u, cg_se u, cg_sc u, cg_re u) from hh)
            obtain rfl := (show r1 = nI (nB (cg_let u) (cg_rl u) (pE (cg_let u) (cg_rl u) 44 (nE (cg_let u) (cg_rl u) 1 (pE (cg_let u) (cg_rl u) 44 (nE (cg_let u) (cg_rl u) 2 (kE (cg_let u) (cg_rl u) ((cg_ra u) + 1))))))) from hr)
            have hn165 : 0 < nB (cg_let u) (cg_rl u) (pE (cg_let u) (cg_rl u) 44 (nE (cg_let u) (cg_rl u) 1 (pE (cg_let u) (cg_rl u) 44 (nE (cg_let u) (cg_rl u) 2 (kE (cg_let u) (cg_rl u) ((cg_ra u) + 1)))))) → N165 = va_up (va_up (va_up (va_up (cg_rn u) 0 (kV (cg_let u) (cg_rl u) ((cg_ra u) + 1))) (0 + 1) (nV (cg_let u) (cg_rl u) 2 (kE (cg_let u) (cg_rl u) ((cg_ra u) + 1)))) ((0 + 1) + 1) (nV (cg_let u) (cg_rl u) 1 (pE (cg_let u) (cg_rl u) 44 (nE (cg_let u) (cg_rl u) 2 (kE (cg_let u) (cg_rl u) ((cg_ra u) + 1)))))) (((0 + 1) + 1) + 1) (nV (cg_let u) (cg_rl u) 3 (pE (cg_let u) (cg_rl u) 44 (nE (cg_let u) (cg_rl u) 1 (pE (cg_let u) (cg_rl u) 44 (nE (cg_let u) (cg_rl u) 2 (kE (cg_let u) (cg_rl u) ((cg_ra u) + 1))))))) ∧ C165 = (((0 + 1) + 1) + 1) + 1 := hn165
            have g165 := nE_ok (f := (cg_let u)) (k := 3) g157.2
            have hlt165 := nB_lt2 (cg_let u) (cg_rl u) (pE (cg_let u) (cg_rl u) 44 (nE (cg_let u) (cg_rl u) 1 (pE (cg_let u) (cg_rl u) 44 (nE (cg_let u) (cg_rl u) 2 (kE (cg_let u) (cg_rl u) ((cg_ra u) + 1))))))
            refine n_if_eq eX1_parseStatement_168 (by omega) (fun hc168 => ?_) (fun hc168 => ?_)
            · refine n_iconst 0 eX1_parseStatement_201 rfl ?_
              have hp : (pSt (cg_let u) (cg_rl u) (cg_ra u)) = ((nE (cg_let u) (cg_rl u) 3 (pE (cg_let u) (cg_rl u) 44 (nE (cg_let u) (cg_rl u) 1 (pE (cg_let u) (cg_rl u) 44 (nE (cg_let u) (cg_rl u) 2 (kE (cg_let u) (cg_rl u) ((cg_ra u) + 1))))))), none) := by
                unfold pSt
                rw [if_pos ha, if_pos hc]
                refine (pK_y hc126).trans ?_
                refine (pN_y hc134).trans ?_
                refine (pS_y hc143).trans ?_
                refine (pN_y hc151).trans ?_
                refine (pS_y hc160).trans ?_
                exact pN_n hc168
              exact z_iret eX1_parseStatement_202 rfl (by decide) ⟨_, rfl, (cg_let u (cg_ra u)), N165, C165, by rw [hp]; first | done | rfl, by rw [hp], (fun x hx => by rw [hp] at hx; cases hx)⟩
            · obtain ⟨ea, eb⟩ := hn165 hc168
              subst ea
              subst eb
              refine r_aload_n eX1_parseStatement_171 rfl rfl ?_
              refine n_bipush 44 eX1_parseStatement_172 rfl ?_
              refine r_callVi1 eX1_parseStatement_174 lX1_55 (Or.inl ⟨_, _, _, rfl, rfl, rfl⟩) (s1_parseSign (t := t) (u := (cg_let u, cg_lc u, 12, cg_rl u, (nE (cg_let u) (cg_rl u) 3 (pE (cg_let u) (cg_rl u) 44 (nE (cg_let u) (cg_rl u) 1 (pE (cg_let u) (cg_rl u) 44 (nE (cg_let u) (cg_rl u) 2 (kE (cg_let u) (cg_rl u) ((cg_ra u) + 1))))))), (cg_let u) (cg_ra u), (va_up (va_up (va_up (va_up (cg_rn u) 0 (kV (cg_let u) (cg_rl u) ((cg_ra u) + 1))) (0 + 1) (nV (cg_let u) (cg_rl u) 2 (kE (cg_let u) (cg_rl u) ((cg_ra u) + 1)))) ((0 + 1) + 1) (nV (cg_let u) (cg_rl u) 1 (pE (cg_let u) (cg_rl u) 44 (nE (cg_let u) (cg_rl u) 2 (kE (cg_let u) (cg_rl u) ((cg_ra u) + 1)))))) (((0 + 1) + 1) + 1) (nV (cg_let u) (cg_rl u) 3 (pE (cg_let u) (cg_rl u) 44 (nE (cg_let u) (cg_rl u) 1 (pE (cg_let u) (cg_rl u) 44 (nE (cg_let u) (cg_rl u) 2 (kE (cg_let u) (cg_rl u) ((cg_ra u) + 1)))))))), ((((0 + 1) + 1) + 1) + 1), cg_now u, cg_dra u, cg_kep u, cg_im u, cg_mp u, cg_mw u, cg_mu u, cg_mn u, cg_mi u, cg_mc u, cg_md u, cg_mo u, cg_ms u, cg_mq u, cg_se u, cg_sc u, cg_re u)) hrl hlet g165.2 (c := 44) (by decide)) (by omega) (Nat.le_of_ble_eq_true rfl) (fun r1 h1 hq => ?_)
              obtain ⟨rfl, rfl⟩ := (show r1 = nI (pB (cg_let u) (cg_rl u) 44 (nE (cg_let u) (cg_rl u) 3 (pE (cg_let u) (cg_rl u) 44 (nE (cg_let u) (cg_rl u) 1 (pE (cg_let u) (cg_rl u) 44 (nE (cg_let u) (cg_rl u) 2 (kE (cg_let u) (cg_rl u) ((cg_ra u) + 1)))))))) ∧ h1 = hA t (cg_let u, cg_lc u, 12, cg_rl u, (pE (cg_let u) (cg_rl u) 44 (nE (cg_let u) (cg_rl u) 3 (pE (cg_let u) (cg_rl u) 44 (nE (cg_let u) (cg_rl u) 1 (pE (cg_let u) (cg_rl u) 44 (nE (cg_let u) (cg_rl u) 2 (kE (cg_let u) (cg_rl u) ((cg_ra u) + 1)))))))), (cg_let u) (cg_ra u), (va_up (va_up (va_up (va_up (cg_rn u) 0 (kV (cg_let u) (cg_rl u) ((cg_ra u) + 1))) (0 + 1) (nV (cg_let u) (cg_rl u) 2 (kE (cg_let u) (cg_rl u) ((cg_ra u) + 1)))) ((0 + 1) + 1) (nV (cg_let u) (cg_rl u) 1 (pE (cg_let u) (cg_rl u) 44 (nE (cg_let u) (cg_rl u) 2 (kE (cg_let u) (cg_rl u) ((cg_ra u) + 1)))))) (((0 + 1) + 1) + 1) (nV (cg_let u) (cg_rl u) 3 (pE (cg_let u) (cg_rl u) 44 (nE (cg_let u) (cg_rl u) 1 (pE (cg_let u) (cg_rl u) 44 (nE (cg_let u) (cg_rl u) 2 (kE (cg_let u) (cg_rl u) ((cg_ra u) + 1)))))))), ((((0 + 1) + 1) + 1) + 1), cg_now u, cg_dra u, cg_kep u, cg_im u, cg_mp u, cg_mw u, cg_mu u, cg_mn u, cg_mi u, cg_mc u, cg_md u, cg_mo u, cg_ms u, cg_mq u, cg_se u, cg_sc u, cg_re u) from hq)
              have g174 := pE_ok (f := (cg_let u)) (c := 44) g165.2
              have hlt174 := pB_lt2 (cg_let u) (cg_rl u) 44 (nE (cg_let u) (cg_rl u) 3 (pE (cg_let u) (cg_rl u) 44 (nE (cg_let u) (cg_rl u) 1 (pE (cg_let u) (cg_rl u) 44 (nE (cg_let u) (cg_rl u) 2 (kE (cg_let u) (cg_rl u) ((cg_ra u) + 1)))))))
              refine n_if_eq eX1_parseStatement_177 (by omega) (fun hc177 => ?_) (fun hc177 => ?_)
              · refine n_iconst 0 eX1_parseStatement_201 rfl ?_
                have hp : (pSt (cg_let u) (cg_rl u) (cg_ra u)) = ((pE (cg_let u) (cg_rl u) 44 (nE (cg_let u) (cg_rl u) 3 (pE (cg_let u) (cg_rl u) 44 (nE (cg_let u) (cg_rl u) 1 (pE (cg_let u) (cg_rl u) 44 (nE (cg_let u) (cg_rl u) 2 (kE (cg_let u) (cg_rl u) ((cg_ra u) + 1)))))))), none) := by
                  unfold pSt
                  rw [if_pos ha, if_pos hc]
                  refine (pK_y hc126).trans ?_
                  refine (pN_y hc134).trans ?_
                  refine (pS_y hc143).trans ?_
                  refine (pN_y hc151).trans ?_
                  refine (pS_y hc160).trans ?_
                  refine (pN_y hc168).trans ?_
                  exact pS_n hc177
                exact z_iret eX1_parseStatement_202 rfl (by decide) ⟨_, rfl, (cg_let u (cg_ra u)), (va_up (va_up (va_up (va_up (cg_rn u) 0 (kV (cg_let u) (cg_rl u) ((cg_ra u) + 1))) (0 + 1) (nV (cg_let u) (cg_rl u) 2 (kE (cg_let u) (cg_rl u) ((cg_ra u) + 1)))) ((0 + 1) + 1) (nV (cg_let u) (cg_rl u) 1 (pE (cg_let u) (cg_rl u) 44 (nE (cg_let u) (cg_rl u) 2 (kE (cg_let u) (cg_rl u) ((cg_ra u) + 1)))))) (((0 + 1) + 1) + 1) (nV (cg_let u) (cg_rl u) 3 (pE (cg_let u) (cg_rl u) 44 (nE (cg_let u) (cg_rl u) 1 (pE (cg_let u) (cg_rl u) 44 (nE (cg_let u) (cg_rl u) 2 (kE (cg_let u) (cg_rl u) ((cg_ra u) + 1)))))))), ((((0 + 1) + 1) + 1) + 1), by rw [hp]; first | done | rfl, by rw [hp], (fun x hx => by rw [hp] at hx; cases hx)⟩
              · refine r_aload_n eX1_parseStatement_180 rfl rfl ?_
                refine n_iconst 1 eX1_parseStatement_181 rfl ?_
                refine r_callVi1 eX1_parseStatement_182 lX1_51 (Or.inl ⟨_, _, _, rfl, rfl, rfl⟩) (s1_parseNumber (t := t) (u := (cg_let u, cg_lc u, 12, cg_rl u, (pE (cg_let u) (cg_rl u) 44 (nE (cg_let u) (cg_rl u) 3 (pE (cg_let u) (cg_rl u) 44 (nE (cg_let u) (cg_rl u) 1 (pE (cg_let u) (cg_rl u) 44 (nE (cg_let u) (cg_rl u) 2 (kE (cg_let u) (cg_rl u) ((cg_ra u) + 1)))))))), (cg_let u) (cg_ra u), (va_up (va_up (va_up (va_up (cg_rn u) 0 (kV (cg_let u) (cg_rl u) ((cg_ra u) + 1))) (0 + 1) (nV (cg_let u) (cg_rl u) 2 (kE (cg_let u) (cg_rl u) ((cg_ra u) + 1)))) ((0 + 1) + 1) (nV (cg_let u) (cg_rl u) 1 (pE (cg_let u) (cg_rl u) 44 (nE (cg_let u) (cg_rl u) 2 (kE (cg_let u) (cg_rl u) ((cg_ra u) + 1)))))) (((0 + 1) + 1) + 1) (nV (cg_let u) (cg_rl u) 3 (pE (cg_let u) (cg_rl u) 44 (nE (cg_let u) (cg_rl u) 1 (pE (cg_let u) (cg_rl u) 44 (nE (cg_let u) (cg_rl u) 2 (kE (cg_let u) (cg_rl u) ((cg_ra u) + 1)))))))), ((((0 + 1) + 1) + 1) + 1), cg_now u, cg_dra u, cg_kep u, cg_im u, cg_mp u, cg_mw u, cg_mu u, cg_mn u, cg_mi u, cg_mc u, cg_md u, cg_mo u, cg_ms u, cg_mq u, cg_se u, cg_sc u, cg_re u)) hrl hlet g174.2 (show ((((0 + 1) + 1) + 1) + 1) < 5 by decide) (m := 1) (by decide) (by decide)) (by omega) (Nat.le_of_ble_eq_true rfl) (fun r1 h1 hq => ?_)
                obtain ⟨N182, C182, hh, hr, hn182⟩ := hq
                obtain rfl := (show h1 = hA t (cg_let u, cg_lc u, 12, cg_rl u, (nE (cg_let u) (cg_rl u) 1 (pE (cg_let u) (cg_rl u) 44 (nE (cg_let u) (cg_rl u) 3 (pE (cg_let u) (cg_rl u) 44 (nE (cg_let u) (cg_rl u) 1 (pE (cg_let u) (cg_rl u) 44 (nE (cg_let u) (cg_rl u) 2 (kE (cg_let u) (cg_rl u) ((cg_ra u) + 1))))))))), (cg_let u) (cg_ra u), N182, C182, cg_now u, cg_dra u, cg_kep u, cg_im u, cg_mp u, cg_mw u, cg_mu u, cg_mn u, cg_mi u, cg_mc u, cg_md u, cg_mo u, cg_ms u, cg_mq u, cg_se u, cg_sc u, cg_re u) from hh)
                obtain rfl := (show r1 = nI (nB (cg_let u) (cg_rl u) (pE (cg_let u) (cg_rl u) 44 (nE (cg_let u) (cg_rl u) 3 (pE (cg_let u) (cg_rl u) 44 (nE (cg_let u) (cg_rl u) 1 (pE (cg_let u) (cg_rl u) 44 (nE (cg_let u) (cg_rl u) 2 (kE (cg_let u) (cg_rl u) ((cg_ra u) + 1))))))))) from hr)
                have hn182 : 0 < nB (cg_let u) (cg_rl u) (pE (cg_let u) (cg_rl u) 44 (nE (cg_let u) (cg_rl u) 3 (pE (cg_let u) (cg_rl u) 44 (nE (cg_let u) (cg_rl u) 1 (pE (cg_let u) (cg_rl u) 44 (nE (cg_let u) (cg_rl u) 2 (kE (cg_let u) (cg_rl u) ((cg_ra u) + 1)))))))) → N182 = va_up (va_up (va_up (va_up (va_up (cg_rn u) 0 (kV (cg_let u) (cg_rl u) ((cg_ra u) + 1))) (0 + 1) (nV (cg_let u) (cg_rl u) 2 (kE (cg_let u) (cg_rl u) ((cg_ra u) + 1)))) ((0 + 1) + 1) (nV (cg_let u) (cg_rl u) 1 (pE (cg_let u) (cg_rl u) 44 (nE (cg_let u) (cg_rl u) 2 (kE (cg_let u) (cg_rl u) ((cg_ra u) + 1)))))) (((0 + 1) + 1) + 1) (nV (cg_let u) (cg_rl u) 3 (pE (cg_let u) (cg_rl u) 44 (nE (cg_let u) (cg_rl u) 1 (pE (cg_let u) (cg_rl u) 44 (nE (cg_let u) (cg_rl u) 2 (kE (cg_let u) (cg_rl u) ((cg_ra u) + 1)))))))) ((((0 + 1) + 1) + 1) + 1) (nV (cg_let u) (cg_rl u) 1 (pE (cg_let u) (cg_rl u) 44 (nE (cg_let u) (cg_rl u) 3 (pE (cg_let u) (cg_rl u) 44 (nE (cg_let u) (cg_rl u) 1 (pE (cg_let u) (cg_rl u) 44 (nE (cg_let u) (cg_rl u) 2 (kE (cg_let u) (cg_rl u) ((cg_ra u) + 1))))))))) ∧ C182 = ((((0 + 1) + 1) + 1) + 1) + 1 := hn182
                have g182 := nE_ok (f := (cg_let u)) (k := 1) g174.2
                have hlt182 := nB_lt2 (cg_let u) (cg_rl u) (pE (cg_let u) (cg_rl u) 44 (nE (cg_let u) (cg_rl u) 3 (pE (cg_let u) (cg_rl u) 44 (nE (cg_let u) (cg_rl u) 1 (pE (cg_let u) (cg_rl u) 44 (nE (cg_let u) (cg_rl u) 2 (kE (cg_let u) (cg_rl u) ((cg_ra u) + 1))))))))
                refine n_if_eq eX1_parseStatement_185 (by omega) (fun hc185 => ?_) (fun hc185 => ?_)
                · refine n_iconst 0 eX1_parseStatement_201 rfl ?_
                  have hp : (pSt (cg_let u) (cg_rl u) (cg_ra u)) = ((nE (cg_let u) (cg_rl u) 1 (pE (cg_let u) (cg_rl u) 44 (nE (cg_let u) (cg_rl u) 3 (pE (cg_let u) (cg_rl u) 44 (nE (cg_let u) (cg_rl u) 1 (pE (cg_let u) (cg_rl u) 44 (nE (cg_let u) (cg_rl u) 2 (kE (cg_let u) (cg_rl u) ((cg_ra u) + 1))))))))), none) := by
                    unfold pSt
                    rw [if_pos ha, if_pos hc]
                    refine (pK_y hc126).trans ?_
                    refine (pN_y hc134).trans ?_
                    refine (pS_y hc143).trans ?_
                    refine (pN_y hc151).trans ?_
                    refine (pS_y hc160).trans ?_
                    refine (pN_y hc168).trans ?_
                    refine (pS_y hc177).trans ?_
                    exact pN_n hc185
                  exact z_iret eX1_parseStatement_202 rfl (by decide) ⟨_, rfl, (cg_let u (cg_ra u)), N182, C182, by rw [hp]; first | done | rfl, by rw [hp], (fun x hx => by rw [hp] at hx; cases hx)⟩
                · obtain ⟨ea, eb⟩ := hn182 hc185
                  subst ea
                  subst eb
                  refine r_aload_n eX1_parseStatement_188 rfl rfl ?_
                  refine n_bipush 59 eX1_parseStatement_189 rfl ?_
                  refine r_callVi1 eX1_parseStatement_191 lX1_55 (Or.inl ⟨_, _, _, rfl, rfl, rfl⟩) (s1_parseSign (t := t) (u := (cg_let u, cg_lc u, 12, cg_rl u, (nE (cg_let u) (cg_rl u) 1 (pE (cg_let u) (cg_rl u) 44 (nE (cg_let u) (cg_rl u) 3 (pE (cg_let u) (cg_rl u) 44 (nE (cg_let u) (cg_rl u) 1 (pE (cg_let u) (cg_rl u) 44 (nE (cg_let u) (cg_rl u) 2 (kE (cg_let u) (cg_rl u) ((cg_ra u) + 1))))))))), (cg_let u) (cg_ra u), (va_up (va_up (va_up (va_up (va_up (cg_rn u) 0 (kV (cg_let u) (cg_rl u) ((cg_ra u) + 1))) (0 + 1) (nV (cg_let u) (cg_rl u) 2 (kE (cg_let u) (cg_rl u) ((cg_ra u) + 1)))) ((0 + 1) + 1) (nV (cg_let u) (cg_rl u) 1 (pE (cg_let u) (cg_rl u) 44 (nE (cg_let u) (cg_rl u) 2 (kE (cg_let u) (cg_rl u) ((cg_ra u) + 1)))))) (((0 + 1) + 1) + 1) (nV (cg_let u) (cg_rl u) 3 (pE (cg_let u) (cg_rl u) 44 (nE (cg_let u) (cg_rl u) 1 (pE (cg_let u) (cg_rl u) 44 (nE (cg_let u) (cg_rl u) 2 (kE (cg_let u) (cg_rl u) ((cg_ra u) + 1)))))))) ((((0 + 1) + 1) + 1) + 1) (nV (cg_let u) (cg_rl u) 1 (pE (cg_let u) (cg_rl u) 44 (nE (cg_let u) (cg_rl u) 3 (pE (cg_let u) (cg_rl u) 44 (nE (cg_let u) (cg_rl u) 1 (pE (cg_let u) (cg_rl u) 44 (nE (cg_let u) (cg_rl u) 2 (kE (cg_let u) (cg_rl u) ((cg_ra u) + 1)))))))))), (((((0 + 1) + 1) + 1) + 1) + 1), cg_now u, cg_dra u, cg_kep u, cg_im u, cg_mp u, cg_mw u, cg_mu u, cg_mn u, cg_mi u, cg_mc u, cg_md u, cg_mo u, cg_ms u, cg_mq u, cg_se u, cg_sc u, cg_re u)) hrl hlet g182.2 (c := 59) (by decide)) (by omega) (Nat.le_of_ble_eq_true rfl) (fun r1 h1 hq => ?_)
                  obtain ⟨rfl, rfl⟩ := (show r1 = nI (pB (cg_let u) (cg_rl u) 59 (nE (cg_let u) (cg_rl u) 1 (pE (cg_let u) (cg_rl u) 44 (nE (cg_let u) (cg_rl u) 3 (pE (cg_let u) (cg_rl u) 44 (nE (cg_let u) (cg_rl u) 1 (pE (cg_let u) (cg_rl u) 44 (nE (cg_let u) (cg_rl u) 2 (kE (cg_let u) (cg_rl u) ((cg_ra u) + 1)))))))))) ∧ h1 = hA t (cg_let u, cg_lc u, 12, cg_rl u, (pE (cg_let u) (cg_rl u) 59 (nE (cg_let u) (cg_rl u) 1 (pE (cg_let u) (cg_rl u) 44 (nE (cg_let u) (cg_rl u) 3 (pE (cg_let u) (cg_rl u) 44 (nE (cg_let u) (cg_rl u) 1 (pE (cg_let u) (cg_rl u) 44 (nE (cg_let u) (cg_rl u) 2 (kE (cg_let u) (cg_rl u) ((cg_ra u) + 1)))))))))), (cg_let u) (cg_ra u), (va_up (va_up (va_up (va_up (va_up (cg_rn u) 0 (kV (cg_let u) (cg_rl u) ((cg_ra u) + 1))) (0 + 1) (nV (cg_let u) (cg_rl u) 2 (kE (cg_let u) (cg_rl u) ((cg_ra u) + 1)))) ((0 + 1) + 1) (nV (cg_let u) (cg_rl u) 1 (pE (cg_let u) (cg_rl u) 44 (nE (cg_let u) (cg_rl u) 2 (kE (cg_let u) (cg_rl u) ((cg_ra u) + 1)))))) (((0 + 1) + 1) + 1) (nV (cg_let u) (cg_rl u) 3 (pE (cg_let u) (cg_rl u) 44 (nE (cg_let u) (cg_rl u) 1 (pE (cg_let u) (cg_rl u) 44 (nE (cg_let u) (cg_rl u) 2 (kE (cg_let u) (cg_rl u) ((cg_ra u) + 1)))))))) ((((0 + 1) + 1) + 1) + 1) (nV (cg_let u) (cg_rl u) 1 (pE (cg_let u) (cg_rl u) 44 (nE (cg_let u) (cg_rl u) 3 (pE (cg_let u) (cg_rl u) 44 (nE (cg_let u) (cg_rl u) 1 (pE (cg_let u) (cg_rl u) 44 (nE (cg_let u) (cg_rl u) 2 (kE (cg_let u) (cg_rl u) ((cg_ra u) + 1)))))))))), (((((0 + 1) + 1) + 1) + 1) + 1), cg_now u, cg_dra u, cg_kep u, cg_im u, cg_mp u, cg_mw u, cg_mu u, cg_mn u, cg_mi u, cg_mc u, cg_md u, cg_mo u, cg_ms u, cg_mq u, cg_se u, cg_sc u, cg_re u) from hq)
                  have g191 := pE_ok (f := (cg_let u)) (c := 59) g182.2
                  have hlt191 := pB_lt2 (cg_let u) (cg_rl u) 59 (nE (cg_let u) (cg_rl u) 1 (pE (cg_let u) (cg_rl u) 44 (nE (cg_let u) (cg_rl u) 3 (pE (cg_let u) (cg_rl u) 44 (nE (cg_let u) (cg_rl u) 1 (pE (cg_let u) (cg_rl u) 44 (nE (cg_let u) (cg_rl u) 2 (kE (cg_let u) (cg_rl u) ((cg_ra u) + 1)))))))))
                  refine n_if_eq eX1_parseStatement_194 (by omega) (fun hc194 => ?_) (fun hc194 => ?_)
                  · refine n_iconst 0 eX1_parseStatement_201 rfl ?_
                    have hp : (pSt (cg_let u) (cg_rl u) (cg_ra u)) = ((pE (cg_let u) (cg_rl u) 59 (nE (cg_let u) (cg_rl u) 1 (pE (cg_let u) (cg_rl u) 44 (nE (cg_let u) (cg_rl u) 3 (pE (cg_let u) (cg_rl u) 44 (nE (cg_let u) (cg_rl u) 1 (pE (cg_let u) (cg_rl u) 44 (nE (cg_let u) (cg_rl u) 2 (kE (cg_let u) (cg_rl u) ((cg_ra u) + 1)))))))))), none) := by
                      unfold pSt
                      rw [if_pos ha, if_pos hc]
                      refine (pK_y hc126).trans ?_
                      refine (pN_y hc134).trans ?_
                      refine (pS_y hc143).trans ?_
                      refine (pN_y hc151).trans ?_
                      refine (pS_y hc160).trans ?_
                      refine (pN_y hc168).trans ?_
                      refine (pS_y hc177).trans ?_
                      refine (pN_y hc185).trans ?_
                      exact pS_n hc194
                    exact z_iret eX1_parseStatement_202 rfl (by decide) ⟨_, rfl, (cg_let u (cg_ra u)), (va_up (va_up (va_up (va_up (va_up (cg_rn u) 0 (kV (cg_let u) (cg_rl u) ((cg_ra u) + 1))) (0 + 1) (nV (cg_let u) (cg_rl u) 2 (kE (cg_let u) (cg_rl u) ((cg_ra u) + 1)))) ((0 + 1) + 1) (nV (cg_let u) (cg_rl u) 1 (pE (cg_let u) (cg_rl u) 44 (nE (cg_let u) (cg_rl u) 2 (kE (cg_let u) (cg_rl u) ((cg_ra u) + 1)))))) (((0 + 1) + 1) + 1) (nV (cg_let u) (cg_rl u) 3 (pE (cg_let u) (cg_rl u) 44 (nE (cg_let u) (cg_rl u) 1 (pE (cg_let u) (cg_rl u) 44 (nE (cg_let u) (cg_rl u) 2 (kE (cg_let u) (cg_rl u) ((cg_ra u) + 1)))))))) ((((0 + 1) + 1) + 1) + 1) (nV (cg_let u) (cg_rl u) 1 (pE (cg_let u) (cg_rl u) 44 (nE (cg_let u) (cg_rl u) 3 (pE (cg_let u) (cg_rl u) 44 (nE (cg_let u) (cg_rl u) 1 (pE (cg_let u) (cg_rl u) 44 (nE (cg_let u) (cg_rl u) 2 (kE (cg_let u) (cg_rl u) ((cg_ra u) + 1)))))))))), (((((0 + 1) + 1) + 1) + 1) + 1), by rw [hp]; first | done | rfl, by rw [hp], (fun x hx => by rw [hp] at hx; cases hx)⟩
                  · refine n_iconst 1 eX1_parseStatement_197 rfl ?_
                    refine r_goto eX1_parseStatement_198 ?_
                    have hp : (pSt (cg_let u) (cg_rl u) (cg_ra u)) = ((pE (cg_let u) (cg_rl u) 59 (nE (cg_let u) (cg_rl u) 1 (pE (cg_let u) (cg_rl u) 44 (nE (cg_let u) (cg_rl u) 3 (pE (cg_let u) (cg_rl u) 44 (nE (cg_let u) (cg_rl u) 1 (pE (cg_let u) (cg_rl u) 44 (nE (cg_let u) (cg_rl u) 2 (kE (cg_let u) (cg_rl u) ((cg_ra u) + 1)))))))))), some ((kV (cg_let u) (cg_rl u) ((cg_ra u) + 1)), (nV (cg_let u) (cg_rl u) 2 (kE (cg_let u) (cg_rl u) ((cg_ra u) + 1))), (nV (cg_let u) (cg_rl u) 1 (pE (cg_let u) (cg_rl u) 44 (nE (cg_let u) (cg_rl u) 2 (kE (cg_let u) (cg_rl u) ((cg_ra u) + 1))))), (nV (cg_let u) (cg_rl u) 3 (pE (cg_let u) (cg_rl u) 44 (nE (cg_let u) (cg_rl u) 1 (pE (cg_let u) (cg_rl u) 44 (nE (cg_let u) (cg_rl u) 2 (kE (cg_let u) (cg_rl u) ((cg_ra u) + 1))))))), (nV (cg_let u) (cg_rl u) 1 (pE (cg_let u) (cg_rl u) 44 (nE (cg_let u) (cg_rl u) 3 (pE (cg_let u) (cg_rl u) 44 (nE (cg_let u) (cg_rl u) 1 (pE (cg_let u) (cg_rl u) 44 (nE (cg_let u) (cg_rl u) 2 (kE (cg_let u) (cg_rl u) ((cg_ra u) + 1))))))))))) := by
                      unfold pSt
                      rw [if_pos ha, if_pos hc]
                      refine (pK_y hc126).trans ?_
                      refine (pN_y hc134).trans ?_
                      refine (pS_y hc143).trans ?_
                      refine (pN_y hc151).trans ?_
                      refine (pS_y hc160).trans ?_
                      refine (pN_y hc168).trans ?_
                      refine (pS_y hc177).trans ?_
                      refine (pN_y hc185).trans ?_
                      exact pS_y hc194
                    exact z_iret eX1_parseStatement_202 rfl (by decide) ⟨_, rfl, (cg_let u (cg_ra u)), (va_up (va_up (va_up (va_up (va_up (cg_rn u) 0 (kV (cg_let u) (cg_rl u) ((cg_ra u) + 1))) (0 + 1) (nV (cg_let u) (cg_rl u) 2 (kE (cg_let u) (cg_rl u) ((cg_ra u) + 1)))) ((0 + 1) + 1) (nV (cg_let u) (cg_rl u) 1 (pE (cg_let u) (cg_rl u) 44 (nE (cg_let u) (cg_rl u) 2 (kE (cg_let u) (cg_rl u) ((cg_ra u) + 1)))))) (((0 + 1) + 1) + 1) (nV (cg_let u) (cg_rl u) 3 (pE (cg_let u) (cg_rl u) 44 (nE (cg_let u) (cg_rl u) 1 (pE (cg_let u) (cg_rl u) 44 (nE (cg_let u) (cg_rl u) 2 (kE (cg_let u) (cg_rl u) ((cg_ra u) + 1)))))))) ((((0 + 1) + 1) + 1) + 1) (nV (cg_let u) (cg_rl u) 1 (pE (cg_let u) (cg_rl u) 44 (nE (cg_let u) (cg_rl u) 3 (pE (cg_let u) (cg_rl u) 44 (nE (cg_let u) (cg_rl u) 1 (pE (cg_let u) (cg_rl u) 44 (nE (cg_let u) (cg_rl u) 2 (kE (cg_let u) (cg_rl u) ((cg_ra u) + 1)))))))))), (((((0 + 1) + 1) + 1) + 1) + 1), by rw [hp]; first | done | rfl, by rw [hp], (fun x hx => by rw [hp] at hx; cases hx; exact ⟨rfl, ⟨fun _ => ⟨rfl, rfl, rfl, rfl, rfl⟩, fun z => absurd (hc.symm.trans z) (by decide), fun z => by omega⟩⟩)⟩
set_option maxHeartbeats 1000000 in
set_option maxRecDepth 100000 in
theorem s1_pst_107 {t : zMod} {u : zCls} (hrl : cg_rl u ≤ 80) (hlet : ∀ i, cg_let u i ≤ 255) (ha : cg_ra u < cg_rl u) (hc : cg_let u (cg_ra u) = 107) : Mi mX1_parseStatement 7 [.ref 13] (hA t (cg_let u, cg_lc u, 12, cg_rl u, cg_ra u, cg_rf u, cg_rn u, cg_rc u, cg_now u, cg_dra u, cg_kep u, cg_im u, cg_mp u, cg_mw u, cg_mu u, cg_mn u, cg_mi u, cg_mc u, cg_md u, cg_mo u, cg_ms u, cg_mq u, cg_se u, cg_sc u, cg_re u)) (fun r h' => ∃ (F' : Nat) (N' : Nat → Nat) (C' : Nat), r = nI ((pSt (cg_let u) (cg_rl u) (cg_ra u)).2.isSome.toNat) ∧ h' = hA t (cg_let u, cg_lc u, 12, cg_rl u, ((pSt (cg_let u) (cg_rl u) (cg_ra u)).1), F', N', C', cg_now u, cg_dra u, cg_kep u, cg_im u, cg_mp u, cg_mw u, cg_mu u, cg_mn u, cg_mi u, cg_mc u, cg_md u, cg_mo u, cg_ms u, cg_mq u, cg_se u, cg_sc u, cg_re u) ∧ ∀ x, (pSt (cg_let u) (cg_rl u) (cg_ra u)).2 = some x → F' = cg_let u (cg_ra u) ∧ zTn (cg_let u (cg_ra u)) x N') := by
  have g0 : cg_ra u ≤ cg_ra u + 1 ∧ cg_ra u + 1 ≤ cg_rl u := ⟨by omega, ha⟩
  have hl9 := hlet (cg_ra u)
  refine Mi.of (by decide) rfl (Nat.le_of_ble_eq_true rfl) ?_
  refine r_aload_n eX1_parseStatement_0 rfl rfl ?_
  refine r_getf (v := .int (nI (cg_ra u))) eX1_parseStatement_1 fX1_32 rfl rfl ?_
  refine r_aload_n eX1_parseStatement_4 rfl rfl ?_
  refine r_getf (v := .int (nI (cg_rl u))) eX1_parseStatement_5 fX1_24 rfl rfl ?_
  refine n_icmp_ge eX1_parseStatement_8 (by omega) (by omega) (fun hc8 => absurd hc8 (by omega)) (fun hc8 => ?_)
  refine r_aload_n eX1_parseStatement_11 rfl rfl ?_
  refine r_getf (v := .int (nI (cg_ra u))) eX1_parseStatement_12 fX1_32 rfl rfl ?_
  refine r_aload_n eX1_parseStatement_15 rfl rfl ?_
  refine r_getf (v := .ref 12) eX1_parseStatement_16 fX1_9 rfl rfl ?_
  refine r_alen eX1_parseStatement_19 rfl ?_
  refine n_icmp_lt eX1_parseStatement_20 (by omega) (by omega) (fun hc20 => ?_) (fun hc20 => absurd hc20 (by omega))
  refine r_aload_n eX1_parseStatement_25 rfl rfl ?_
  refine r_aload_n eX1_parseStatement_26 rfl rfl ?_
  refine r_getf (v := .ref 12) eX1_parseStatement_27 fX1_9 rfl rfl ?_
  refine r_aload_n eX1_parseStatement_30 rfl rfl ?_
  refine r_getf (v := .int (nI (cg_ra u))) eX1_parseStatement_31 fX1_32 rfl rfl ?_
  refine n_iald (f := cg_let u) (j := cg_ra u) eX1_parseStatement_34 rfl rfl (by omega) (by decide) ?_
  refine cp_rf (v := (cg_let u) (cg_ra u)) eX1_parseStatement_35 fX1_42 rfl ?_
  refine r_aload_n eX1_parseStatement_38 rfl rfl ?_
  refine n_iconst 0 eX1_parseStatement_39 rfl ?_
  refine cp_rc (v := 0) eX1_parseStatement_40 fX1_45 rfl ?_
  refine r_aload_n eX1_parseStatement_43 rfl rfl ?_
  refine r_getf (v := .int (nI ((cg_let u) (cg_ra u)))) eX1_parseStatement_44 fX1_42 rfl rfl ?_
  refine z_top (y := nI (107)) (congrArg nI hc) ?_
  refine r_tabIn (off := 156) (tgt := 203) eX1_parseStatement_47 (by decide) (by decide) (by decide) (by decide) ?_
  refine r_aload_n eX1_parseStatement_203 rfl rfl ?_
  refine r_dup eX1_parseStatement_204 rfl ?_
  refine r_getf (v := .int (nI (cg_ra u))) eX1_parseStatement_205 fX1_32 rfl rfl ?_
  refine n_iconst 1 eX1_parseStatement_208 rfl ?_
  refine n_add eX1_parseStatement_209 ?_
  refine cp_ra (v := (cg_ra u) + 1) eX1_parseStatement_210 fX1_32 rfl ?_
  refine r_aload_n eX1_parseStatement_213 rfl rfl ?_
  refine n_iconst 1 eX1_parseStatement_214 rfl ?_
  refine r_callVi1 eX1_parseStatement_215 lX1_51 (Or.inl ⟨_, _, _, rfl, rfl, rfl⟩) (s1_parseNumber (t := t) (u := (cg_let u, cg_lc u, 12, cg_rl u, (cg_ra u) + 1, (cg_let u) (cg_ra u), cg_rn u, 0, cg_now u, cg_dra u, cg_kep u, cg_im u, cg_mp u, cg_mw u, cg_mu u, cg_mn u, cg_mi u, cg_mc u, cg_md u, cg_mo u, cg_ms u, cg_mq u, cg_se u, cg_sc u, cg_re u)) hrl hlet g0.2 (show 0 < 5 by decide) (m := 1) (by decide) (by decide)) (by omega) (Nat.le_of_ble_eq_true rfl) (fun r1 h1 hq => ?_)
  obtain ⟨N215, C215, hh, hr, hn215⟩ := hq
  obtain rfl := (show h1 = hA t (cg_let u, cg_lc u, 12, cg_rl u, (nE (cg_let u) (cg_rl u) 1 ((cg_ra u) + 1)), (cg_let u) (cg_ra u), N215, C215, cg_now u, cg_dra u, cg_kep u, cg_im u, cg_mp u, cg_mw u, cg_mu u, cg_mn u, cg_mi u, cg_mc u, cg_md u, cg_mo u, cg_ms u, cg_mq u, cg_se u, cg_sc u, cg_re u) from hh)
  obtain rfl := (show r1 = nI (nB (cg_let u) (cg_rl u) ((cg_ra u) + 1)) from hr)
  have hn215 : 0 < nB (cg_let u) (cg_rl u) ((cg_ra u) + 1) → N215 = va_up (cg_rn u) 0 (nV (cg_let u) (cg_rl u) 1 ((cg_ra u) + 1)) ∧ C215 = 0 + 1 := hn215
  have g215 := nE_ok (f := (cg_let u)) (k := 1) g0.2
  have hlt215 := nB_lt2 (cg_let u) (cg_rl u) ((cg_ra u) + 1)
  refine n_if_eq eX1_parseStatement_218 (by omega) (fun hc218 => ?_) (fun hc218 => ?_)
  · refine n_iconst 0 eX1_parseStatement_242 rfl ?_
    have hp : (pSt (cg_let u) (cg_rl u) (cg_ra u)) = ((nE (cg_let u) (cg_rl u) 1 ((cg_ra u) + 1)), none) := by
      unfold pSt
      rw [if_pos ha, if_neg (by omega), if_pos hc]
      exact pN_n hc218
    exact z_iret eX1_parseStatement_243 rfl (by decide) ⟨_, rfl, (cg_let u (cg_ra u)), N215, C215, by rw [hp]; first | done | rfl, by rw [hp], (fun x hx => by rw [hp] at hx; cases hx)⟩
  · obtain ⟨ea, eb⟩ := hn215 hc218
    subst ea
    subst eb
    refine r_aload_n eX1_parseStatement_221 rfl rfl ?_
    refine n_iconst 1 eX1_parseStatement_222 rfl ?_
    refine r_callVi1 eX1_parseStatement_223 lX1_51 (Or.inl ⟨_, _, _, rfl, rfl, rfl⟩) (s1_parseNumber (t := t) (u := (cg_let u, cg_lc u, 12, cg_rl u, (nE (cg_let u) (cg_rl u) 1 ((cg_ra u) + 1)), (cg_let u) (cg_ra u), (va_up (cg_rn u) 0 (nV (cg_let u) (cg_rl u) 1 ((cg_ra u) + 1))), (0 + 1), cg_now u, cg_dra u, cg_kep u, cg_im u, cg_mp u, cg_mw u, cg_mu u, cg_mn u, cg_mi u, cg_mc u, cg_md u, cg_mo u, cg_ms u, cg_mq u, cg_se u, cg_sc u, cg_re u)) hrl hlet g215.2 (show (0 + 1) < 5 by decide) (m := 1) (by decide) (by decide)) (by omega) (Nat.le_of_ble_eq_true rfl) (fun r1 h1 hq => ?_)
    obtain ⟨N223, C223, hh, hr, hn223⟩ := hq
    obtain rfl := (show h1 = hA t (cg_let u, cg_lc u, 12, cg_rl u, (nE (cg_let u) (cg_rl u) 1 (nE (cg_let u) (cg_rl u) 1 ((cg_ra u) + 1))), (cg_let u) (cg_ra u), N223, C223, cg_now u, cg_dra u, cg_kep u, cg_im u, cg_mp u, cg_mw u, cg_mu u, cg_mn u, cg_mi u, cg_mc u, cg_md u, cg_mo u, cg_ms u, cg_mq u, cg_se u, cg_sc u, cg_re u) from hh)
    obtain rfl := (show r1 = nI (nB (cg_let u) (cg_rl u) (nE (cg_let u) (cg_rl u) 1 ((cg_ra u) + 1))) from hr)
    have hn223 : 0 < nB (cg_let u) (cg_rl u) (nE (cg_let u) (cg_rl u) 1 ((cg_ra u) + 1)) → N223 = va_up (va_up (cg_rn u) 0 (nV (cg_let u) (cg_rl u) 1 ((cg_ra u) + 1))) (0 + 1) (nV (cg_let u) (cg_rl u) 1 (nE (cg_let u) (cg_rl u) 1 ((cg_ra u) + 1))) ∧ C223 = (0 + 1) + 1 := hn223
    have g223 := nE_ok (f := (cg_let u)) (k := 1) g215.2
    have hlt223 := nB_lt2 (cg_let u) (cg_rl u) (nE (cg_let u) (cg_rl u) 1 ((cg_ra u) + 1))
    refine n_if_eq eX1_parseStatement_226 (by omega) (fun hc226 => ?_) (fun hc226 => ?_)
    · refine n_iconst 0 eX1_parseStatement_242 rfl ?_
      have hp : (pSt (cg_let u) (cg_rl u) (cg_ra u)) = ((nE (cg_let u) (cg_rl u) 1 (nE (cg_let u) (cg_rl u) 1 ((cg_ra u) + 1))), none) := by
        unfold pSt
        rw [if_pos ha, if_neg (by omega), if_pos hc]
        refine (pN_y hc218).trans ?_
        exact pN_n hc226
      exact z_iret eX1_parseStatement_243 rfl (by decide) ⟨_, rfl, (cg_let u (cg_ra u)), N223, C223, by rw [hp]; first | done | rfl, by rw [hp], (fun x hx => by rw [hp] at hx; cases hx)⟩
    · obtain ⟨ea, eb⟩ := hn223 hc226
      subst ea
      subst eb
      refine r_aload_n eX1_parseStatement_229 rfl rfl ?_
      refine n_bipush 59 eX1_parseStatement_230 rfl ?_
      refine r_callVi1 eX1_parseStatement_232 lX1_55 (Or.inl ⟨_, _, _, rfl, rfl, rfl⟩) (s1_parseSign (t := t) (u := (cg_let u, cg_lc u, 12, cg_rl u, (nE (cg_let u) (cg_rl u) 1 (nE (cg_let u) (cg_rl u) 1 ((cg_ra u) + 1))), (cg_let u) (cg_ra u), (va_up (va_up (cg_rn u) 0 (nV (cg_let u) (cg_rl u) 1 ((cg_ra u) + 1))) (0 + 1) (nV (cg_let u) (cg_rl u) 1 (nE (cg_let u) (cg_rl u) 1 ((cg_ra u) + 1)))), ((0 + 1) + 1), cg_now u, cg_dra u, cg_kep u, cg_im u, cg_mp u, cg_mw u, cg_mu u, cg_mn u, cg_mi u, cg_mc u, cg_md u, cg_mo u, cg_ms u, cg_mq u, cg_se u, cg_sc u, cg_re u)) hrl hlet g223.2 (c := 59) (by decide)) (by omega) (Nat.le_of_ble_eq_true rfl) (fun r1 h1 hq => ?_)
      obtain ⟨rfl, rfl⟩ := (show r1 = nI (pB (cg_let u) (cg_rl u) 59 (nE (cg_let u) (cg_rl u) 1 (nE (cg_let u) (cg_rl u) 1 ((cg_ra u) + 1)))) ∧ h1 = hA t (cg_let u, cg_lc u, 12, cg_rl u, (pE (cg_let u) (cg_rl u) 59 (nE (cg_let u) (cg_rl u) 1 (nE (cg_let u) (cg_rl u) 1 ((cg_ra u) + 1)))), (cg_let u) (cg_ra u), (va_up (va_up (cg_rn u) 0 (nV (cg_let u) (cg_rl u) 1 ((cg_ra u) + 1))) (0 + 1) (nV (cg_let u) (cg_rl u) 1 (nE (cg_let u) (cg_rl u) 1 ((cg_ra u) + 1)))), ((0 + 1) + 1), cg_now u, cg_dra u, cg_kep u, cg_im u, cg_mp u, cg_mw u, cg_mu u, cg_mn u, cg_mi u, cg_mc u, cg_md u, cg_mo u, cg_ms u, cg_mq u, cg_se u, cg_sc u, cg_re u) from hq)
      have g232 := pE_ok (f := (cg_let u)) (c := 59) g223.2
      have hlt232 := pB_lt2 (cg_let u) (cg_rl u) 59 (nE (cg_let u) (cg_rl u) 1 (nE (cg_let u) (cg_rl u) 1 ((cg_ra u) + 1)))
      refine n_if_eq eX1_parseStatement_235 (by omega) (fun hc235 => ?_) (fun hc235 => ?_)
      · refine n_iconst 0 eX1_parseStatement_242 rfl ?_
        have hp : (pSt (cg_let u) (cg_rl u) (cg_ra u)) = ((pE (cg_let u) (cg_rl u) 59 (nE (cg_let u) (cg_rl u) 1 (nE (cg_let u) (cg_rl u) 1 ((cg_ra u) + 1)))), none) := by
          unfold pSt
          rw [if_pos ha, if_neg (by omega), if_pos hc]
          refine (pN_y hc218).trans ?_
          refine (pN_y hc226).trans ?_
          exact pS_n hc235
        exact z_iret eX1_parseStatement_243 rfl (by decide) ⟨_, rfl, (cg_let u (cg_ra u)), (va_up (va_up (cg_rn u) 0 (nV (cg_let u) (cg_rl u) 1 ((cg_ra u) + 1))) (0 + 1) (nV (cg_let u) (cg_rl u) 1 (nE (cg_let u) (cg_rl u) 1 ((cg_ra u) + 1)))), ((0 + 1) + 1), by rw [hp]; first | done | rfl, by rw [hp], (fun x hx => by rw [hp] at hx; cases hx)⟩
      · refine n_iconst 1 eX1_parseStatement_238 rfl ?_
        refine r_goto eX1_parseStatement_239 ?_
        have hp : (pSt (cg_let u) (cg_rl u) (cg_ra u)) = ((pE (cg_let u) (cg_rl u) 59 (nE (cg_let u) (cg_rl u) 1 (nE (cg_let u) (cg_rl u) 1 ((cg_ra u) + 1)))), some ((nV (cg_let u) (cg_rl u) 1 ((cg_ra u) + 1)), (nV (cg_let u) (cg_rl u) 1 (nE (cg_let u) (cg_rl u) 1 ((cg_ra u) + 1))), 0, 0, 0)) := by
          unfold pSt
          rw [if_pos ha, if_neg (by omega), if_pos hc]
          refine (pN_y hc218).trans ?_
          refine (pN_y hc226).trans ?_
          exact pS_y hc235
        exact z_iret eX1_parseStatement_243 rfl (by decide) ⟨_, rfl, (cg_let u (cg_ra u)), (va_up (va_up (cg_rn u) 0 (nV (cg_let u) (cg_rl u) 1 ((cg_ra u) + 1))) (0 + 1) (nV (cg_let u) (cg_rl u) 1 (nE (cg_let u) (cg_rl u) 1 ((cg_ra u) + 1)))), ((0 + 1) + 1), by rw [hp]; first | done | rfl, by rw [hp], (fun x hx => by rw [hp] at hx; cases hx; exact ⟨rfl, ⟨fun z => absurd (hc.symm.trans z) (by decide), fun _ => ⟨rfl, rfl⟩, fun z => by omega⟩⟩)⟩
set_option maxHeartbeats 1000000 in
set_option maxRecDepth 100000 in
theorem s1_pst_119 {t : zMod} {u : zCls} (hrl : cg_rl u ≤ 80) (hlet : ∀ i, cg_let u i ≤ 255) (ha : cg_ra u < cg_rl u) (hc : cg_let u (cg_ra u) = 119) : Mi mX1_parseStatement 7 [.ref 13] (hA t (cg_let u, cg_lc u, 12, cg_rl u, cg_ra u, cg_rf u, cg_rn u, cg_rc u, cg_now u, cg_dra u, cg_kep u, cg_im u, cg_mp u, cg_mw u, cg_mu u, cg_mn u, cg_mi u, cg_mc u, cg_md u, cg_mo u, cg_ms u, cg_mq u, cg_se u, cg_sc u, cg_re u)) (fun r h' => ∃ (F' : Nat) (N' : Nat → Nat) (C' : Nat), r = nI ((pSt (cg_let u) (cg_rl u) (cg_ra u)).2.isSome.toNat) ∧ h' = hA t (cg_let u, cg_lc u, 12, cg_rl u, ((pSt (cg_let u) (cg_rl u) (cg_ra u)).1), F', N', C', cg_now u, cg_dra u, cg_kep u, cg_im u, cg_mp u, cg_mw u, cg_mu u, cg_mn u, cg_mi u, cg_mc u, cg_md u, cg_mo u, cg_ms u, cg_mq u, cg_se u, cg_sc u, cg_re u) ∧ ∀ x, (pSt (cg_let u) (cg_rl u) (cg_ra u)).2 = some x → F' = cg_let u (cg_ra u) ∧ zTn (cg_let u (cg_ra u)) x N') := by
  have g0 : cg_ra u ≤ cg_ra u + 1 ∧ cg_ra u + 1 ≤ cg_rl u := ⟨by omega, ha⟩
  have hl9 := hlet (cg_ra u)
  refine Mi.of (by decide) rfl (Nat.le_of_ble_eq_true rfl) ?_
  refine r_aload_n eX1_parseStatement_0 rfl rfl ?_
  refine r_getf (v := .int (nI (cg_ra u))) eX1_parseStatement_1 fX1_32 rfl rfl ?_
  refine r_aload_n eX1_parseStatement_4 rfl rfl ?_
  refine r_getf (v := .int (nI (cg_rl u))) eX1_parseStatement_5 fX1_24 rfl rfl ?_
  refine n_icmp_ge eX1_parseStatement_8 (by omega) (by omega) (fun hc8 => absurd hc8 (by omega)) (fun hc8 => ?_)
  refine r_aload_n eX1_parseStatement_11 rfl rfl ?_
  refine r_getf (v := .int (nI (cg_ra u))) eX1_parseStatement_12 fX1_32 rfl rfl ?_
  refine r_aload_n eX1_parseStatement_15 rfl rfl ?_
  refine r_getf (v := .ref 12) eX1_parseStatement_16 fX1_9 rfl rfl ?_
  refine r_alen eX1_parseStatement_19 rfl ?_
  refine n_icmp_lt eX1_parseStatement_20 (by omega) (by omega) (fun hc20 => ?_) (fun hc20 => absurd hc20 (by omega))
  refine r_aload_n eX1_parseStatement_25 rfl rfl ?_
  refine r_aload_n eX1_parseStatement_26 rfl rfl ?_
  refine r_getf (v := .ref 12) eX1_parseStatement_27 fX1_9 rfl rfl ?_
  refine r_aload_n eX1_parseStatement_30 rfl rfl ?_
  refine r_getf (v := .int (nI (cg_ra u))) eX1_parseStatement_31 fX1_32 rfl rfl ?_
  refine n_iald (f := cg_let u) (j := cg_ra u) eX1_parseStatement_34 rfl rfl (by omega) (by decide) ?_
  refine cp_rf (v := (cg_let u) (cg_ra u)) eX1_parseStatement_35 fX1_42 rfl ?_
  refine r_aload_n eX1_parseStatement_38 rfl rfl ?_
  refine n_iconst 0 eX1_parseStatement_39 rfl ?_
  refine cp_rc (v := 0) eX1_parseStatement_40 fX1_45 rfl ?_
  refine r_aload_n eX1_parseStatement_43 rfl rfl ?_
  refine r_getf (v := .int (nI ((cg_let u) (cg_ra u)))) eX1_parseStatement_44 fX1_42 rfl rfl ?_
  refine z_top (y := nI (119)) (congrArg nI hc) ?_
  refine r_tabIn (off := 197) (tgt := 244) eX1_parseStatement_47 (by decide) (by decide) (by decide) (by decide) ?_
  refine r_aload_n eX1_parseStatement_244 rfl rfl ?_
  refine r_dup eX1_parseStatement_245 rfl ?_
  refine r_getf (v := .int (nI (cg_ra u))) eX1_parseStatement_246 fX1_32 rfl rfl ?_
  refine n_iconst 1 eX1_parseStatement_249 rfl ?_
  refine n_add eX1_parseStatement_250 ?_
  refine cp_ra (v := (cg_ra u) + 1) eX1_parseStatement_251 fX1_32 rfl ?_
  refine r_aload_n eX1_parseStatement_254 rfl rfl ?_
  refine n_iconst 1 eX1_parseStatement_255 rfl ?_
  refine r_callVi1 eX1_parseStatement_256 lX1_51 (Or.inl ⟨_, _, _, rfl, rfl, rfl⟩) (s1_parseNumber (t := t) (u := (cg_let u, cg_lc u, 12, cg_rl u, (cg_ra u) + 1, (cg_let u) (cg_ra u), cg_rn u, 0, cg_now u, cg_dra u, cg_kep u, cg_im u, cg_mp u, cg_mw u, cg_mu u, cg_mn u, cg_mi u, cg_mc u, cg_md u, cg_mo u, cg_ms u, cg_mq u, cg_se u, cg_sc u, cg_re u)) hrl hlet g0.2 (show 0 < 5 by decide) (m := 1) (by decide) (by decide)) (by omega) (Nat.le_of_ble_eq_true rfl) (fun r1 h1 hq => ?_)
  obtain ⟨N256, C256, hh, hr, hn256⟩ := hq
  obtain rfl := (show h1 = hA t (cg_let u, cg_lc u, 12, cg_rl u, (nE (cg_let u) (cg_rl u) 1 ((cg_ra u) + 1)), (cg_let u) (cg_ra u), N256, C256, cg_now u, cg_dra u, cg_kep u, cg_im u, cg_mp u, cg_mw u, cg_mu u, cg_mn u, cg_mi u, cg_mc u, cg_md u, cg_mo u, cg_ms u, cg_mq u, cg_se u, cg_sc u, cg_re u) from hh)
  obtain rfl := (show r1 = nI (nB (cg_let u) (cg_rl u) ((cg_ra u) + 1)) from hr)
  have hn256 : 0 < nB (cg_let u) (cg_rl u) ((cg_ra u) + 1) → N256 = va_up (cg_rn u) 0 (nV (cg_let u) (cg_rl u) 1 ((cg_ra u) + 1)) ∧ C256 = 0 + 1 := hn256
  have g256 := nE_ok (f := (cg_let u)) (k := 1) g0.2
  have hlt256 := nB_lt2 (cg_let u) (cg_rl u) ((cg_ra u) + 1)
  refine n_if_eq eX1_parseStatement_259 (by omega) (fun hc259 => ?_) (fun hc259 => ?_)
  · refine n_iconst 0 eX1_parseStatement_275 rfl ?_
    have hp : (pSt (cg_let u) (cg_rl u) (cg_ra u)) = ((nE (cg_let u) (cg_rl u) 1 ((cg_ra u) + 1)), none) := by
      unfold pSt
      rw [if_pos ha, if_neg (by omega), if_neg (by omega), if_pos (Or.inl hc)]
      exact pN_n hc259
    exact z_iret eX1_parseStatement_276 rfl (by decide) ⟨_, rfl, (cg_let u (cg_ra u)), N256, C256, by rw [hp]; first | done | rfl, by rw [hp], (fun x hx => by rw [hp] at hx; cases hx)⟩
  · obtain ⟨ea, eb⟩ := hn256 hc259
    subst ea
    subst eb
    refine r_aload_n eX1_parseStatement_262 rfl rfl ?_
    refine n_bipush 59 eX1_parseStatement_263 rfl ?_
    refine r_callVi1 eX1_parseStatement_265 lX1_55 (Or.inl ⟨_, _, _, rfl, rfl, rfl⟩) (s1_parseSign (t := t) (u := (cg_let u, cg_lc u, 12, cg_rl u, (nE (cg_let u) (cg_rl u) 1 ((cg_ra u) + 1)), (cg_let u) (cg_ra u), (va_up (cg_rn u) 0 (nV (cg_let u) (cg_rl u) 1 ((cg_ra u) + 1))), (0 + 1), cg_now u, cg_dra u, cg_kep u, cg_im u, cg_mp u, cg_mw u, cg_mu u, cg_mn u, cg_mi u, cg_mc u, cg_md u, cg_mo u, cg_ms u, cg_mq u, cg_se u, cg_sc u, cg_re u)) hrl hlet g256.2 (c := 59) (by decide)) (by omega) (Nat.le_of_ble_eq_true rfl) (fun r1 h1 hq => ?_)
    obtain ⟨rfl, rfl⟩ := (show r1 = nI (pB (cg_let u) (cg_rl u) 59 (nE (cg_let u) (cg_rl u) 1 ((cg_ra u) + 1))) ∧ h1 = hA t (cg_let u, cg_lc u, 12, cg_rl u, (pE (cg_let u) (cg_rl u) 59 (nE (cg_let u) (cg_rl u) 1 ((cg_ra u) + 1))), (cg_let u) (cg_ra u), (va_up (cg_rn u) 0 (nV (cg_let u) (cg_rl u) 1 ((cg_ra u) + 1))), (0 + 1), cg_now u, cg_dra u, cg_kep u, cg_im u, cg_mp u, cg_mw u, cg_mu u, cg_mn u, cg_mi u, cg_mc u, cg_md u, cg_mo u, cg_ms u, cg_mq u, cg_se u, cg_sc u, cg_re u) from hq)
    have g265 := pE_ok (f := (cg_let u)) (c := 59) g256.2
    have hlt265 := pB_lt2 (cg_let u) (cg_rl u) 59 (nE (cg_let u) (cg_rl u) 1 ((cg_ra u) + 1))
    refine n_if_eq eX1_parseStatement_268 (by omega) (fun hc268 => ?_) (fun hc268 => ?_)
    · refine n_iconst 0 eX1_parseStatement_275 rfl ?_
      have hp : (pSt (cg_let u) (cg_rl u) (cg_ra u)) = ((pE (cg_let u) (cg_rl u) 59 (nE (cg_let u) (cg_rl u) 1 ((cg_ra u) + 1))), none) := by
        unfold pSt
        rw [if_pos ha, if_neg (by omega), if_neg (by omega), if_pos (Or.inl hc)]
        refine (pN_y hc259).trans ?_
        exact pS_n hc268
      exact z_iret eX1_parseStatement_276 rfl (by decide) ⟨_, rfl, (cg_let u (cg_ra u)), (va_up (cg_rn u) 0 (nV (cg_let u) (cg_rl u) 1 ((cg_ra u) + 1))), (0 + 1), by rw [hp]; first | done | rfl, by rw [hp], (fun x hx => by rw [hp] at hx; cases hx)⟩
    · refine n_iconst 1 eX1_parseStatement_271 rfl ?_
      refine r_goto eX1_parseStatement_272 ?_
      have hp : (pSt (cg_let u) (cg_rl u) (cg_ra u)) = ((pE (cg_let u) (cg_rl u) 59 (nE (cg_let u) (cg_rl u) 1 ((cg_ra u) + 1))), some ((nV (cg_let u) (cg_rl u) 1 ((cg_ra u) + 1)), 0, 0, 0, 0)) := by
        unfold pSt
        rw [if_pos ha, if_neg (by omega), if_neg (by omega), if_pos (Or.inl hc)]
        refine (pN_y hc259).trans ?_
        exact pS_y hc268
      exact z_iret eX1_parseStatement_276 rfl (by decide) ⟨_, rfl, (cg_let u (cg_ra u)), (va_up (cg_rn u) 0 (nV (cg_let u) (cg_rl u) 1 ((cg_ra u) + 1))), (0 + 1), by rw [hp]; first | done | rfl, by rw [hp], (fun x hx => by rw [hp] at hx; cases hx; exact ⟨rfl, ⟨fun z => absurd (hc.symm.trans z) (by decide), fun z => absurd (hc.symm.trans z) (by decide), fun _ => rfl⟩⟩)⟩
set_option maxHeartbeats 1000000 in
set_option maxRecDepth 100000 in
theorem s1_pst_115 {t : zMod} {u : zCls} (hrl : cg_rl u ≤ 80) (hlet : ∀ i, cg_let u i ≤ 255) (ha : cg_ra u < cg_rl u) (hc : cg_let u (cg_ra u) = 115) : Mi mX1_parseStatement 7 [.ref 13] (hA t (cg_let u, cg_lc u, 12, cg_rl u, cg_ra u, cg_rf u, cg_rn u, cg_rc u, cg_now u, cg_dra u, cg_kep u, cg_im u, cg_mp u, cg_mw u, cg_mu u, cg_mn u, cg_mi u, cg_mc u, cg_md u, cg_mo u, cg_ms u, cg_mq u, cg_se u, cg_sc u, cg_re u)) (fun r h' => ∃ (F' : Nat) (N' : Nat → Nat) (C' : Nat), r = nI ((pSt (cg_let u) (cg_rl u) (cg_ra u)).2.isSome.toNat) ∧ h' = hA t (cg_let u, cg_lc u, 12, cg_rl u, ((pSt (cg_let u) (cg_rl u) (cg_ra u)).1), F', N', C', cg_now u, cg_dra u, cg_kep u, cg_im u, cg_mp u, cg_mw u, cg_mu u, cg_mn u, cg_mi u, cg_mc u, cg_md u, cg_mo u, cg_ms u, cg_mq u, cg_se u, cg_sc u, cg_re u) ∧ ∀ x, (pSt (cg_let u) (cg_rl u) (cg_ra u)).2 = some x → F' = cg_let u (cg_ra u) ∧ zTn (cg_let u (cg_ra u)) x N') := by
  have g0 : cg_ra u ≤ cg_ra u + 1 ∧ cg_ra u + 1 ≤ cg_rl u := ⟨by omega, ha⟩
  have hl9 := hlet (cg_ra u)
  refine Mi.of (by decide) rfl (Nat.le_of_ble_eq_true rfl) ?_
  refine r_aload_n eX1_parseStatement_0 rfl rfl ?_
  refine r_getf (v := .int (nI (cg_ra u))) eX1_parseStatement_1 fX1_32 rfl rfl ?_
  refine r_aload_n eX1_parseStatement_4 rfl rfl ?_
  refine r_getf (v := .int (nI (cg_rl u))) eX1_parseStatement_5 fX1_24 rfl rfl ?_
  refine n_icmp_ge eX1_parseStatement_8 (by omega) (by omega) (fun hc8 => absurd hc8 (by omega)) (fun hc8 => ?_)
  refine r_aload_n eX1_parseStatement_11 rfl rfl ?_
  refine r_getf (v := .int (nI (cg_ra u))) eX1_parseStatement_12 fX1_32 rfl rfl ?_
  refine r_aload_n eX1_parseStatement_15 rfl rfl ?_
  refine r_getf (v := .ref 12) eX1_parseStatement_16 fX1_9 rfl rfl ?_
  refine r_alen eX1_parseStatement_19 rfl ?_
  refine n_icmp_lt eX1_parseStatement_20 (by omega) (by omega) (fun hc20 => ?_) (fun hc20 => absurd hc20 (by omega))
  refine r_aload_n eX1_parseStatement_25 rfl rfl ?_
  refine r_aload_n eX1_parseStatement_26 rfl rfl ?_
  refine r_getf (v := .ref 12) eX1_parseStatement_27 fX1_9 rfl rfl ?_
  refine r_aload_n eX1_parseStatement_30 rfl rfl ?_
  refine r_getf (v := .int (nI (cg_ra u))) eX1_parseStatement_31 fX1_32 rfl rfl ?_
  refine n_iald (f := cg_let u) (j := cg_ra u) eX1_parseStatement_34 rfl rfl (by omega) (by decide) ?_
  refine cp_rf (v := (cg_let u) (cg_ra u)) eX1_parseStatement_35 fX1_42 rfl ?_
  refine r_aload_n eX1_parseStatement_38 rfl rfl ?_
  refine n_iconst 0 eX1_parseStatement_39 rfl ?_
  refine cp_rc (v := 0) eX1_parseStatement_40 fX1_45 rfl ?_
  refine r_aload_n eX1_parseStatement_43 rfl rfl ?_
  refine r_getf (v := .int (nI ((cg_let u) (cg_ra u)))) eX1_parseStatement_44 fX1_42 rfl rfl ?_
  refine z_top (y := nI (115)) (congrArg nI hc) ?_
  refine r_tabIn (off := 197) (tgt := 244) eX1_parseStatement_47 (by decide) (by decide) (by decide) (by decide) ?_
  refine r_aload_n eX1_parseStatement_244 rfl rfl ?_
  refine r_dup eX1_parseStatement_245 rfl ?_
  refine r_getf (v := .int (nI (cg_ra u))) eX1_parseStatement_246 fX1_32 rfl rfl ?_
  refine n_iconst 1 eX1_parseStatement_249 rfl ?_
  refine n_add eX1_parseStatement_250 ?_
  refine cp_ra (v := (cg_ra u) + 1) eX1_parseStatement_251 fX1_32 rfl ?_
  refine r_aload_n eX1_parseStatement_254 rfl rfl ?_
  refine n_iconst 1 eX1_parseStatement_255 rfl ?_
  refine r_callVi1 eX1_parseStatement_256 lX1_51 (Or.inl ⟨_, _, _, rfl, rfl, rfl⟩) (s1_parseNumber (t := t) (u := (cg_let u, cg_lc u, 12, cg_rl u, (cg_ra u) + 1, (cg_let u) (cg_ra u), cg_rn u, 0, cg_now u, cg_dra u, cg_kep u, cg_im u, cg_mp u, cg_mw u, cg_mu u, cg_mn u, cg_mi u, cg_mc u, cg_md u, cg_mo u, cg_ms u, cg_mq u, cg_se u, cg_sc u, cg_re u)) hrl hlet g0.2 (show 0 < 5 by decide) (m := 1) (by decide) (by decide)) (by omega) (Nat.le_of_ble_eq_true rfl) (fun r1 h1 hq => ?_)
  obtain ⟨N256, C256, hh, hr, hn256⟩ := hq
  obtain rfl := (show h1 = hA t (cg_let u, cg_lc u, 12, cg_rl u, (nE (cg_let u) (cg_rl u) 1 ((cg_ra u) + 1)), (cg_let u) (cg_ra u), N256, C256, cg_now u, cg_dra u, cg_kep u, cg_im u, cg_mp u, cg_mw u, cg_mu u, cg_mn u, cg_mi u, cg_mc u, cg_md u, cg_mo u, cg_ms u, cg_mq u, cg_se u, cg_sc u, cg_re u) from hh)
  obtain rfl := (show r1 = nI (nB (cg_let u) (cg_rl u) ((cg_ra u) + 1)) from hr)
  have hn256 : 0 < nB (cg_let u) (cg_rl u) ((cg_ra u) + 1) → N256 = va_up (cg_rn u) 0 (nV (cg_let u) (cg_rl u) 1 ((cg_ra u) + 1)) ∧ C256 = 0 + 1 := hn256
  have g256 := nE_ok (f := (cg_let u)) (k := 1) g0.2
  have hlt256 := nB_lt2 (cg_let u) (cg_rl u) ((cg_ra u) + 1)
  refine n_if_eq eX1_parseStatement_259 (by omega) (fun hc259 => ?_) (fun hc259 => ?_)
  · refine n_iconst 0 eX1_parseStatement_275 rfl ?_
    have hp : (pSt (cg_let u) (cg_rl u) (cg_ra u)) = ((nE (cg_let u) (cg_rl u) 1 ((cg_ra u) + 1)), none) := by
      unfold pSt
      rw [if_pos ha, if_neg (by omega), if_neg (by omega), if_pos (Or.inr hc)]
      exact pN_n hc259
    exact z_iret eX1_parseStatement_276 rfl (by decide) ⟨_, rfl, (cg_let u (cg_ra u)), N256, C256, by rw [hp]; first | done | rfl, by rw [hp], (fun x hx => by rw [hp] at hx; cases hx)⟩
  · obtain ⟨ea, eb⟩ := hn256 hc259
    subst ea
    subst eb
    refine r_aload_n eX1_parseStatement_262 rfl rfl ?_
    refine n_bipush 59 eX1_parseStatement_263 rfl ?_
    refine r_callVi1 eX1_parseStatement_265 lX1_55 (Or.inl ⟨_, _, _, rfl, rfl, rfl⟩) (s1_parseSign (t := t) (u := (cg_let u, cg_lc u, 12, cg_rl u, (nE (cg_let u) (cg_rl u) 1 ((cg_ra u) + 1)), (cg_let u) (cg_ra u), (va_up (cg_rn u) 0 (nV (cg_let u) (cg_rl u) 1 ((cg_ra u) + 1))), (0 + 1), cg_now u, cg_dra u, cg_kep u, cg_im u, cg_mp u, cg_mw u, cg_mu u, cg_mn u, cg_mi u, cg_mc u, cg_md u, cg_mo u, cg_ms u, cg_mq u, cg_se u, cg_sc u, cg_re u)) hrl hlet g256.2 (c := 59) (by decide)) (by omega) (Nat.le_of_ble_eq_true rfl) (fun r1 h1 hq => ?_)
    obtain ⟨rfl, rfl⟩ := (show r1 = nI (pB (cg_let u) (cg_rl u) 59 (nE (cg_let u) (cg_rl u) 1 ((cg_ra u) + 1))) ∧ h1 = hA t (cg_let u, cg_lc u, 12, cg_rl u, (pE (cg_let u) (cg_rl u) 59 (nE (cg_let u) (cg_rl u) 1 ((cg_ra u) + 1))), (cg_let u) (cg_ra u), (va_up (cg_rn u) 0 (nV (cg_let u) (cg_rl u) 1 ((cg_ra u) + 1))), (0 + 1), cg_now u, cg_dra u, cg_kep u, cg_im u, cg_mp u, cg_mw u, cg_mu u, cg_mn u, cg_mi u, cg_mc u, cg_md u, cg_mo u, cg_ms u, cg_mq u, cg_se u, cg_sc u, cg_re u) from hq)
    have g265 := pE_ok (f := (cg_let u)) (c := 59) g256.2
    have hlt265 := pB_lt2 (cg_let u) (cg_rl u) 59 (nE (cg_let u) (cg_rl u) 1 ((cg_ra u) + 1))
    refine n_if_eq eX1_parseStatement_268 (by omega) (fun hc268 => ?_) (fun hc268 => ?_)
    · refine n_iconst 0 eX1_parseStatement_275 rfl ?_
      have hp : (pSt (cg_let u) (cg_rl u) (cg_ra u)) = ((pE (cg_let u) (cg_rl u) 59 (nE (cg_let u) (cg_rl u) 1 ((cg_ra u) + 1))), none) := by
        unfold pSt
        rw [if_pos ha, if_neg (by omega), if_neg (by omega), if_pos (Or.inr hc)]
        refine (pN_y hc259).trans ?_
        exact pS_n hc268
      exact z_iret eX1_parseStatement_276 rfl (by decide) ⟨_, rfl, (cg_let u (cg_ra u)), (va_up (cg_rn u) 0 (nV (cg_let u) (cg_rl u) 1 ((cg_ra u) + 1))), (0 + 1), by rw [hp]; first | done | rfl, by rw [hp], (fun x hx => by rw [hp] at hx; cases hx)⟩
    · refine n_iconst 1 eX1_parseStatement_271 rfl ?_
      refine r_goto eX1_parseStatement_272 ?_
      have hp : (pSt (cg_let u) (cg_rl u) (cg_ra u)) = ((pE (cg_let u) (cg_rl u) 59 (nE (cg_let u) (cg_rl u) 1 ((cg_ra u) + 1))), some ((nV (cg_let u) (cg_rl u) 1 ((cg_ra u) + 1)), 0, 0, 0, 0)) := by
        unfold pSt
        rw [if_pos ha, if_neg (by omega), if_neg (by omega), if_pos (Or.inr hc)]
        refine (pN_y hc259).trans ?_
        exact pS_y hc268
      exact z_iret eX1_parseStatement_276 rfl (by decide) ⟨_, rfl, (cg_let u (cg_ra u)), (va_up (cg_rn u) 0 (nV (cg_let u) (cg_rl u) 1 ((cg_ra u) + 1))), (0 + 1), by rw [hp]; first | done | rfl, by rw [hp], (fun x hx => by rw [hp] at hx; cases hx; exact ⟨rfl, ⟨fun z => absurd (hc.symm.trans z) (by decide), fun z => absurd (hc.symm.trans z) (by decide), fun _ => rfl⟩⟩)⟩
set_option maxHeartbeats 1000000 in
set_option maxRecDepth 100000 in
theorem s1_pst_114 {t : zMod} {u : zCls} (hrl : cg_rl u ≤ 80) (hlet : ∀ i, cg_let u i ≤ 255) (ha : cg_ra u < cg_rl u) (hc : cg_let u (cg_ra u) = 114) : Mi mX1_parseStatement 7 [.ref 13] (hA t (cg_let u, cg_lc u, 12, cg_rl u, cg_ra u, cg_rf u, cg_rn u, cg_rc u, cg_now u, cg_dra u, cg_kep u, cg_im u, cg_mp u, cg_mw u, cg_mu u, cg_mn u, cg_mi u, cg_mc u, cg_md u, cg_mo u, cg_ms u, cg_mq u, cg_se u, cg_sc u, cg_re u)) (fun r h' => ∃ (F' : Nat) (N' : Nat → Nat) (C' : Nat), r = nI ((pSt (cg_let u) (cg_rl u) (cg_ra u)).2.isSome.toNat) ∧ h' = hA t (cg_let u, cg_lc u, 12, cg_rl u, ((pSt (cg_let u) (cg_rl u) (cg_ra u)).1), F', N', C', cg_now u, cg_dra u, cg_kep u, cg_im u, cg_mp u, cg_mw u, cg_mu u, cg_mn u, cg_mi u, cg_mc u, cg_md u, cg_mo u, cg_ms u, cg_mq u, cg_se u, cg_sc u, cg_re u) ∧ ∀ x, (pSt (cg_let u) (cg_rl u) (cg_ra u)).2 = some x → F' = cg_let u (cg_ra u) ∧ zTn (cg_let u (cg_ra u)) x N') := by
  have g0 : cg_ra u ≤ cg_ra u + 1 ∧ cg_ra u + 1 ≤ cg_rl u := ⟨by omega, ha⟩
  have hl9 := hlet (cg_ra u)
  refine Mi.of (by decide) rfl (Nat.le_of_ble_eq_true rfl) ?_
  refine r_aload_n eX1_parseStatement_0 rfl rfl ?_
  refine r_getf (v := .int (nI (cg_ra u))) eX1_parseStatement_1 fX1_32 rfl rfl ?_
  refine r_aload_n eX1_parseStatement_4 rfl rfl ?_
  refine r_getf (v := .int (nI (cg_rl u))) eX1_parseStatement_5 fX1_24 rfl rfl ?_
  refine n_icmp_ge eX1_parseStatement_8 (by omega) (by omega) (fun hc8 => absurd hc8 (by omega)) (fun hc8 => ?_)
  refine r_aload_n eX1_parseStatement_11 rfl rfl ?_
  refine r_getf (v := .int (nI (cg_ra u))) eX1_parseStatement_12 fX1_32 rfl rfl ?_
  refine r_aload_n eX1_parseStatement_15 rfl rfl ?_
  refine r_getf (v := .ref 12) eX1_parseStatement_16 fX1_9 rfl rfl ?_
  refine r_alen eX1_parseStatement_19 rfl ?_
  refine n_icmp_lt eX1_parseStatement_20 (by omega) (by omega) (fun hc20 => ?_) (fun hc20 => absurd hc20 (by omega))
  refine r_aload_n eX1_parseStatement_25 rfl rfl ?_
  refine r_aload_n eX1_parseStatement_26 rfl rfl ?_
  refine r_getf (v := .ref 12) eX1_parseStatement_27 fX1_9 rfl rfl ?_
  refine r_aload_n eX1_parseStatement_30 rfl rfl ?_
  refine r_getf (v := .int (nI (cg_ra u))) eX1_parseStatement_31 fX1_32 rfl rfl ?_
  refine n_iald (f := cg_let u) (j := cg_ra u) eX1_parseStatement_34 rfl rfl (by omega) (by decide) ?_
  refine cp_rf (v := (cg_let u) (cg_ra u)) eX1_parseStatement_35 fX1_42 rfl ?_
  refine r_aload_n eX1_parseStatement_38 rfl rfl ?_
  refine n_iconst 0 eX1_parseStatement_39 rfl ?_
  refine cp_rc (v := 0) eX1_parseStatement_40 fX1_45 rfl ?_
  refine r_aload_n eX1_parseStatement_43 rfl rfl ?_
  refine r_getf (v := .int (nI ((cg_let u) (cg_ra u)))) eX1_parseStatement_44 fX1_42 rfl rfl ?_
  refine z_top (y := nI (114)) (congrArg nI hc) ?_
  refine r_tabIn (off := 230) (tgt := 277) eX1_parseStatement_47 (by decide) (by decide) (by decide) (by decide) ?_
  refine r_aload_n eX1_parseStatement_277 rfl rfl ?_
  refine r_dup eX1_parseStatement_278 rfl ?_
  refine r_getf (v := .int (nI (cg_ra u))) eX1_parseStatement_279 fX1_32 rfl rfl ?_
  refine n_iconst 1 eX1_parseStatement_282 rfl ?_
  refine n_add eX1_parseStatement_283 ?_
  refine cp_ra (v := (cg_ra u) + 1) eX1_parseStatement_284 fX1_32 rfl ?_
  refine r_aload_n eX1_parseStatement_287 rfl rfl ?_
  refine n_bipush 59 eX1_parseStatement_288 rfl ?_
  refine r_callVi1 eX1_parseStatement_290 lX1_55 (Or.inl ⟨_, _, _, rfl, rfl, rfl⟩) (s1_parseSign (t := t) (u := (cg_let u, cg_lc u, 12, cg_rl u, (cg_ra u) + 1, (cg_let u) (cg_ra u), cg_rn u, 0, cg_now u, cg_dra u, cg_kep u, cg_im u, cg_mp u, cg_mw u, cg_mu u, cg_mn u, cg_mi u, cg_mc u, cg_md u, cg_mo u, cg_ms u, cg_mq u, cg_se u, cg_sc u, cg_re u)) hrl hlet g0.2 (c := 59) (by decide)) (by omega) (Nat.le_of_ble_eq_true rfl) (fun r1 h1 hq => ?_)
  obtain ⟨rfl, rfl⟩ := (show r1 = nI (pB (cg_let u) (cg_rl u) 59 ((cg_ra u) + 1)) ∧ h1 = hA t (cg_let u, cg_lc u, 12, cg_rl u, (pE (cg_let u) (cg_rl u) 59 ((cg_ra u) + 1)), (cg_let u) (cg_ra u), cg_rn u, 0, cg_now u, cg_dra u, cg_kep u, cg_im u, cg_mp u, cg_mw u, cg_mu u, cg_mn u, cg_mi u, cg_mc u, cg_md u, cg_mo u, cg_ms u, cg_mq u, cg_se u, cg_sc u, cg_re u) from hq)
  have g290 := pE_ok (f := (cg_let u)) (c := 59) g0.2
  have hlt290 := pB_lt2 (cg_let u) (cg_rl u) 59 ((cg_ra u) + 1)
  by_cases h59 : pB (cg_let u) (cg_rl u) 59 (cg_ra u + 1) = 0
  · have hp : (pSt (cg_let u) (cg_rl u) (cg_ra u)) = ((pE (cg_let u) (cg_rl u) 59 (cg_ra u + 1)), none) := by
      unfold pSt
      rw [if_pos ha, if_neg (by omega), if_neg (by omega), if_neg (by omega), if_pos (Or.inl hc)]
      exact pS_n h59
    rw [h59]
    exact z_iret eX1_parseStatement_293 rfl (by decide) ⟨_, rfl, (cg_let u (cg_ra u)), _, _, by rw [hp]; rfl, by rw [hp], fun x hx => by rw [hp] at hx; cases hx⟩
  · have hp : (pSt (cg_let u) (cg_rl u) (cg_ra u)) = ((pE (cg_let u) (cg_rl u) 59 (cg_ra u + 1)), some (0, 0, 0, 0, 0)) := by
      unfold pSt
      rw [if_pos ha, if_neg (by omega), if_neg (by omega), if_neg (by omega), if_pos (Or.inl hc)]
      exact pS_y (Nat.pos_of_ne_zero h59)
    rw [show pB (cg_let u) (cg_rl u) 59 (cg_ra u + 1) = 1 by omega]
    exact z_iret eX1_parseStatement_293 rfl (by decide) ⟨_, rfl, (cg_let u (cg_ra u)), cg_rn u, 0, by rw [hp]; rfl, by rw [hp], fun x hx => ⟨rfl, fun z => absurd (hc.symm.trans z) (by decide), fun z => absurd (hc.symm.trans z) (by decide), fun z => by omega⟩⟩
set_option maxHeartbeats 1000000 in
set_option maxRecDepth 100000 in
theorem s1_pst_111 {t : zMod} {u : zCls} (hrl : cg_rl u ≤ 80) (hlet : ∀ i, cg_let u i ≤ 255) (ha : cg_ra u < cg_rl u) (hc : cg_let u (cg_ra u) = 111) : Mi mX1_parseStatement 7 [.ref 13] (hA t (cg_let u, cg_lc u, 12, cg_rl u, cg_ra u, cg_rf u, cg_rn u, cg_rc u, cg_now u, cg_dra u, cg_kep u, cg_im u, cg_mp u, cg_mw u, cg_mu u, cg_mn u, cg_mi u, cg_mc u, cg_md u, cg_mo u, cg_ms u, cg_mq u, cg_se u, cg_sc u, cg_re u)) (fun r h' => ∃ (F' : Nat) (N' : Nat → Nat) (C' : Nat), r = nI ((pSt (cg_let u) (cg_rl u) (cg_ra u)).2.isSome.toNat) ∧ h' = hA t (cg_let u, cg_lc u, 12, cg_rl u, ((pSt (cg_let u) (cg_rl u) (cg_ra u)).1), F', N', C', cg_now u, cg_dra u, cg_kep u, cg_im u, cg_mp u, cg_mw u, cg_mu u, cg_mn u, cg_mi u, cg_mc u, cg_md u, cg_mo u, cg_ms u, cg_mq u, cg_se u, cg_sc u, cg_re u) ∧ ∀ x, (pSt (cg_let u) (cg_rl u) (cg_ra u)).2 = some x → F' = cg_let u (cg_ra u) ∧ zTn (cg_let u (cg_ra u)) x N') := by
  have g0 : cg_ra u ≤ cg_ra u + 1 ∧ cg_ra u + 1 ≤ cg_rl u := ⟨by omega, ha⟩
  have hl9 := hlet (cg_ra u)
  refine Mi.of (by decide) rfl (Nat.le_of_ble_eq_true rfl) ?_
  refine r_aload_n eX1_parseStatement_0 rfl rfl ?_
  refine r_getf (v := .int (nI (cg_ra u))) eX1_parseStatement_1 fX1_32 rfl rfl ?_
  refine r_aload_n eX1_parseStatement_4 rfl rfl ?_
  refine r_getf (v := .int (nI (cg_rl u))) eX1_parseStatement_5 fX1_24 rfl rfl ?_
  refine n_icmp_ge eX1_parseStatement_8 (by omega) (by omega) (fun hc8 => absurd hc8 (by omega)) (fun hc8 => ?_)
  refine r_aload_n eX1_parseStatement_11 rfl rfl ?_
  refine r_getf (v := .int (nI (cg_ra u))) eX1_parseStatement_12 fX1_32 rfl rfl ?_
  refine r_aload_n eX1_parseStatement_15 rfl rfl ?_
  refine r_getf (v := .ref 12) eX1_parseStatement_16 fX1_9 rfl rfl ?_
  refine r_alen eX1_parseStatement_19 rfl ?_
  refine n_icmp_lt eX1_parseStatement_20 (by omega) (by omega) (fun hc20 => ?_) (fun hc20 => absurd hc20 (by omega))
  refine r_aload_n eX1_parseStatement_25 rfl rfl ?_
  refine r_aload_n eX1_parseStatement_26 rfl rfl ?_
  refine r_getf (v := .ref 12) eX1_parseStatement_27 fX1_9 rfl rfl ?_
  refine r_aload_n eX1_parseStatement_30 rfl rfl ?_
  refine r_getf (v := .int (nI (cg_ra u))) eX1_parseStatement_31 fX1_32 rfl rfl ?_
  refine n_iald (f := cg_let u) (j := cg_ra u) eX1_parseStatement_34 rfl rfl (by omega) (by decide) ?_
  refine cp_rf (v := (cg_let u) (cg_ra u)) eX1_parseStatement_35 fX1_42 rfl ?_
  refine r_aload_n eX1_parseStatement_38 rfl rfl ?_
  refine n_iconst 0 eX1_parseStatement_39 rfl ?_
  refine cp_rc (v := 0) eX1_parseStatement_40 fX1_45 rfl ?_
  refine r_aload_n eX1_parseStatement_43 rfl rfl ?_
  refine r_getf (v := .int (nI ((cg_let u) (cg_ra u)))) eX1_parseStatement_44 fX1_42 rfl rfl ?_
  refine z_top (y := nI (111)) (congrArg nI hc) ?_
  refine r_tabIn (off := 230) (tgt := 277) eX1_parseStatement_47 (by decide) (by decide) (by decide) (by decide) ?_
  refine r_aload_n eX1_parseStatement_277 rfl rfl ?_
  refine r_dup eX1_parseStatement_278 rfl ?_
  refine r_getf (v := .int (nI (cg_ra u))) eX1_parseStatement_279 fX1_32 rfl rfl ?_
  refine n_iconst 1 eX1_parseStatement_282 rfl ?_
  refine n_add eX1_parseStatement_283 ?_
  refine cp_ra (v := (cg_ra u) + 1) eX1_parseStatement_284 fX1_32 rfl ?_
  refine r_aload_n eX1_parseStatement_287 rfl rfl ?_
  refine n_bipush 59 eX1_parseStatement_288 rfl ?_
  refine r_callVi1 eX1_parseStatement_290 lX1_55 (Or.inl ⟨_, _, _, rfl, rfl, rfl⟩) (s1_parseSign (t := t) (u := (cg_let u, cg_lc u, 12, cg_rl u, (cg_ra u) + 1, (cg_let u) (cg_ra u), cg_rn u, 0, cg_now u, cg_dra u, cg_kep u, cg_im u, cg_mp u, cg_mw u, cg_mu u, cg_mn u, cg_mi u, cg_mc u, cg_md u, cg_mo u, cg_ms u, cg_mq u, cg_se u, cg_sc u, cg_re u)) hrl hlet g0.2 (c := 59) (by decide)) (by omega) (Nat.le_of_ble_eq_true rfl) (fun r1 h1 hq => ?_)
  obtain ⟨rfl, rfl⟩ := (show r1 = nI (pB (cg_let u) (cg_rl u) 59 ((cg_ra u) + 1)) ∧ h1 = hA t (cg_let u, cg_lc u, 12, cg_rl u, (pE (cg_let u) (cg_rl u) 59 ((cg_ra u) + 1)), (cg_let u) (cg_ra u), cg_rn u, 0, cg_now u, cg_dra u, cg_kep u, cg_im u, cg_mp u, cg_mw u, cg_mu u, cg_mn u, cg_mi u, cg_mc u, cg_md u, cg_mo u, cg_ms u, cg_mq u, cg_se u, cg_sc u, cg_re u) from hq)
  have g290 := pE_ok (f := (cg_let u)) (c := 59) g0.2
  have hlt290 := pB_lt2 (cg_let u) (cg_rl u) 59 ((cg_ra u) + 1)
  by_cases h59 : pB (cg_let u) (cg_rl u) 59 (cg_ra u + 1) = 0
  · have hp : (pSt (cg_let u) (cg_rl u) (cg_ra u)) = ((pE (cg_let u) (cg_rl u) 59 (cg_ra u + 1)), none) := by
      unfold pSt
      rw [if_pos ha, if_neg (by omega), if_neg (by omega), if_neg (by omega), if_pos (Or.inr hc)]
      exact pS_n h59
    rw [h59]
    exact z_iret eX1_parseStatement_293 rfl (by decide) ⟨_, rfl, (cg_let u (cg_ra u)), _, _, by rw [hp]; rfl, by rw [hp], fun x hx => by rw [hp] at hx; cases hx⟩
  · have hp : (pSt (cg_let u) (cg_rl u) (cg_ra u)) = ((pE (cg_let u) (cg_rl u) 59 (cg_ra u + 1)), some (0, 0, 0, 0, 0)) := by
      unfold pSt
      rw [if_pos ha, if_neg (by omega), if_neg (by omega), if_neg (by omega), if_pos (Or.inr hc)]
      exact pS_y (Nat.pos_of_ne_zero h59)
    rw [show pB (cg_let u) (cg_rl u) 59 (cg_ra u + 1) = 1 by omega]
    exact z_iret eX1_parseStatement_293 rfl (by decide) ⟨_, rfl, (cg_let u (cg_ra u)), cg_rn u, 0, by rw [hp]; rfl, by rw [hp], fun x hx => ⟨rfl, fun z => absurd (hc.symm.trans z) (by decide), fun z => absurd (hc.symm.trans z) (by decide), fun z => by omega⟩⟩
set_option maxHeartbeats 1000000 in
set_option maxRecDepth 100000 in
theorem s1_pst_e {t : zMod} {u : zCls} (hrl : cg_rl u ≤ 80) (hlet : ∀ i, cg_let u i ≤ 255) (hat : cg_ra u ≤ cg_rl u) (ha : ¬ cg_ra u < cg_rl u) : Mi mX1_parseStatement 7 [.ref 13] (hA t (cg_let u, cg_lc u, 12, cg_rl u, cg_ra u, cg_rf u, cg_rn u, cg_rc u, cg_now u, cg_dra u, cg_kep u, cg_im u, cg_mp u, cg_mw u, cg_mu u, cg_mn u, cg_mi u, cg_mc u, cg_md u, cg_mo u, cg_ms u, cg_mq u, cg_se u, cg_sc u, cg_re u)) (fun r h' => ∃ (F' : Nat) (N' : Nat → Nat) (C' : Nat), r = nI ((pSt (cg_let u) (cg_rl u) (cg_ra u)).2.isSome.toNat) ∧ h' = hA t (cg_let u, cg_lc u, 12, cg_rl u, ((pSt (cg_let u) (cg_rl u) (cg_ra u)).1), F', N', C', cg_now u, cg_dra u, cg_kep u, cg_im u, cg_mp u, cg_mw u, cg_mu u, cg_mn u, cg_mi u, cg_mc u, cg_md u, cg_mo u, cg_ms u, cg_mq u, cg_se u, cg_sc u, cg_re u) ∧ ∀ x, (pSt (cg_let u) (cg_rl u) (cg_ra u)).2 = some x → F' = cg_let u (cg_ra u) ∧ zTn (cg_let u (cg_ra u)) x N') := by
  refine Mi.of (by decide) rfl (Nat.le_of_ble_eq_true rfl) ?_
  refine r_aload_n eX1_parseStatement_0 rfl rfl ?_
  refine r_getf (v := .int (nI (cg_ra u))) eX1_parseStatement_1 fX1_32 rfl rfl ?_
  refine r_aload_n eX1_parseStatement_4 rfl rfl ?_
  refine r_getf (v := .int (nI (cg_rl u))) eX1_parseStatement_5 fX1_24 rfl rfl ?_
  refine n_icmp_ge eX1_parseStatement_8 (by omega) (by omega) (fun hc8 => ?_) (fun hc8 => absurd hc8 (by omega))
  refine n_iconst 0 eX1_parseStatement_23 rfl ?_
  have hp : (pSt (cg_let u) (cg_rl u) (cg_ra u)) = (cg_ra u, none) := if_neg ha
  exact z_iret eX1_parseStatement_24 rfl (by decide) ⟨_, rfl, cg_rf u, cg_rn u, cg_rc u, by rw [hp]; first | done | rfl, by rw [hp]; first | done | rfl, fun x hx => by rw [hp] at hx; cases hx⟩
set_option maxHeartbeats 1000000 in
set_option maxRecDepth 100000 in
theorem s1_pst_o {t : zMod} {u : zCls} (hrl : cg_rl u ≤ 80) (hlet : ∀ i, cg_let u i ≤ 255) (ha : cg_ra u < cg_rl u) (hn : ¬ (cg_let u (cg_ra u)) = 112 ∧ ¬ (cg_let u (cg_ra u)) = 107 ∧ ¬ (cg_let u (cg_ra u)) = 119 ∧ ¬ (cg_let u (cg_ra u)) = 115 ∧ ¬ (cg_let u (cg_ra u)) = 114 ∧ ¬ (cg_let u (cg_ra u)) = 111) (ho : (cg_let u (cg_ra u)) < 107 ∨ 119 < (cg_let u (cg_ra u))) : Mi mX1_parseStatement 7 [.ref 13] (hA t (cg_let u, cg_lc u, 12, cg_rl u, cg_ra u, cg_rf u, cg_rn u, cg_rc u, cg_now u, cg_dra u, cg_kep u, cg_im u, cg_mp u, cg_mw u, cg_mu u, cg_mn u, cg_mi u, cg_mc u, cg_md u, cg_mo u, cg_ms u, cg_mq u, cg_se u, cg_sc u, cg_re u)) (fun r h' => ∃ (F' : Nat) (N' : Nat → Nat) (C' : Nat), r = nI ((pSt (cg_let u) (cg_rl u) (cg_ra u)).2.isSome.toNat) ∧ h' = hA t (cg_let u, cg_lc u, 12, cg_rl u, ((pSt (cg_let u) (cg_rl u) (cg_ra u)).1), F', N', C', cg_now u, cg_dra u, cg_kep u, cg_im u, cg_mp u, cg_mw u, cg_mu u, cg_mn u, cg_mi u, cg_mc u, cg_md u, cg_mo u, cg_ms u, cg_mq u, cg_se u, cg_sc u, cg_re u) ∧ ∀ x, (pSt (cg_let u) (cg_rl u) (cg_ra u)).2 = some x → F' = cg_let u (cg_ra u) ∧ zTn (cg_let u (cg_ra u)) x N') := by
  have hb := hlet (cg_ra u)
  refine Mi.of (by decide) rfl (Nat.le_of_ble_eq_true rfl) ?_
  refine r_aload_n eX1_parseStatement_0 rfl rfl ?_
  refine r_getf (v := .int (nI (cg_ra u))) eX1_parseStatement_1 fX1_32 rfl rfl ?_
  refine r_aload_n eX1_parseStatement_4 rfl rfl ?_
  refine r_getf (v := .int (nI (cg_rl u))) eX1_parseStatement_5 fX1_24 rfl rfl ?_
  refine n_icmp_ge eX1_parseStatement_8 (by omega) (by omega) (fun hc8 => absurd hc8 (by omega)) (fun hc8 => ?_)
  refine r_aload_n eX1_parseStatement_11 rfl rfl ?_
  refine r_getf (v := .int (nI (cg_ra u))) eX1_parseStatement_12 fX1_32 rfl rfl ?_
  refine r_aload_n eX1_parseStatement_15 rfl rfl ?_
  refine r_getf (v := .ref 12) eX1_parseStatement_16 fX1_9 rfl rfl ?_
  refine r_alen eX1_parseStatement_19 rfl ?_
  refine n_icmp_lt eX1_parseStatement_20 (by omega) (by omega) (fun hc20 => ?_) (fun hc20 => absurd hc20 (by omega))
  refine r_aload_n eX1_parseStatement_25 rfl rfl ?_
  refine r_aload_n eX1_parseStatement_26 rfl rfl ?_
  refine r_getf (v := .ref 12) eX1_parseStatement_27 fX1_9 rfl rfl ?_
  refine r_aload_n eX1_parseStatement_30 rfl rfl ?_
  refine r_getf (v := .int (nI (cg_ra u))) eX1_parseStatement_31 fX1_32 rfl rfl ?_
  refine n_iald (f := cg_let u) (j := cg_ra u) eX1_parseStatement_34 rfl rfl (by omega) (by decide) ?_
  refine cp_rf (v := (cg_let u) (cg_ra u)) eX1_parseStatement_35 fX1_42 rfl ?_
  refine r_aload_n eX1_parseStatement_38 rfl rfl ?_
  refine n_iconst 0 eX1_parseStatement_39 rfl ?_
  refine cp_rc (v := 0) eX1_parseStatement_40 fX1_45 rfl ?_
  refine r_aload_n eX1_parseStatement_43 rfl rfl ?_
  refine r_getf (v := .int (nI ((cg_let u) (cg_ra u)))) eX1_parseStatement_44 fX1_42 rfl rfl ?_
  refine r_tabOut (tgt := 294) eX1_parseStatement_47 (by rw [nI_toInt (by omega)]; omega) (by decide) ?_
  refine n_iconst 0 eX1_parseStatement_294 rfl ?_
  have hp : (pSt (cg_let u) (cg_rl u) (cg_ra u)) = (cg_ra u, none) := by unfold pSt; rw [if_pos ha, if_neg hn.1, if_neg hn.2.1, if_neg (by omega), if_neg (by omega)]
  exact z_iret eX1_parseStatement_295 rfl (by decide) ⟨_, rfl, (cg_let u (cg_ra u)), cg_rn u, 0, by rw [hp]; first | done | rfl, by rw [hp]; first | done | rfl, fun x hx => by rw [hp] at hx; cases hx⟩
set_option maxHeartbeats 1000000 in
set_option maxRecDepth 100000 in
theorem s1_pst_m {t : zMod} {u : zCls} (hrl : cg_rl u ≤ 80) (hlet : ∀ i, cg_let u i ≤ 255) (ha : cg_ra u < cg_rl u) (hn : ¬ (cg_let u (cg_ra u)) = 112 ∧ ¬ (cg_let u (cg_ra u)) = 107 ∧ ¬ (cg_let u (cg_ra u)) = 119 ∧ ¬ (cg_let u (cg_ra u)) = 115 ∧ ¬ (cg_let u (cg_ra u)) = 114 ∧ ¬ (cg_let u (cg_ra u)) = 111) (ho : 107 ≤ (cg_let u (cg_ra u)) ∧ (cg_let u (cg_ra u)) ≤ 119) : Mi mX1_parseStatement 7 [.ref 13] (hA t (cg_let u, cg_lc u, 12, cg_rl u, cg_ra u, cg_rf u, cg_rn u, cg_rc u, cg_now u, cg_dra u, cg_kep u, cg_im u, cg_mp u, cg_mw u, cg_mu u, cg_mn u, cg_mi u, cg_mc u, cg_md u, cg_mo u, cg_ms u, cg_mq u, cg_se u, cg_sc u, cg_re u)) (fun r h' => ∃ (F' : Nat) (N' : Nat → Nat) (C' : Nat), r = nI ((pSt (cg_let u) (cg_rl u) (cg_ra u)).2.isSome.toNat) ∧ h' = hA t (cg_let u, cg_lc u, 12, cg_rl u, ((pSt (cg_let u) (cg_rl u) (cg_ra u)).1), F', N', C', cg_now u, cg_dra u, cg_kep u, cg_im u, cg_mp u, cg_mw u, cg_mu u, cg_mn u, cg_mi u, cg_mc u, cg_md u, cg_mo u, cg_ms u, cg_mq u, cg_se u, cg_sc u, cg_re u) ∧ ∀ x, (pSt (cg_let u) (cg_rl u) (cg_ra u)).2 = some x → F' = cg_let u (cg_ra u) ∧ zTn (cg_let u (cg_ra u)) x N') := by
  have hb := hlet (cg_ra u)
  have ho9 : (#[156, 247, 247, 247, 230, 65, 247, 230, 197, 247, 247, 247, 197] : Array Int)[(cg_let u (cg_ra u)) - 107]? = some 247 := by
    have : ∀ j, j < 13 → (j = 5 ∨ j = 0 ∨ j = 12 ∨ j = 8 ∨ j = 7 ∨ j = 4) ∨ (#[156, 247, 247, 247, 230, 65, 247, 230, 197, 247, 247, 247, 197] : Array Int)[j]? = some 247 := by decide
    exact (this ((cg_let u (cg_ra u)) - 107) (by omega)).resolve_left (by omega)
  refine Mi.of (by decide) rfl (Nat.le_of_ble_eq_true rfl) ?_
  refine r_aload_n eX1_parseStatement_0 rfl rfl ?_
  refine r_getf (v := .int (nI (cg_ra u))) eX1_parseStatement_1 fX1_32 rfl rfl ?_
  refine r_aload_n eX1_parseStatement_4 rfl rfl ?_
  refine r_getf (v := .int (nI (cg_rl u))) eX1_parseStatement_5 fX1_24 rfl rfl ?_
  refine n_icmp_ge eX1_parseStatement_8 (by omega) (by omega) (fun hc8 => absurd hc8 (by omega)) (fun hc8 => ?_)
  refine r_aload_n eX1_parseStatement_11 rfl rfl ?_
  refine r_getf (v := .int (nI (cg_ra u))) eX1_parseStatement_12 fX1_32 rfl rfl ?_
  refine r_aload_n eX1_parseStatement_15 rfl rfl ?_
  refine r_getf (v := .ref 12) eX1_parseStatement_16 fX1_9 rfl rfl ?_
  refine r_alen eX1_parseStatement_19 rfl ?_
  refine n_icmp_lt eX1_parseStatement_20 (by omega) (by omega) (fun hc20 => ?_) (fun hc20 => absurd hc20 (by omega))
  refine r_aload_n eX1_parseStatement_25 rfl rfl ?_
  refine r_aload_n eX1_parseStatement_26 rfl rfl ?_
  refine r_getf (v := .ref 12) eX1_parseStatement_27 fX1_9 rfl rfl ?_
  refine r_aload_n eX1_parseStatement_30 rfl rfl ?_
  refine r_getf (v := .int (nI (cg_ra u))) eX1_parseStatement_31 fX1_32 rfl rfl ?_
  refine n_iald (f := cg_let u) (j := cg_ra u) eX1_parseStatement_34 rfl rfl (by omega) (by decide) ?_
  refine cp_rf (v := (cg_let u) (cg_ra u)) eX1_parseStatement_35 fX1_42 rfl ?_
  refine r_aload_n eX1_parseStatement_38 rfl rfl ?_
  refine n_iconst 0 eX1_parseStatement_39 rfl ?_
  refine cp_rc (v := 0) eX1_parseStatement_40 fX1_45 rfl ?_
  refine r_aload_n eX1_parseStatement_43 rfl rfl ?_
  refine r_getf (v := .int (nI ((cg_let u) (cg_ra u)))) eX1_parseStatement_44 fX1_42 rfl rfl ?_
  refine r_tabIn (off := 247) (tgt := 294) eX1_parseStatement_47 (by rw [nI_toInt (by omega)]; omega) (by rw [nI_toInt (by omega)]; omega) (by rw [nI_toInt (by omega), show (((cg_let u (cg_ra u)) : Int) - 107).toNat = (cg_let u (cg_ra u)) - 107 by omega]; exact ho9) (by decide) ?_
  refine n_iconst 0 eX1_parseStatement_294 rfl ?_
  have hp : (pSt (cg_let u) (cg_rl u) (cg_ra u)) = (cg_ra u, none) := by unfold pSt; rw [if_pos ha, if_neg hn.1, if_neg hn.2.1, if_neg (by omega), if_neg (by omega)]
  exact z_iret eX1_parseStatement_295 rfl (by decide) ⟨_, rfl, (cg_let u (cg_ra u)), cg_rn u, 0, by rw [hp]; first | done | rfl, by rw [hp]; first | done | rfl, fun x hx => by rw [hp] at hx; cases hx⟩
theorem s1_parseStatement {t : zMod} {u : zCls} (hrl : cg_rl u ≤ 80) (hlet : ∀ i, cg_let u i ≤ 255) (hat : cg_ra u ≤ cg_rl u) : Mi mX1_parseStatement 7 [.ref 13] (hA t (cg_let u, cg_lc u, 12, cg_rl u, cg_ra u, cg_rf u, cg_rn u, cg_rc u, cg_now u, cg_dra u, cg_kep u, cg_im u, cg_mp u, cg_mw u, cg_mu u, cg_mn u, cg_mi u, cg_mc u, cg_md u, cg_mo u, cg_ms u, cg_mq u, cg_se u, cg_sc u, cg_re u)) (fun r h' => ∃ (F' : Nat) (N' : Nat → Nat) (C' : Nat), r = nI ((pSt (cg_let u) (cg_rl u) (cg_ra u)).2.isSome.toNat) ∧ h' = hA t (cg_let u, cg_lc u, 12, cg_rl u, ((pSt (cg_let u) (cg_rl u) (cg_ra u)).1), F', N', C', cg_now u, cg_dra u, cg_kep u, cg_im u, cg_mp u, cg_mw u, cg_mu u, cg_mn u, cg_mi u, cg_mc u, cg_md u, cg_mo u, cg_ms u, cg_mq u, cg_se u, cg_sc u, cg_re u) ∧ ∀ x, (pSt (cg_let u) (cg_rl u) (cg_ra u)).2 = some x → F' = cg_let u (cg_ra u) ∧ zTn (cg_let u (cg_ra u)) x N') := by
  by_cases ha : cg_ra u < cg_rl u
  · by_cases h1 : (cg_let u (cg_ra u)) = 112
    · exact s1_pst_112 hrl hlet ha h1
    · by_cases h2 : (cg_let u (cg_ra u)) = 107
      · exact s1_pst_107 hrl hlet ha h2
      · by_cases h3 : (cg_let u (cg_ra u)) = 119
        · exact s1_pst_119 hrl hlet ha h3
        · by_cases h4 : (cg_let u (cg_ra u)) = 115
          · exact s1_pst_115 hrl hlet ha h4
          · by_cases h5 : (cg_let u (cg_ra u)) = 114
            · exact s1_pst_114 hrl hlet ha h5
            · by_cases h6 : (cg_let u (cg_ra u)) = 111
              · exact s1_pst_111 hrl hlet ha h6
              · by_cases ho : (cg_let u (cg_ra u)) < 107 ∨ 119 < (cg_let u (cg_ra u))
                · exact s1_pst_o hrl hlet ha ⟨h1, h2, h3, h4, h5, h6⟩ ho
                · exact s1_pst_m hrl hlet ha ⟨h1, h2, h3, h4, h5, h6⟩ (by omega)
  · exact s1_pst_e hrl hlet hat ha
