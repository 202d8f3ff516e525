/-! THE REFERENCE: mornings that were seen, mornings by seeds, a key gone, lots -/
set_option maxHeartbeats 1000000 in
set_option maxRecDepth 100000 in
theorem s4_overslept_n {t : zMod} {u : zCls} (hm : mOk t) (hn : ¬ mg_rc t = mg_s t 0) (hrc : mg_rc t ≤ 7) : Mi mX4_overslept 8 [.ref 0] (hA t u) (fun r h' => r = (-3) ∧ h' = hA ((va_up (mg_re t) 3 (mg_re t 3 + 1)), mg_s t, mg_im t, mg_rd t, mg_ii t, mg_tp t, mg_tl t, mg_ta t, mg_at t, mg_ou t, mg_op t, mg_br t, mg_nw t, mg_fs t, mg_bc t, mg_kr t, mg_rw t, mg_rc t) u) := by
  obtain ⟨⟨hs, h0, h1⟩, hbr, hnw, hou, hop⟩ := id hm
  refine Mi.of (by decide) rfl (Nat.le_of_ble_eq_true rfl) ?_
  refine r_aload_n eX4_overslept_0 rfl rfl ?_
  refine r_getf (v := .int (nI (mg_rc t))) eX4_overslept_1 fX4_195 rfl rfl ?_
  refine r_aload_n eX4_overslept_4 rfl rfl ?_
  refine r_getf (v := .ref 2) eX4_overslept_5 fX4_13 rfl rfl ?_
  refine n_iconst 0 eX4_overslept_8 rfl ?_
  refine n_iald (f := mg_s t) (j := 0) eX4_overslept_9 rfl rfl (by first | omega | exact zlt (hs _) | exact hou _ | exact hop _) (by decide) ?_
  refine n_icmp_eq eX4_overslept_10 (by first | omega | exact zlt (hs _) | exact hou _ | exact hop _) (by first | omega | exact zlt (hs _) | exact hou _ | exact hop _) (fun hc10 => absurd hc10 (by omega)) (fun hc10 => ?_)
  refine r_aload_n eX4_overslept_13 rfl rfl ?_
  refine r_bipush (v := (-3)) eX4_overslept_14 rfl ?_
  refine r_callVi1 eX4_overslept_16 lX4_52 (Or.inl ⟨_, _, _, rfl, rfl, rfl⟩) (s4_refuse (t := t) (u := u) (x := (-3)) (c := 3) (by decide) (by decide)) (by omega) (Nat.le_of_ble_eq_true rfl) (fun r1 h1 hq => ?_)
  obtain ⟨rfl, rfl⟩ := (show r1 = (-3) ∧ h1 = hA ((va_up (mg_re t) 3 ((mg_re t) 3 + 1)), mg_s t, mg_im t, mg_rd t, mg_ii t, mg_tp t, mg_tl t, mg_ta t, mg_at t, mg_ou t, mg_op t, mg_br t, mg_nw t, mg_fs t, mg_bc t, mg_kr t, mg_rw t, mg_rc t) u from hq)
  exact z_iret eX4_overslept_19 rfl rfl ⟨_, rfl, rfl, rfl⟩
set_option maxHeartbeats 1000000 in
set_option maxRecDepth 100000 in
theorem s4_overslept_l {t : zMod} {u : zCls} (hm : mOk t) (hrw : ∀ i, mg_rw t i ≤ 1000) : ∀ (k : Nat) (pp : Nat) (la : Nat) (hd : pp + k = mg_s t 0) (hla : zbs (fun p => decide (mg_ou t p < mg_rw t p)) pp = la), Rq mX4_overslept 8 none 28 [.ref 0, .int (nI (la)), .int (nI (pp))] [] (hA t u) (fun r h' => ∃ x, r = some x ∧ (x = nI (zbs (fun p => decide (mg_ou t p < mg_rw t p)) (mg_s t 0)) ∧ h' = hA t u)) := by
  intro k
  induction k with
  | zero =>
    intro pp la hd hla
    obtain ⟨⟨hs, h0, h1⟩, hbr, hnw, hou, hop⟩ := id hm
    refine r_iload_n eX4_overslept_28 rfl rfl ?_
    refine r_aload_n eX4_overslept_29 rfl rfl ?_
    refine r_getf (v := .ref 2) eX4_overslept_30 fX4_13 rfl rfl ?_
    refine n_iconst 0 eX4_overslept_33 rfl ?_
    refine n_iald (f := mg_s t) (j := 0) eX4_overslept_34 rfl rfl (by first | omega | exact zlt (hs _) | exact hou _ | exact hop _) (by decide) ?_
    refine n_icmp_ge eX4_overslept_35 (by first | omega | exact zlt (hs _) | exact hou _ | exact hop _) (by first | omega | exact zlt (hs _) | exact hou _ | exact hop _) (fun hc35 => ?_) (fun hc35 => absurd hc35 (by omega))
    refine r_iload_n eX4_overslept_69 rfl rfl ?_
    exact z_iret eX4_overslept_70 rfl rfl ⟨_, rfl, by rw [← hla, show pp = mg_s t 0 by omega], rfl⟩
  | succ k ih =>
    intro pp la hd hla
    obtain ⟨⟨hs, h0, h1⟩, hbr, hnw, hou, hop⟩ := id hm
    have hoo := hou pp
    have hrr := hrw pp
    have hp7 := zpow7 (p := pp) (by omega)
    refine r_iload_n eX4_overslept_28 rfl rfl ?_
    refine r_aload_n eX4_overslept_29 rfl rfl ?_
    refine r_getf (v := .ref 2) eX4_overslept_30 fX4_13 rfl rfl ?_
    refine n_iconst 0 eX4_overslept_33 rfl ?_
    refine n_iald (f := mg_s t) (j := 0) eX4_overslept_34 rfl rfl (by first | omega | exact zlt (hs _) | (have := hou pp; omega) | (have := hrw pp; omega)) (by decide) ?_
    refine n_icmp_ge eX4_overslept_35 (by first | omega | exact zlt (hs _) | (have := hou pp; omega) | (have := hrw pp; omega)) (by first | omega | exact zlt (hs _) | (have := hou pp; omega) | (have := hrw pp; omega)) (fun hc35 => absurd hc35 (by omega)) (fun hc35 => ?_)
    refine r_iload_n eX4_overslept_38 rfl rfl ?_
    refine r_aload_n eX4_overslept_39 rfl rfl ?_
    refine r_getf (v := .ref 10) eX4_overslept_40 fX4_37 rfl rfl ?_
    refine r_iload_n eX4_overslept_43 rfl rfl ?_
    refine n_iald (f := mg_rw t) (j := pp) eX4_overslept_44 rfl rfl (by first | omega | exact zlt (hs _) | (have := hou pp; omega) | (have := hrw pp; omega)) (by decide) ?_
    refine r_aload_n eX4_overslept_45 rfl rfl ?_
    refine r_getf (v := .ref 7) eX4_overslept_46 fX4_28 rfl rfl ?_
    refine r_iload_n eX4_overslept_49 rfl rfl ?_
    refine n_iald (f := mg_ou t) (j := pp) eX4_overslept_50 rfl rfl (by first | omega | exact zlt (hs _) | (have := hou pp; omega) | (have := hrw pp; omega)) (by decide) ?_
    refine n_icmp_le eX4_overslept_51 (by first | omega | exact zlt (hs _) | (have := hou pp; omega) | (have := hrw pp; omega)) (by first | omega | exact zlt (hs _) | (have := hou pp; omega) | (have := hrw pp; omega)) (fun hc51 => ?_) (fun hc51 => ?_)
    · refine n_iconst 0 eX4_overslept_60 rfl ?_
      refine n_or eX4_overslept_61 ?_
      refine r_istore_n eX4_overslept_62 rfl (by decide) ?_
      refine n_iinc (k := 1) eX4_overslept_63 rfl (by decide) rfl ?_
      refine r_goto eX4_overslept_66 ?_
      refine ih (pp + 1) (la ||| 0) (by omega) ?_
      rw [zbs, hla, if_neg (by simp; omega)]
    · refine n_iconst 1 eX4_overslept_54 rfl ?_
      refine r_iload_n eX4_overslept_55 rfl rfl ?_
      refine n_shl eX4_overslept_56 (by first | omega | exact zlt (hs _) | (have := hou pp; omega) | (have := hrw pp; omega)) (by first | omega | exact zlt (hs _) | (have := hou pp; omega) | (have := hrw pp; omega)) ?_
      refine r_goto eX4_overslept_57 ?_
      refine n_or eX4_overslept_61 ?_
      refine r_istore_n eX4_overslept_62 rfl (by decide) ?_
      refine n_iinc (k := 1) eX4_overslept_63 rfl (by decide) rfl ?_
      refine r_goto eX4_overslept_66 ?_
      refine ih (pp + 1) (la ||| (1 * 2 ^ pp)) (by omega) ?_
      rw [zbs, hla, if_pos (by simp; omega)]
set_option maxHeartbeats 1000000 in
set_option maxRecDepth 100000 in
theorem s4_overslept_k {t : zMod} {u : zCls} (hm : mOk t) (hn : mg_rc t = mg_s t 0) (hrw : ∀ i, mg_rw t i ≤ 1000) : Mi mX4_overslept 8 [.ref 0] (hA t u) (fun r h' => ∃ (O' P' : Nat → Nat), h' = hA (mg_re t, mg_s t, mg_im t, mg_rd t, mg_ii t, mg_tp t, mg_tl t, mg_ta t, mg_at t, O', P', mg_br t, mg_nw t, mg_fs t, mg_bc t, mg_kr t, mg_rw t, mg_rc t) u ∧ r = nI (zbs (fun p => decide (sO (mg_s t) (mg_nw t) (mg_br t) p < mg_rw t p)) (mg_s t 0)) ∧ (∀ i, O' i ≤ 1000000) ∧ ∀ i, P' i ≤ 1000000) := by
  obtain ⟨⟨hs, h0, h1⟩, hbr, hnw, hou, hop⟩ := id hm
  refine Mi.of (by decide) rfl (Nat.le_of_ble_eq_true rfl) ?_
  refine r_aload_n eX4_overslept_0 rfl rfl ?_
  refine r_getf (v := .int (nI (mg_rc t))) eX4_overslept_1 fX4_195 rfl rfl ?_
  refine r_aload_n eX4_overslept_4 rfl rfl ?_
  refine r_getf (v := .ref 2) eX4_overslept_5 fX4_13 rfl rfl ?_
  refine n_iconst 0 eX4_overslept_8 rfl ?_
  refine n_iald (f := mg_s t) (j := 0) eX4_overslept_9 rfl rfl (by first | omega | exact zlt (hs _) | exact hou _ | exact hop _) (by decide) ?_
  refine n_icmp_eq eX4_overslept_10 (by first | omega | exact zlt (hs _) | exact hou _ | exact hop _) (by first | omega | exact zlt (hs _) | exact hou _ | exact hop _) (fun hc10 => ?_) (fun hc10 => absurd hc10 (by omega))
  refine r_aload_n eX4_overslept_20 rfl rfl ?_
  refine r_callVv0 eX4_overslept_21 lX4_146 (Or.inl ⟨_, _, _, rfl, rfl, rfl⟩) (s4_findsM (t := t) (u := u) hm) (by omega) (Nat.le_of_ble_eq_true rfl) (fun h1 hq => ?_)
  obtain ⟨O21, P21, hh, hO21, hou21, hP21, hop21⟩ := hq
  obtain rfl := (show h1 = hA (mg_re t, mg_s t, mg_im t, mg_rd t, mg_ii t, mg_tp t, mg_tl t, mg_ta t, mg_at t, O21, P21, mg_br t, mg_nw t, mg_fs t, mg_bc t, mg_kr t, mg_rw t, mg_rc t) u from hh)
  refine n_iconst 0 eX4_overslept_24 rfl ?_
  refine r_istore_n eX4_overslept_25 rfl (by decide) ?_
  refine n_iconst 0 eX4_overslept_26 rfl ?_
  refine r_istore_n eX4_overslept_27 rfl (by decide) ?_
  refine Rq.mono (s4_overslept_l (t := (mg_re t, mg_s t, mg_im t, mg_rd t, mg_ii t, mg_tp t, mg_tl t, mg_ta t, mg_at t, O21, P21, mg_br t, mg_nw t, mg_fs t, mg_bc t, mg_kr t, mg_rw t, mg_rc t)) ⟨⟨hs, h0, h1⟩, hbr, hnw, hou21, hop21⟩ hrw (mg_s t 0) 0 0 (Nat.zero_add _) rfl) (fun r h' hq => ?_)
  obtain ⟨x, rfl, rfl, rfl⟩ := hq
  exact ⟨_, rfl, O21, P21, rfl, congrArg nI (zbs_cong (fun i hi => by show decide (O21 i < mg_rw t i) = _; rw [hO21 i hi])), hou21, hop21⟩
def zjud (f : Nat → Bool) (told n : Nat) : Option Nat := match zfind f (min told n) with
  | some p => some p
  | none => if told = n then none else some (min told n)
theorem zjud_some {f : Nat → Bool} {told n p : Nat} (h : ∀ i, i < p → f i = false) (hp : f p = true) (h1 : p < told) (h2 : p < n) : zjud f told n = some p := by
  unfold zjud
  rw [zfind_some h hp (by omega)]
theorem zjud_none {f : Nat → Bool} {told n : Nat} (h : ∀ i, i < min told n → f i = false) : zjud f told n = if told = n then none else some (min told n) := by
  unfold zjud
  rw [zfind_none h]
theorem zjud_cong {f g : Nat → Bool} {told n : Nat} (h : ∀ i, i < n → f i = g i) : zjud f told n = zjud g told n := by
  unfold zjud
  rw [zfind_cong (fun i hi => h i (by omega))]
set_option maxHeartbeats 1000000 in
set_option maxRecDepth 100000 in
theorem s4_judge_l {t : zMod} {u : zCls} (hm : mOk t) (hrw : ∀ i, mg_rw t i ≤ 1000) {tl : Nat} (htl : tl ≤ 7) : ∀ (k : Nat) (pp : Nat) (hd : pp + k = tl) (hpn : pp ≤ mg_s t 0) (hno : ∀ i, i < pp → (fun p => decide (¬ mg_rw t p = mg_ou t p)) i = false), Rq mX4_judge 8 none 16 [.ref 0, .int (nI (tl)), .int (nI (pp))] [] (hA t u) (fun r h' => ∃ x, r = some x ∧ (x = zor (zjud (fun p => decide (¬ mg_rw t p = mg_ou t p)) tl (mg_s t 0)) ∧ h' = hA t u)) := by
  intro k
  induction k with
  | zero =>
    intro pp hd hpn hno
    obtain ⟨⟨hs, h0, h1⟩, hbr, hnw, hou, hop⟩ := id hm
    refine r_iload_n eX4_judge_16 rfl rfl ?_
    refine r_iload_n eX4_judge_17 rfl rfl ?_
    refine n_icmp_ge eX4_judge_18 (by first | omega | exact zlt (hs _) | exact hou _ | exact hop _) (by first | omega | exact zlt (hs _) | exact hou _ | exact hop _) (fun hc18 => ?_) (fun hc18 => absurd hc18 (by omega))
    refine r_iload_n eX4_judge_54 rfl rfl ?_
    refine r_aload_n eX4_judge_55 rfl rfl ?_
    refine r_getf (v := .ref 2) eX4_judge_56 fX4_13 rfl rfl ?_
    refine n_iconst 0 eX4_judge_59 rfl ?_
    refine n_iald (f := mg_s t) (j := 0) eX4_judge_60 rfl rfl (by first | omega | exact zlt (hs _) | exact hou _ | exact hop _) (by decide) ?_
    refine n_icmp_ge eX4_judge_61 (by first | omega | exact zlt (hs _) | exact hou _ | exact hop _) (by first | omega | exact zlt (hs _) | exact hou _ | exact hop _) (fun hc61 => ?_) (fun hc61 => ?_)
    · refine r_bipush (v := (-9)) eX4_judge_68 rfl ?_
      refine z_iret eX4_judge_70 rfl rfl ⟨_, rfl, ?_, rfl⟩
      rw [zjud_none (fun i hi => hno i (by omega)), if_pos (by omega)]
      rfl
    · refine r_iload_n eX4_judge_64 rfl rfl ?_
      refine r_goto eX4_judge_65 ?_
      refine z_iret eX4_judge_70 rfl rfl ⟨_, rfl, ?_, rfl⟩
      rw [zjud_none (fun i hi => hno i (by omega)), if_neg (by omega), Nat.min_eq_left (by omega)]
      rfl
  | succ k ih =>
    intro pp hd hpn hno
    obtain ⟨⟨hs, h0, h1⟩, hbr, hnw, hou, hop⟩ := id hm
    have hoo := hou pp
    have hrr := hrw pp
    refine r_iload_n eX4_judge_16 rfl rfl ?_
    refine r_iload_n eX4_judge_17 rfl rfl ?_
    refine n_icmp_ge eX4_judge_18 (by first | omega | exact zlt (hs _)) (by first | omega | exact zlt (hs _)) (fun hc18 => absurd hc18 (by omega)) (fun hc18 => ?_)
    refine r_iload_n eX4_judge_21 rfl rfl ?_
    refine r_aload_n eX4_judge_22 rfl rfl ?_
    refine r_getf (v := .ref 2) eX4_judge_23 fX4_13 rfl rfl ?_
    refine n_iconst 0 eX4_judge_26 rfl ?_
    refine n_iald (f := mg_s t) (j := 0) eX4_judge_27 rfl rfl (by first | omega | exact zlt (hs _)) (by decide) ?_
    refine n_icmp_eq eX4_judge_28 (by first | omega | exact zlt (hs _)) (by first | omega | exact zlt (hs _)) (fun hc28 => ?_) (fun hc28 => ?_)
    · refine r_iload_n eX4_judge_46 rfl rfl ?_
      refine z_iret eX4_judge_47 rfl rfl ⟨_, rfl, ?_, rfl⟩
      rw [zjud_none (fun i hi => hno i (by omega)), if_neg (by omega), Nat.min_eq_right (by omega), ← hc28]
      rfl
    · refine r_aload_n eX4_judge_31 rfl rfl ?_
      refine r_getf (v := .ref 10) eX4_judge_32 fX4_37 rfl rfl ?_
      refine r_iload_n eX4_judge_35 rfl rfl ?_
      refine n_iald (f := mg_rw t) (j := pp) eX4_judge_36 rfl rfl (by first | omega | exact zlt (hs _)) (by decide) ?_
      refine r_aload_n eX4_judge_37 rfl rfl ?_
      refine r_getf (v := .ref 7) eX4_judge_38 fX4_28 rfl rfl ?_
      refine r_iload_n eX4_judge_41 rfl rfl ?_
      refine n_iald (f := mg_ou t) (j := pp) eX4_judge_42 rfl rfl (by first | omega | exact zlt (hs _)) (by decide) ?_
      refine n_icmp_eq eX4_judge_43 (by first | omega | exact zlt (hs _)) (by first | omega | exact zlt (hs _)) (fun hc43 => ?_) (fun hc43 => ?_)
      · refine n_iinc (k := 1) eX4_judge_48 rfl (by decide) rfl ?_
        refine r_goto eX4_judge_51 ?_
        refine ih (pp + 1) (by omega) (by omega) (fun i hi => ?_)
        by_cases e : i = pp
        · subst e
          exact decide_eq_false (by omega)
        · exact hno i (by omega)
      · refine r_iload_n eX4_judge_46 rfl rfl ?_
        refine z_iret eX4_judge_47 rfl rfl ⟨_, rfl, ?_, rfl⟩
        rw [zjud_some hno (decide_eq_true hc43) (by omega) (by omega)]
        rfl
set_option maxHeartbeats 1000000 in
set_option maxRecDepth 100000 in
theorem s4_judge {t : zMod} {u : zCls} (hm : mOk t) (hrw : ∀ i, mg_rw t i ≤ 1000) (hrc : mg_rc t ≤ 7) : Mi mX4_judge 8 [.ref 0] (hA t u) (fun r h' => ∃ (O' P' : Nat → Nat), h' = hA (mg_re t, mg_s t, mg_im t, mg_rd t, mg_ii t, mg_tp t, mg_tl t, mg_ta t, mg_at t, O', P', mg_br t, mg_nw t, mg_fs t, mg_bc t, mg_kr t, mg_rw t, 0) u ∧ r = zor (zjud (fun p => decide (¬ mg_rw t p = sO (mg_s t) (mg_nw t) (mg_br t) p)) (mg_rc t) (mg_s t 0)) ∧ (∀ i, O' i ≤ 1000000) ∧ ∀ i, P' i ≤ 1000000) := by
  obtain ⟨⟨hs, h0, h1⟩, hbr, hnw, hou, hop⟩ := id hm
  refine Mi.of (by decide) rfl (Nat.le_of_ble_eq_true rfl) ?_
  refine r_aload_n eX4_judge_0 rfl rfl ?_
  refine r_getf (v := .int (nI (mg_rc t))) eX4_judge_1 fX4_195 rfl rfl ?_
  refine r_istore_n eX4_judge_4 rfl (by decide) ?_
  refine r_aload_n eX4_judge_5 rfl rfl ?_
  refine n_iconst 0 eX4_judge_6 rfl ?_
  refine z_h (h' := hA (mg_re t, mg_s t, mg_im t, mg_rd t, mg_ii t, mg_tp t, mg_tl t, mg_ta t, mg_at t, mg_ou t, mg_op t, mg_br t, mg_nw t, mg_fs t, mg_bc t, mg_kr t, mg_rw t, mg_rc t) u) rfl ?_
  refine mp_rc (v := 0) eX4_judge_7 fX4_195 rfl ?_
  refine r_aload_n eX4_judge_10 rfl rfl ?_
  refine r_callVv0 eX4_judge_11 lX4_146 (Or.inl ⟨_, _, _, rfl, rfl, rfl⟩) (s4_findsM (t := (mg_re t, mg_s t, mg_im t, mg_rd t, mg_ii t, mg_tp t, mg_tl t, mg_ta t, mg_at t, mg_ou t, mg_op t, mg_br t, mg_nw t, mg_fs t, mg_bc t, mg_kr t, mg_rw t, 0)) (u := u) hm) (by omega) (Nat.le_of_ble_eq_true rfl) (fun h1 hq => ?_)
  obtain ⟨O11, P11, hh, hO11, hou11, hP11, hop11⟩ := hq
  obtain rfl := (show h1 = hA (mg_re t, mg_s t, mg_im t, mg_rd t, mg_ii t, mg_tp t, mg_tl t, mg_ta t, mg_at t, O11, P11, mg_br t, mg_nw t, mg_fs t, mg_bc t, mg_kr t, mg_rw t, 0) u from hh)
  refine n_iconst 0 eX4_judge_14 rfl ?_
  refine r_istore_n eX4_judge_15 rfl (by decide) ?_
  refine Rq.mono (s4_judge_l (t := (mg_re t, mg_s t, mg_im t, mg_rd t, mg_ii t, mg_tp t, mg_tl t, mg_ta t, mg_at t, O11, P11, mg_br t, mg_nw t, mg_fs t, mg_bc t, mg_kr t, mg_rw t, 0)) ⟨⟨hs, h0, h1⟩, hbr, hnw, hou11, hop11⟩ hrw hrc (mg_rc t) 0 (Nat.zero_add _) (Nat.zero_le _) (fun i hi => absurd hi (by omega))) (fun r h' hq => ?_)
  obtain ⟨x, rfl, rfl, rfl⟩ := hq
  exact ⟨_, rfl, O11, P11, rfl, congrArg zor (zjud_cong (fun i hi => by show decide (¬ mg_rw t i = O11 i) = _; rw [hO11 i hi]; rfl)), hou11, hop11⟩
theorem sDrop_ok {S : Nat → Nat} {k : Nat} (h : sOk S) (hk : k < S 1) : sOk (sDrop S k) := by
  obtain ⟨hs, h0, h1⟩ := h
  refine ⟨fun i => ?_, ?_, ?_⟩
  · unfold sDrop
    split
    · have := hs 1; omega
    · split
      · exact hs _
      · exact hs _
  · unfold sDrop
    rw [if_neg (by omega), if_neg (by omega)]
    exact h0
  · unfold sDrop
    rw [if_pos rfl]
    omega
theorem zcp_back {S K X : Nat → Nat} (h : ∀ i, 64 ≤ i → X i = S i) : zcp (zcp S K 64) X 64 = S := by
  funext i
  unfold zcp
  by_cases e : i < 64
  · rw [if_pos e, if_pos e]
  · rw [if_neg e]
    exact h i (by omega)
theorem sDrop_far {S : Nat → Nat} {k i : Nat} (h1 : S 1 ≤ 12) (hi : 64 ≤ i) : sDrop S k i = S i := by
  unfold sDrop
  rw [if_neg (by omega), if_neg (by omega)]
set_option maxHeartbeats 1000000 in
set_option maxRecDepth 100000 in
theorem s4_gone_n {t : zMod} {u : zCls} (hm : mOk t) {v : Int32} (hv : v < 0 ∨ nI (mg_s t 1) ≤ v) : Mi mX4_gone 9 [.ref 0, .int (v)] (hA t u) (fun r h' => r = (-1) ∧ h' = hA ((va_up (mg_re t) 1 (mg_re t 1 + 1)), mg_s t, mg_im t, mg_rd t, mg_ii t, mg_tp t, mg_tl t, mg_ta t, mg_at t, mg_ou t, mg_op t, mg_br t, mg_nw t, mg_fs t, mg_bc t, mg_kr t, mg_rw t, mg_rc t) u) := by
  refine Mi.of (by decide) rfl (Nat.le_of_ble_eq_true rfl) ?_
  refine r_aload_n eX4_gone_0 rfl rfl ?_
  refine r_iload_n eX4_gone_1 rfl rfl ?_
  refine r_callVi1 eX4_gone_2 lX4_103 (Or.inl ⟨_, _, _, rfl, rfl, rfl⟩) (s4_isKey_n (t := t) (u := u) hv) (by omega) (Nat.le_of_ble_eq_true rfl) (fun r1 h1 hq => ?_)
  obtain ⟨rfl, rfl⟩ := (show r1 = nI (0) ∧ h1 = hA t u from hq)
  refine n_if_ne eX4_gone_5 (by first | omega | exact zlt (hs _) | exact hou _ | exact hop _) (fun hc5 => absurd hc5 (by decide)) (fun hc5 => ?_)
  refine r_aload_n eX4_gone_8 rfl rfl ?_
  refine r_iconst (v := (-1)) eX4_gone_9 rfl ?_
  refine r_callVi1 eX4_gone_10 lX4_52 (Or.inl ⟨_, _, _, rfl, rfl, rfl⟩) (s4_refuse (t := t) (u := u) (x := (-1)) (c := 1) (by decide) (by decide)) (by omega) (Nat.le_of_ble_eq_true rfl) (fun r1 h1 hq => ?_)
  obtain ⟨rfl, rfl⟩ := (show r1 = (-1) ∧ h1 = hA ((va_up (mg_re t) 1 ((mg_re t) 1 + 1)), mg_s t, mg_im t, mg_rd t, mg_ii t, mg_tp t, mg_tl t, mg_ta t, mg_at t, mg_ou t, mg_op t, mg_br t, mg_nw t, mg_fs t, mg_bc t, mg_kr t, mg_rw t, mg_rc t) u from hq)
  exact z_iret eX4_gone_13 rfl rfl ⟨_, rfl, rfl, rfl⟩
set_option maxHeartbeats 1000000 in
set_option maxRecDepth 100000 in
theorem s4_gone_k {t : zMod} {u : zCls} (hm : mOk t) {v : Nat} (hv : v < mg_s t 1) : Mi mX4_gone 9 [.ref 0, .int (nI (v))] (hA t u) (fun r h' => ∃ (O' P' : Nat → Nat), h' = hA (mg_re t, mg_s t, mg_im t, mg_rd t, mg_ii t, mg_tp t, mg_tl t, mg_ta t, mg_at t, O', P', mg_br t, mg_nw t, mg_fs t, mg_bc t, (zcp (mg_s t) (mg_kr t) 64), mg_rw t, mg_rc t) u ∧ r = nI (zbs (fun p => decide (sO (sDrop (mg_s t) v) (mg_nw t) (mg_br t) p = 1000000)) ((sDrop (mg_s t) v) 0)) &&& (nI (zbs (fun p => decide (sO (mg_s t) (mg_nw t) (mg_br t) p = 1000000)) ((mg_s t) 0)) ^^^ (-1)) ∧ (∀ i, O' i ≤ 1000000) ∧ ∀ i, P' i ≤ 1000000) := by
  obtain ⟨⟨hs, h0, h1⟩, hbr, hnw, hou, hop⟩ := id hm
  refine Mi.of (by decide) rfl (Nat.le_of_ble_eq_true rfl) ?_
  refine r_aload_n eX4_gone_0 rfl rfl ?_
  refine r_iload_n eX4_gone_1 rfl rfl ?_
  refine r_callVi1 eX4_gone_2 lX4_103 (Or.inl ⟨_, _, _, rfl, rfl, rfl⟩) (s4_isKey_y (t := t) (u := u) h1 hv) (by omega) (Nat.le_of_ble_eq_true rfl) (fun r1 h1 hq => ?_)
  obtain ⟨rfl, rfl⟩ := (show r1 = nI (1) ∧ h1 = hA t u from hq)
  refine n_if_ne eX4_gone_5 (by first | omega | exact zlt (hs _) | exact hou _ | exact hop _) (fun hc5 => ?_) (fun hc5 => absurd hc5 (by decide))
  refine r_aload_n eX4_gone_14 rfl rfl ?_
  refine r_callVi0 eX4_gone_15 lX4_186 (Or.inl ⟨_, _, _, rfl, rfl, rfl⟩) (s4_neverOut (t := t) (u := u) hm) (by omega) (Nat.le_of_ble_eq_true rfl) (fun r1 h1 hq => ?_)
  obtain ⟨O15, P15, hh, hr, hou15, hop15⟩ := hq
  obtain rfl := (show h1 = hA (mg_re t, mg_s t, mg_im t, mg_rd t, mg_ii t, mg_tp t, mg_tl t, mg_ta t, mg_at t, O15, P15, mg_br t, mg_nw t, mg_fs t, mg_bc t, mg_kr t, mg_rw t, mg_rc t) u from hh)
  obtain rfl := (show r1 = nI (zbs (fun p => decide (sO (mg_s t) (mg_nw t) (mg_br t) p = 1000000)) ((mg_s t) 0)) from hr)
  refine r_istore_n eX4_gone_18 rfl (by decide) ?_
  refine r_aload_n eX4_gone_19 rfl rfl ?_
  refine r_getf (v := .ref 2) eX4_gone_20 fX4_13 rfl rfl ?_
  refine r_aload_n eX4_gone_23 rfl rfl ?_
  refine r_getf (v := .ref 9) eX4_gone_24 fX4_34 rfl rfl ?_
  refine r_callSv2 eX4_gone_27 lX4_80 (s4_copiesTo_s_kr (t := (mg_re t, mg_s t, mg_im t, mg_rd t, mg_ii t, mg_tp t, mg_tl t, mg_ta t, mg_at t, O15, P15, mg_br t, mg_nw t, mg_fs t, mg_bc t, mg_kr t, mg_rw t, mg_rc t)) (u := u) ) (by omega) (Nat.le_of_ble_eq_true rfl) (fun h1 hq => ?_)
  obtain rfl := (show h1 = hA (mg_re t, mg_s t, mg_im t, mg_rd t, mg_ii t, mg_tp t, mg_tl t, mg_ta t, mg_at t, O15, P15, mg_br t, mg_nw t, mg_fs t, mg_bc t, (zcp (mg_s t) (mg_kr t) 64), mg_rw t, mg_rc t) u from hq)
  refine r_aload_n eX4_gone_30 rfl rfl ?_
  refine r_iload_n eX4_gone_31 rfl rfl ?_
  refine r_callVv1 eX4_gone_32 lX4_113 (Or.inl ⟨_, _, _, rfl, rfl, rfl⟩) (s4_takesAway (t := (mg_re t, mg_s t, mg_im t, mg_rd t, mg_ii t, mg_tp t, mg_tl t, mg_ta t, mg_at t, O15, P15, mg_br t, mg_nw t, mg_fs t, mg_bc t, (zcp (mg_s t) (mg_kr t) 64), mg_rw t, mg_rc t)) (u := u) h1 hv) (by omega) (Nat.le_of_ble_eq_true rfl) (fun h1 hq => ?_)
  obtain rfl := (show h1 = hA (mg_re t, (sDrop (mg_s t) v), mg_im t, mg_rd t, mg_ii t, mg_tp t, mg_tl t, mg_ta t, mg_at t, O15, P15, mg_br t, mg_nw t, mg_fs t, mg_bc t, (zcp (mg_s t) (mg_kr t) 64), mg_rw t, mg_rc t) u from hq)
  refine r_aload_n eX4_gone_35 rfl rfl ?_
  refine r_callVi0 eX4_gone_36 lX4_186 (Or.inl ⟨_, _, _, rfl, rfl, rfl⟩) (s4_neverOut (t := (mg_re t, (sDrop (mg_s t) v), mg_im t, mg_rd t, mg_ii t, mg_tp t, mg_tl t, mg_ta t, mg_at t, O15, P15, mg_br t, mg_nw t, mg_fs t, mg_bc t, (zcp (mg_s t) (mg_kr t) 64), mg_rw t, mg_rc t)) (u := u) ⟨sDrop_ok ⟨hs, h0, h1⟩ hv, hbr, hnw, hou15, hop15⟩) (by omega) (Nat.le_of_ble_eq_true rfl) (fun r1 h1 hq => ?_)
  obtain ⟨O36, P36, hh, hr, hou36, hop36⟩ := hq
  obtain rfl := (show h1 = hA (mg_re t, (sDrop (mg_s t) v), mg_im t, mg_rd t, mg_ii t, mg_tp t, mg_tl t, mg_ta t, mg_at t, O36, P36, mg_br t, mg_nw t, mg_fs t, mg_bc t, (zcp (mg_s t) (mg_kr t) 64), mg_rw t, mg_rc t) u from hh)
  obtain rfl := (show r1 = nI (zbs (fun p => decide (sO (sDrop (mg_s t) v) (mg_nw t) (mg_br t) p = 1000000)) ((sDrop (mg_s t) v) 0)) from hr)
  refine r_istore_n eX4_gone_39 rfl (by decide) ?_
  refine r_aload_n eX4_gone_40 rfl rfl ?_
  refine r_getf (v := .ref 9) eX4_gone_41 fX4_34 rfl rfl ?_
  refine r_aload_n eX4_gone_44 rfl rfl ?_
  refine r_getf (v := .ref 2) eX4_gone_45 fX4_13 rfl rfl ?_
  refine r_callSv2 eX4_gone_48 lX4_80 (s4_copiesTo_kr_s (t := (mg_re t, (sDrop (mg_s t) v), mg_im t, mg_rd t, mg_ii t, mg_tp t, mg_tl t, mg_ta t, mg_at t, O36, P36, mg_br t, mg_nw t, mg_fs t, mg_bc t, (zcp (mg_s t) (mg_kr t) 64), mg_rw t, mg_rc t)) (u := u) ) (by omega) (Nat.le_of_ble_eq_true rfl) (fun h1 hq => ?_)
  obtain rfl := (show h1 = hA (mg_re t, (zcp (zcp (mg_s t) (mg_kr t) 64) (sDrop (mg_s t) v) 64), mg_im t, mg_rd t, mg_ii t, mg_tp t, mg_tl t, mg_ta t, mg_at t, O36, P36, mg_br t, mg_nw t, mg_fs t, mg_bc t, (zcp (mg_s t) (mg_kr t) 64), mg_rw t, mg_rc t) u from hq)
  refine r_iload_n eX4_gone_51 rfl rfl ?_
  refine r_iload_n eX4_gone_52 rfl rfl ?_
  refine r_iconst (v := (-1)) eX4_gone_53 rfl ?_
  refine r_ixor eX4_gone_54 ?_
  refine r_iand eX4_gone_55 ?_
  refine z_iret eX4_gone_56 rfl rfl ⟨_, rfl, O36, P36, ?_, rfl, hou36, hop36⟩
  rw [zcp_back (fun i hi => sDrop_far h1 hi)]
def zsd (z : Int32) : Int32 := z * 1664525 + 1013904223
def zdr (z : Int32) : Nat := z.toBitVec.toNat % 2 ^ 31 / 256 % 100
def zsN (z : Int32) : Nat → Int32
  | 0 => z
  | n + 1 => zsd (zsN z n)
/-- the sum of n mornings, and the seed behind them; m people -/
def zss (f : Int32 → Nat) (m : Nat) (z : Int32) : Nat → Nat × Int32
  | 0 => (0, z)
  | n + 1 => ((zss f m z n).1 + f (zss f m z n).2, zsN (zss f m z n).2 m)
theorem zdr_is (x : Int32) : x &&& nI 2147483647 = nI (x.toBitVec.toNat % 2 ^ 31) := pk_and x 31 (by decide)
/-- the row s with the wakes of this seed -/
def sDraw (S : Nat → Nat) (z : Int32) (m i : Nat) : Nat := if i % 5 = 1 ∧ 6 ≤ i ∧ i < 6 + 5 * m then zdr (zsN z ((i - 6) / 5 + 1)) else S i
def sSeedV (S : Nat → Nat) (nw br : Nat) (z : Int32) : Nat := if sAll (sDraw S z (S 0)) nw br < 1000000 then sAll (sDraw S z (S 0)) nw br else 0
theorem sDraw_ok {S : Nat → Nat} {z : Int32} {m : Nat} (h : sOk S) (hm : m ≤ 7) : sOk (sDraw S z m) := by
  obtain ⟨hs, h0, h1⟩ := h
  refine ⟨fun i => ?_, ?_, ?_⟩
  · unfold sDraw
    split
    · unfold zdr; omega
    · exact hs _
  · unfold sDraw
    rw [if_neg (by omega)]
    exact h0
  · unfold sDraw
    rw [if_neg (by omega)]
    exact h1
set_option maxHeartbeats 1000000 in
set_option maxRecDepth 100000 in
theorem s4_seeds_b {t : zMod} {u : zCls} {n z : Int32} (hn : n < nI 1) : Mi mX4_seeds 9 [.ref 0, .int (n), .int (z)] (hA t u) (fun r h' => r = (-4) ∧ h' = hA ((va_up (mg_re t) 4 (mg_re t 4 + 1)), mg_s t, mg_im t, mg_rd t, mg_ii t, mg_tp t, mg_tl t, mg_ta t, mg_at t, mg_ou t, mg_op t, mg_br t, mg_nw t, mg_fs t, mg_bc t, mg_kr t, mg_rw t, mg_rc t) u) := by
  refine Mi.of (by decide) rfl (Nat.le_of_ble_eq_true rfl) ?_
  refine r_iload_n eX4_seeds_0 rfl rfl ?_
  refine n_iconst 1 eX4_seeds_1 rfl ?_
  refine n_bipush 20 eX4_seeds_2 rfl ?_
  refine r_callSi3 eX4_seeds_4 lX4_44 (s4_within_b hn) (by omega) (Nat.le_of_ble_eq_true rfl) (fun r1 h1 hq => ?_)
  obtain ⟨rfl, rfl⟩ := hq
  refine r_istore_n eX4_seeds_7 rfl (by decide) ?_
  refine r_iload_n eX4_seeds_8 rfl rfl ?_
  refine r_if_eq eX4_seeds_9 (fun hc9 => absurd hc9 (by decide)) (fun hc9 => ?_)
  refine r_aload_n eX4_seeds_12 rfl rfl ?_
  refine r_iload_n eX4_seeds_13 rfl rfl ?_
  refine r_callVi1 eX4_seeds_14 lX4_52 (Or.inl ⟨_, _, _, rfl, rfl, rfl⟩) (s4_refuse (t := t) (u := u) (x := (-4)) (c := 4) (by decide) (by decide)) (by omega) (Nat.le_of_ble_eq_true rfl) (fun r1 h1 hq => ?_)
  obtain ⟨rfl, rfl⟩ := (show r1 = (-4) ∧ h1 = hA ((va_up (mg_re t) 4 ((mg_re t) 4 + 1)), mg_s t, mg_im t, mg_rd t, mg_ii t, mg_tp t, mg_tl t, mg_ta t, mg_at t, mg_ou t, mg_op t, mg_br t, mg_nw t, mg_fs t, mg_bc t, mg_kr t, mg_rw t, mg_rc t) u from hq)
  exact z_iret eX4_seeds_17 rfl rfl ⟨_, rfl, rfl, rfl⟩
set_option maxHeartbeats 1000000 in
set_option maxRecDepth 100000 in
theorem s4_seeds_r {t : zMod} {u : zCls} {n z : Int32} (hn0 : nI 1 ≤ n) (hn : nI 20 < n) : Mi mX4_seeds 9 [.ref 0, .int (n), .int (z)] (hA t u) (fun r h' => r = (-6) ∧ h' = hA ((va_up (mg_re t) 6 (mg_re t 6 + 1)), mg_s t, mg_im t, mg_rd t, mg_ii t, mg_tp t, mg_tl t, mg_ta t, mg_at t, mg_ou t, mg_op t, mg_br t, mg_nw t, mg_fs t, mg_bc t, mg_kr t, mg_rw t, mg_rc t) u) := by
  refine Mi.of (by decide) rfl (Nat.le_of_ble_eq_true rfl) ?_
  refine r_iload_n eX4_seeds_0 rfl rfl ?_
  refine n_iconst 1 eX4_seeds_1 rfl ?_
  refine n_bipush 20 eX4_seeds_2 rfl ?_
  refine r_callSi3 eX4_seeds_4 lX4_44 (s4_within_r hn0 hn) (by omega) (Nat.le_of_ble_eq_true rfl) (fun r1 h1 hq => ?_)
  obtain ⟨rfl, rfl⟩ := hq
  refine r_istore_n eX4_seeds_7 rfl (by decide) ?_
  refine r_iload_n eX4_seeds_8 rfl rfl ?_
  refine r_if_eq eX4_seeds_9 (fun hc9 => absurd hc9 (by decide)) (fun hc9 => ?_)
  refine r_aload_n eX4_seeds_12 rfl rfl ?_
  refine r_iload_n eX4_seeds_13 rfl rfl ?_
  refine r_callVi1 eX4_seeds_14 lX4_52 (Or.inl ⟨_, _, _, rfl, rfl, rfl⟩) (s4_refuse (t := t) (u := u) (x := (-6)) (c := 6) (by decide) (by decide)) (by omega) (Nat.le_of_ble_eq_true rfl) (fun r1 h1 hq => ?_)
  obtain ⟨rfl, rfl⟩ := (show r1 = (-6) ∧ h1 = hA ((va_up (mg_re t) 6 ((mg_re t) 6 + 1)), mg_s t, mg_im t, mg_rd t, mg_ii t, mg_tp t, mg_tl t, mg_ta t, mg_at t, mg_ou t, mg_op t, mg_br t, mg_nw t, mg_fs t, mg_bc t, mg_kr t, mg_rw t, mg_rc t) u from hq)
  exact z_iret eX4_seeds_17 rfl rfl ⟨_, rfl, rfl, rfl⟩
set_option maxHeartbeats 1000000 in
set_option maxRecDepth 100000 in
theorem s4_seeds_i {t : zMod} {u : zCls} (h0 : mg_s t 0 ≤ 7) {n su dd : Nat} {z z0 : Int32} {O P : Nat → Nat} {Q : Option Int32 → List zC → Prop} (kk : Rq mX4_seeds 9 none 99 [.ref 0, .int (nI n), .int z, .int (nI 0), .int (zsN z0 (mg_s t 0)), .int (nI su), .int (nI dd), .int (nI (mg_s t 0))] [] (hA (mg_re t, (sDraw (mg_s t) z0 (mg_s t 0)), mg_im t, mg_rd t, mg_ii t, mg_tp t, mg_tl t, mg_ta t, mg_at t, O, P, mg_br t, mg_nw t, mg_fs t, mg_bc t, mg_kr t, mg_rw t, mg_rc t) u) Q) : ∀ (k : Nat) (pp : Nat) (X : Nat → Nat) (hd : pp + k = mg_s t 0) (hX : ∀ i, X i = sDraw (mg_s t) z0 pp i), Rq mX4_seeds 9 none 47 [.ref 0, .int (nI (n)), .int (z), .int (nI (0)), .int (zsN z0 pp), .int (nI (su)), .int (nI (dd)), .int (nI (pp))] [] (hA (mg_re t, X, mg_im t, mg_rd t, mg_ii t, mg_tp t, mg_tl t, mg_ta t, mg_at t, O, P, mg_br t, mg_nw t, mg_fs t, mg_bc t, mg_kr t, mg_rw t, mg_rc t) u) Q  := by
  intro k
  induction k with
  | zero =>
    intro pp X hd hX
    have hX0 : X 0 = mg_s t 0 := by rw [hX 0]; unfold sDraw; rw [if_neg (by omega)]
    refine r_iload eX4_seeds_47 rfl ?_
    refine r_aload_n eX4_seeds_49 rfl rfl ?_
    refine r_getf (v := .ref 2) eX4_seeds_50 fX4_13 rfl rfl ?_
    refine n_iconst 0 eX4_seeds_53 rfl ?_
    refine n_iald (f := X) (j := 0) eX4_seeds_54 rfl rfl (by omega) (by decide) ?_
    refine z_top (y := nI (mg_s t 0)) (congrArg nI hX0) ?_
    refine n_icmp_ge eX4_seeds_55 (by omega) (by omega) (fun hc55 => ?_) (fun hc55 => absurd hc55 (by omega))
    have e0 : pp = mg_s t 0 := by omega
    have e1 : X = sDraw (mg_s t) z0 (mg_s t 0) := funext fun i => by rw [hX i, e0]
    rw [e1, e0]
    exact kk
  | succ k ih =>
    intro pp X hd hX
    have hX0 : X 0 = mg_s t 0 := by rw [hX 0]; unfold sDraw; rw [if_neg (by omega)]
    refine r_iload eX4_seeds_47 rfl ?_
    refine r_aload_n eX4_seeds_49 rfl rfl ?_
    refine r_getf (v := .ref 2) eX4_seeds_50 fX4_13 rfl rfl ?_
    refine n_iconst 0 eX4_seeds_53 rfl ?_
    refine n_iald (f := X) (j := 0) eX4_seeds_54 rfl rfl (by omega) (by decide) ?_
    refine z_top (y := nI (mg_s t 0)) (congrArg nI hX0) ?_
    refine n_icmp_ge eX4_seeds_55 (by omega) (by omega) (fun hc55 => absurd hc55 (by omega)) (fun hc55 => ?_)
    refine r_iload eX4_seeds_58 rfl ?_
    refine n_ldc 1664525 eX4_seeds_60 kX4_198 rfl ?_
    refine r_imul eX4_seeds_62 ?_
    refine n_ldc 1013904223 eX4_seeds_63 kX4_199 rfl ?_
    refine r_iadd eX4_seeds_65 ?_
    refine z_top (y := zsN z0 (pp + 1)) (rfl) ?_
    refine r_istore eX4_seeds_66 (by decide) ?_
    refine r_aload_n eX4_seeds_68 rfl rfl ?_
    refine r_getf (v := .ref 2) eX4_seeds_69 fX4_13 rfl rfl ?_
    refine n_iconst 5 eX4_seeds_72 rfl ?_
    refine n_iconst 5 eX4_seeds_73 rfl ?_
    refine r_iload eX4_seeds_74 rfl ?_
    refine n_mul eX4_seeds_76 ?_
    refine n_add eX4_seeds_77 ?_
    refine n_iconst 1 eX4_seeds_78 rfl ?_
    refine n_add eX4_seeds_79 ?_
    refine r_iload eX4_seeds_80 rfl ?_
    refine n_ldc 2147483647 eX4_seeds_82 kX4_200 rfl ?_
    refine r_iand eX4_seeds_84 ?_
    refine z_top (y := nI ((zsN z0 (pp + 1)).toBitVec.toNat % 2 ^ 31)) (zdr_is _) ?_
    refine n_sipush 256 eX4_seeds_85 rfl ?_
    refine n_div eX4_seeds_88 (by omega) (by omega) (by omega) ?_
    refine n_bipush 100 eX4_seeds_89 rfl ?_
    refine n_rem eX4_seeds_91 (by omega) (by omega) (by omega) ?_
    refine mw_s (j := (5 + (5 * pp)) + 1) (v := (((zsN z0 (pp + 1)).toBitVec.toNat % 2 ^ 31) / 256) % 100) eX4_seeds_92 rfl rfl (by omega) ?_
    refine n_iinc (k := 1) eX4_seeds_93 rfl (by decide) rfl ?_
    refine r_goto eX4_seeds_96 ?_
    refine ih (pp + 1) ((va_up (X) ((5 + (5 * pp)) + 1) ((((zsN z0 (pp + 1)).toBitVec.toNat % 2 ^ 31) / 256) % 100))) (by omega) (fun i => ?_)
    unfold va_up sDraw
    by_cases e : i = 5 + 5 * pp + 1
    · rw [if_pos e, if_pos (by omega), show (i - 6) / 5 = pp by omega]
      rfl
    · rw [if_neg e, hX i]
      unfold sDraw
      by_cases e2 : i % 5 = 1 ∧ 6 ≤ i ∧ i < 6 + 5 * pp
      · rw [if_pos e2, if_pos (by omega)]
      · rw [if_neg e2, if_neg (by omega)]
theorem sSeedV_le {S : Nat → Nat} {nw br : Nat} {z : Int32} (h : sOk S) : sSeedV S nw br z ≤ 500000 := by
  unfold sSeedV
  split
  · rename_i hlt
    have := zmx_is (f := sO (sDraw S z (S 0)) nw br) (n := sDraw S z (S 0) 0) (fun i hi => sO_is (sDraw_ok h h.2.1) hi)
    unfold sAll at hlt ⊢
    omega
  · omega
theorem sDraw_draw {S X : Nat → Nat} {z : Int32} {m : Nat} (h : ∀ i, (¬ (i % 5 = 1 ∧ 6 ≤ i ∧ i < 6 + 5 * m)) → X i = S i) : sDraw X z m = sDraw S z m := by
  funext i
  unfold sDraw
  by_cases e : i % 5 = 1 ∧ 6 ≤ i ∧ i < 6 + 5 * m
  · rw [if_pos e, if_pos e]
  · rw [if_neg e, if_neg e]
    exact h i e
set_option maxHeartbeats 1000000 in
set_option maxRecDepth 100000 in
theorem s4_seeds_o {t : zMod} {u : zCls} (hm : mOk t) {n : Nat} {z : Int32} (hn : n ≤ 20) : ∀ (k : Nat) (dd : Nat) (X : Nat → Nat) (su : Nat) (zd : Int32) (O P : Nat → Nat) (v7 : Value) (hd : dd + k = n) (hX : ∀ i, (¬ (i % 5 = 1 ∧ 6 ≤ i ∧ i < 6 + 5 * mg_s t 0)) → X i = mg_s t i) (hsu : su = (zss (sSeedV (mg_s t) (mg_nw t) (mg_br t)) (mg_s t 0) z dd).1) (hzd : zd = (zss (sSeedV (mg_s t) (mg_nw t) (mg_br t)) (mg_s t 0) z dd).2) (hO : ∀ i, O i ≤ 1000000) (hP : ∀ i, P i ≤ 1000000), Rq mX4_seeds 9 none 38 [.ref 0, .int (nI n), .int z, .int (nI 0), .int zd, .int (nI su), .int (nI dd), v7] [] (hA (mg_re t, X, mg_im t, mg_rd t, mg_ii t, mg_tp t, mg_tl t, mg_ta t, mg_at t, O, P, mg_br t, mg_nw t, mg_fs t, mg_bc t, (zcp (mg_s t) (mg_kr t) 64), mg_rw t, mg_rc t) u) (fun r h' => ∃ x, r = some x ∧ (∃ (O' P' : Nat → Nat), h' = hA (mg_re t, mg_s t, mg_im t, mg_rd t, mg_ii t, mg_tp t, mg_tl t, mg_ta t, mg_at t, O', P', mg_br t, mg_nw t, mg_fs t, mg_bc t, (zcp (mg_s t) (mg_kr t) 64), mg_rw t, mg_rc t) u ∧ x = nI (zss (sSeedV (mg_s t) (mg_nw t) (mg_br t)) (mg_s t 0) z n).1 ∧ (∀ i, O' i ≤ 1000000) ∧ ∀ i, P' i ≤ 1000000)) := by
  obtain ⟨⟨hs, h0, h1⟩, hbr, hnw, hou, hop⟩ := id hm
  intro k
  induction k with
  | zero =>
    intro dd X su zd O P v7 hd hX hsu hzd hO hP
    have hde : dd = n := by omega
    subst hde
    refine r_iload eX4_seeds_38 rfl ?_
    refine r_iload_n eX4_seeds_40 rfl rfl ?_
    refine n_icmp_ge eX4_seeds_41 (by first | omega | exact zlt (hs _) | exact hou _ | exact hop _) (by first | omega | exact zlt (hs _) | exact hou _ | exact hop _) (fun hc41 => ?_) (fun hc41 => absurd hc41 (by omega))
    refine r_aload_n eX4_seeds_129 rfl rfl ?_
    refine r_getf (v := .ref 9) eX4_seeds_130 fX4_34 rfl rfl ?_
    refine r_aload_n eX4_seeds_133 rfl rfl ?_
    refine r_getf (v := .ref 2) eX4_seeds_134 fX4_13 rfl rfl ?_
    refine r_callSv2 eX4_seeds_137 lX4_80 (s4_copiesTo_kr_s (t := (mg_re t, X, mg_im t, mg_rd t, mg_ii t, mg_tp t, mg_tl t, mg_ta t, mg_at t, O, P, mg_br t, mg_nw t, mg_fs t, mg_bc t, (zcp (mg_s t) (mg_kr t) 64), mg_rw t, mg_rc t)) (u := u) ) (by omega) (Nat.le_of_ble_eq_true rfl) (fun h1 hq => ?_)
    obtain rfl := (show h1 = hA (mg_re t, (zcp (zcp (mg_s t) (mg_kr t) 64) X 64), mg_im t, mg_rd t, mg_ii t, mg_tp t, mg_tl t, mg_ta t, mg_at t, O, P, mg_br t, mg_nw t, mg_fs t, mg_bc t, (zcp (mg_s t) (mg_kr t) 64), mg_rw t, mg_rc t) u from hq)
    refine r_iload eX4_seeds_140 rfl ?_
    refine z_iret eX4_seeds_142 rfl rfl ⟨_, rfl, O, P, ?_, by rw [hsu], hO, hP⟩
    rw [zcp_back (fun i hi => hX i (by omega))]
  | succ k ih =>
    intro dd X su zd O P v7 hd hX hsu hzd hO hP
    have hsl : su ≤ 500000 * dd := by
      rw [hsu]
      clear hsu hzd hd ih
      induction dd with
      | zero => exact Nat.zero_le _
      | succ dd ihd =>
        have := sSeedV_le (S := mg_s t) (nw := mg_nw t) (br := mg_br t) (z := (zss (sSeedV (mg_s t) (mg_nw t) (mg_br t)) (mg_s t 0) z dd).2) ⟨hs, h0, h1⟩
        rw [zss]
        omega
    refine r_iload eX4_seeds_38 rfl ?_
    refine r_iload_n eX4_seeds_40 rfl rfl ?_
    refine n_icmp_ge eX4_seeds_41 (by first | omega | exact zlt (hs _) | exact hou _ | exact hop _) (by first | omega | exact zlt (hs _) | exact hou _ | exact hop _) (fun hc41 => absurd hc41 (by omega)) (fun hc41 => ?_)
    refine n_iconst 0 eX4_seeds_44 rfl ?_
    refine r_istore eX4_seeds_45 (by decide) ?_
    refine s4_seeds_i (t := (mg_re t, X, mg_im t, mg_rd t, mg_ii t, mg_tp t, mg_tl t, mg_ta t, mg_at t, mg_ou t, mg_op t, mg_br t, mg_nw t, mg_fs t, mg_bc t, (zcp (mg_s t) (mg_kr t) 64), mg_rw t, mg_rc t)) (u := u) (z0 := zd) (O := O) (P := P) (by show X 0 ≤ 7; rw [hX 0 (by omega)]; exact h0) ?_ (X 0) 0 X (Nat.zero_add _) (fun i => by unfold sDraw; rw [if_neg (by omega)]; rfl)
    have e0 : X 0 = mg_s t 0 := hX 0 (by omega)
    refine z_h (h' := hA (mg_re t, (sDraw X zd (X 0)), mg_im t, mg_rd t, mg_ii t, mg_tp t, mg_tl t, mg_ta t, mg_at t, O, P, mg_br t, mg_nw t, mg_fs t, mg_bc t, (zcp (mg_s t) (mg_kr t) 64), mg_rw t, mg_rc t) u) rfl ?_
    rw [show mg_s (mg_re t, X, mg_im t, mg_rd t, mg_ii t, mg_tp t, mg_tl t, mg_ta t, mg_at t, mg_ou t, mg_op t, mg_br t, mg_nw t, mg_fs t, mg_bc t, (zcp (mg_s t) (mg_kr t) 64), mg_rw t, mg_rc t) 0 = mg_s t 0 from e0, e0, sDraw_draw hX]
    refine r_aload_n eX4_seeds_99 rfl rfl ?_
    refine r_callVi0 eX4_seeds_100 lX4_152 (Or.inl ⟨_, _, _, rfl, rfl, rfl⟩) (s4_allOut (t := (mg_re t, (sDraw (mg_s t) zd (mg_s t 0)), mg_im t, mg_rd t, mg_ii t, mg_tp t, mg_tl t, mg_ta t, mg_at t, O, P, mg_br t, mg_nw t, mg_fs t, mg_bc t, (zcp (mg_s t) (mg_kr t) 64), mg_rw t, mg_rc t)) (u := u) ⟨sDraw_ok ⟨hs, h0, h1⟩ h0, hbr, hnw, hO, hP⟩) (by omega) (Nat.le_of_ble_eq_true rfl) (fun r1 h1 hq => ?_)
    obtain ⟨O3, P3, hh, hr, hou3, hop3⟩ := hq
    obtain rfl := (show h1 = hA (mg_re t, (sDraw (mg_s t) zd (mg_s t 0)), mg_im t, mg_rd t, mg_ii t, mg_tp t, mg_tl t, mg_ta t, mg_at t, O3, P3, mg_br t, mg_nw t, mg_fs t, mg_bc t, (zcp (mg_s t) (mg_kr t) 64), mg_rw t, mg_rc t) u from hh)
    obtain rfl := (show r1 = nI (sAll (sDraw (mg_s t) zd (mg_s t 0)) (mg_nw t) (mg_br t)) from hr)
    refine r_istore eX4_seeds_103 (by decide) ?_
    refine r_iload eX4_seeds_105 rfl ?_
    refine r_iload eX4_seeds_107 rfl ?_
    refine n_ldc 1000000 eX4_seeds_109 kX4_129 rfl ?_
    refine n_icmp_ge eX4_seeds_111 (by first | omega | (have := zmx_is (f := sO (sDraw (mg_s t) zd (mg_s t 0)) (mg_nw t) (mg_br t)) (n := (sDraw (mg_s t) zd (mg_s t 0)) 0) (fun i hi => sO_is (sDraw_ok ⟨hs, h0, h1⟩ h0) hi); unfold sAll; omega)) (by first | omega | (have := zmx_is (f := sO (sDraw (mg_s t) zd (mg_s t 0)) (mg_nw t) (mg_br t)) (n := (sDraw (mg_s t) zd (mg_s t 0)) 0) (fun i hi => sO_is (sDraw_ok ⟨hs, h0, h1⟩ h0) hi); unfold sAll; omega)) (fun hc111 => ?_) (fun hc111 => ?_)
    · refine n_iconst 0 eX4_seeds_119 rfl ?_
      refine n_add eX4_seeds_120 ?_
      refine r_istore eX4_seeds_121 (by decide) ?_
      refine n_iinc (k := 1) eX4_seeds_123 rfl (by decide) rfl ?_
      refine r_goto eX4_seeds_126 ?_
      have hv : (if sAll (sDraw (mg_s t) zd (mg_s t 0)) (mg_nw t) (mg_br t) < 1000000 then sAll (sDraw (mg_s t) zd (mg_s t 0)) (mg_nw t) (mg_br t) else 0) = sSeedV (mg_s t) (mg_nw t) (mg_br t) zd := rfl
      rw [if_neg (by omega)] at hv
      refine ih (dd + 1) (sDraw (mg_s t) zd (mg_s t 0)) (su + 0) (zsN zd (mg_s t 0)) O3 P3 _ (by omega) (fun i hi => ?_) ?_ ?_ hou3 hop3
      · unfold sDraw
        rw [if_neg hi]
      · rw [zss, ← hsu, ← hzd, hv]
      · rw [zss, ← hzd]
    · refine r_iload eX4_seeds_114 rfl ?_
      refine r_goto eX4_seeds_116 ?_
      refine n_add eX4_seeds_120 ?_
      refine r_istore eX4_seeds_121 (by decide) ?_
      refine n_iinc (k := 1) eX4_seeds_123 rfl (by decide) rfl ?_
      refine r_goto eX4_seeds_126 ?_
      have hv : (if sAll (sDraw (mg_s t) zd (mg_s t 0)) (mg_nw t) (mg_br t) < 1000000 then sAll (sDraw (mg_s t) zd (mg_s t 0)) (mg_nw t) (mg_br t) else 0) = sSeedV (mg_s t) (mg_nw t) (mg_br t) zd := rfl
      rw [if_pos (by omega)] at hv
      refine ih (dd + 1) (sDraw (mg_s t) zd (mg_s t 0)) (su + (sAll (sDraw (mg_s t) zd (mg_s t 0)) (mg_nw t) (mg_br t))) (zsN zd (mg_s t 0)) O3 P3 _ (by omega) (fun i hi => ?_) ?_ ?_ hou3 hop3
      · unfold sDraw
        rw [if_neg hi]
      · rw [zss, ← hsu, ← hzd, hv]
      · rw [zss, ← hzd]
