/-! THE REFERENCE: what is told, one by one -/
set_option maxHeartbeats 1000000 in
set_option maxRecDepth 100000 in
theorem s4_letter_b {t : zMod} {u : zCls} {c : Int32} (hc : c < nI 0) : Mi mX4_letter 4 [.ref 0, .int (c)] (hA t u) (fun r h' => r = (-4) ∧ h' = hA ((va_up (mg_re t) 4 (mg_re t 4 + 1)), mg_s t, mg_im t, mg_rd t, mg_ii t, mg_tp t, mg_tl t, mg_ta t, mg_at t, mg_ou t, mg_op t, mg_br t, mg_nw t, mg_fs t, mg_bc t, mg_kr t, mg_rw t, mg_rc t) u) := by
  refine Mi.of (by decide) rfl (Nat.le_of_ble_eq_true rfl) ?_
  refine r_iload_n eX4_letter_0 rfl rfl ?_
  refine n_iconst 0 eX4_letter_1 rfl ?_
  refine n_sipush 255 eX4_letter_2 rfl ?_
  refine r_callSi3 eX4_letter_5 lX4_44 (s4_within_b hc) (by omega) (Nat.le_of_ble_eq_true rfl) (fun r1 h1 hq => ?_)
  obtain ⟨rfl, rfl⟩ := hq
  refine r_istore_n eX4_letter_8 rfl (by decide) ?_
  refine r_iload_n eX4_letter_9 rfl rfl ?_
  refine r_if_ne eX4_letter_10 (fun hc10 => ?_) (fun hc10 => absurd hc10 (by decide))
  refine r_iload_n eX4_letter_25 rfl rfl ?_
  refine r_if_eq eX4_letter_26 (fun hc26 => absurd hc26 (by decide)) (fun hc26 => ?_)
  refine r_aload_n eX4_letter_29 rfl rfl ?_
  refine r_iload_n eX4_letter_30 rfl rfl ?_
  refine r_callVi1 eX4_letter_31 lX4_52 (Or.inl ⟨_, _, _, rfl, rfl, rfl⟩) (s4_refuse (t := t) (u := u) (x := (-4)) (c := 4) (by decide) (by decide)) (by omega) (Nat.le_of_ble_eq_true rfl) (fun r1 h1 hq => ?_)
  obtain ⟨rfl, rfl⟩ := (show r1 = (-4) ∧ h1 = hA ((va_up (mg_re t) 4 ((mg_re t) 4 + 1)), mg_s t, mg_im t, mg_rd t, mg_ii t, mg_tp t, mg_tl t, mg_ta t, mg_at t, mg_ou t, mg_op t, mg_br t, mg_nw t, mg_fs t, mg_bc t, mg_kr t, mg_rw t, mg_rc t) u from hq)
  exact z_iret eX4_letter_34 rfl rfl ⟨_, rfl, rfl, rfl⟩
set_option maxHeartbeats 1000000 in
set_option maxRecDepth 100000 in
theorem s4_letter_r {t : zMod} {u : zCls} {c : Int32} (hc0 : nI 0 ≤ c) (hc : nI 255 < c) : Mi mX4_letter 4 [.ref 0, .int (c)] (hA t u) (fun r h' => r = (-6) ∧ h' = hA ((va_up (mg_re t) 6 (mg_re t 6 + 1)), mg_s t, mg_im t, mg_rd t, mg_ii t, mg_tp t, mg_tl t, mg_ta t, mg_at t, mg_ou t, mg_op t, mg_br t, mg_nw t, mg_fs t, mg_bc t, mg_kr t, mg_rw t, mg_rc t) u) := by
  refine Mi.of (by decide) rfl (Nat.le_of_ble_eq_true rfl) ?_
  refine r_iload_n eX4_letter_0 rfl rfl ?_
  refine n_iconst 0 eX4_letter_1 rfl ?_
  refine n_sipush 255 eX4_letter_2 rfl ?_
  refine r_callSi3 eX4_letter_5 lX4_44 (s4_within_r hc0 hc) (by omega) (Nat.le_of_ble_eq_true rfl) (fun r1 h1 hq => ?_)
  obtain ⟨rfl, rfl⟩ := hq
  refine r_istore_n eX4_letter_8 rfl (by decide) ?_
  refine r_iload_n eX4_letter_9 rfl rfl ?_
  refine r_if_ne eX4_letter_10 (fun hc10 => ?_) (fun hc10 => absurd hc10 (by decide))
  refine r_iload_n eX4_letter_25 rfl rfl ?_
  refine r_if_eq eX4_letter_26 (fun hc26 => absurd hc26 (by decide)) (fun hc26 => ?_)
  refine r_aload_n eX4_letter_29 rfl rfl ?_
  refine r_iload_n eX4_letter_30 rfl rfl ?_
  refine r_callVi1 eX4_letter_31 lX4_52 (Or.inl ⟨_, _, _, rfl, rfl, rfl⟩) (s4_refuse (t := t) (u := u) (x := (-6)) (c := 6) (by decide) (by decide)) (by omega) (Nat.le_of_ble_eq_true rfl) (fun r1 h1 hq => ?_)
  obtain ⟨rfl, rfl⟩ := (show r1 = (-6) ∧ h1 = hA ((va_up (mg_re t) 6 ((mg_re t) 6 + 1)), mg_s t, mg_im t, mg_rd t, mg_ii t, mg_tp t, mg_tl t, mg_ta t, mg_at t, mg_ou t, mg_op t, mg_br t, mg_nw t, mg_fs t, mg_bc t, mg_kr t, mg_rw t, mg_rc t) u from hq)
  exact z_iret eX4_letter_34 rfl rfl ⟨_, rfl, rfl, rfl⟩
set_option maxHeartbeats 1000000 in
set_option maxRecDepth 100000 in
theorem s4_letter_f {t : zMod} {u : zCls} {c : Nat} (hc : c ≤ 255) (ht : mg_ta t = 80) : Mi mX4_letter 4 [.ref 0, .int (nI (c))] (hA t u) (fun r h' => r = (-6) ∧ h' = hA ((va_up (mg_re t) 6 (mg_re t 6 + 1)), mg_s t, mg_im t, mg_rd t, mg_ii t, mg_tp t, mg_tl t, mg_ta t, mg_at t, mg_ou t, mg_op t, mg_br t, mg_nw t, mg_fs t, mg_bc t, mg_kr t, mg_rw t, mg_rc t) u) := by
  refine Mi.of (by decide) rfl (Nat.le_of_ble_eq_true rfl) ?_
  refine r_iload_n eX4_letter_0 rfl rfl ?_
  refine n_iconst 0 eX4_letter_1 rfl ?_
  refine n_sipush 255 eX4_letter_2 rfl ?_
  refine r_callSi3 eX4_letter_5 lX4_44 (s4_within_k (nI_le (by omega) (by omega)) (nI_le (by omega) (by omega))) (by omega) (Nat.le_of_ble_eq_true rfl) (fun r1 h1 hq => ?_)
  obtain ⟨rfl, rfl⟩ := hq
  refine r_istore_n eX4_letter_8 rfl (by decide) ?_
  refine r_iload_n eX4_letter_9 rfl rfl ?_
  refine n_if_ne eX4_letter_10 (by first | omega | exact zlt (hs _) | exact hou _ | exact hop _) (fun hc10 => absurd hc10 (by decide)) (fun hc10 => ?_)
  refine r_aload_n eX4_letter_13 rfl rfl ?_
  refine r_getf (v := .int (nI (mg_ta t))) eX4_letter_14 fX4_48 rfl rfl ?_
  refine n_bipush 80 eX4_letter_17 rfl ?_
  refine n_icmp_ne eX4_letter_19 (by first | omega | exact zlt (hs _) | exact hou _ | exact hop _) (by first | omega | exact zlt (hs _) | exact hou _ | exact hop _) (fun hc19 => absurd hc19 (by omega)) (fun hc19 => ?_)
  refine r_bipush (v := (-6)) eX4_letter_22 rfl ?_
  refine r_istore_n eX4_letter_24 rfl (by decide) ?_
  refine r_iload_n eX4_letter_25 rfl rfl ?_
  refine r_if_eq eX4_letter_26 (fun hc26 => absurd hc26 (by decide)) (fun hc26 => ?_)
  refine r_aload_n eX4_letter_29 rfl rfl ?_
  refine r_iload_n eX4_letter_30 rfl rfl ?_
  refine r_callVi1 eX4_letter_31 lX4_52 (Or.inl ⟨_, _, _, rfl, rfl, rfl⟩) (s4_refuse (t := t) (u := u) (x := (-6)) (c := 6) (by decide) (by decide)) (by omega) (Nat.le_of_ble_eq_true rfl) (fun r1 h1 hq => ?_)
  obtain ⟨rfl, rfl⟩ := (show r1 = (-6) ∧ h1 = hA ((va_up (mg_re t) 6 ((mg_re t) 6 + 1)), mg_s t, mg_im t, mg_rd t, mg_ii t, mg_tp t, mg_tl t, mg_ta t, mg_at t, mg_ou t, mg_op t, mg_br t, mg_nw t, mg_fs t, mg_bc t, mg_kr t, mg_rw t, mg_rc t) u from hq)
  exact z_iret eX4_letter_34 rfl rfl ⟨_, rfl, rfl, rfl⟩
set_option maxHeartbeats 1000000 in
set_option maxRecDepth 100000 in
theorem s4_letter_k {t : zMod} {u : zCls} {c : Nat} (hc : c ≤ 255) (ht : mg_ta t < 80) : Mi mX4_letter 4 [.ref 0, .int (nI (c))] (hA t u) (fun r h' => r = nI (mg_ta t + 1) ∧ h' = hA (mg_re t, mg_s t, mg_im t, mg_rd t, mg_ii t, (va_up (mg_tp t) (mg_ta t) c), mg_tl t, (mg_ta t + 1), mg_at t, mg_ou t, mg_op t, mg_br t, mg_nw t, mg_fs t, mg_bc t, mg_kr t, mg_rw t, mg_rc t) u) := by
  refine Mi.of (by decide) rfl (Nat.le_of_ble_eq_true rfl) ?_
  refine r_iload_n eX4_letter_0 rfl rfl ?_
  refine n_iconst 0 eX4_letter_1 rfl ?_
  refine n_sipush 255 eX4_letter_2 rfl ?_
  refine r_callSi3 eX4_letter_5 lX4_44 (s4_within_k (nI_le (by omega) (by omega)) (nI_le (by omega) (by omega))) (by omega) (Nat.le_of_ble_eq_true rfl) (fun r1 h1 hq => ?_)
  obtain ⟨rfl, rfl⟩ := hq
  refine r_istore_n eX4_letter_8 rfl (by decide) ?_
  refine r_iload_n eX4_letter_9 rfl rfl ?_
  refine n_if_ne eX4_letter_10 (by first | omega | exact zlt (hs _) | exact hou _ | exact hop _) (fun hc10 => absurd hc10 (by decide)) (fun hc10 => ?_)
  refine r_aload_n eX4_letter_13 rfl rfl ?_
  refine r_getf (v := .int (nI (mg_ta t))) eX4_letter_14 fX4_48 rfl rfl ?_
  refine n_bipush 80 eX4_letter_17 rfl ?_
  refine n_icmp_ne eX4_letter_19 (by first | omega | exact zlt (hs _) | exact hou _ | exact hop _) (by first | omega | exact zlt (hs _) | exact hou _ | exact hop _) (fun hc19 => ?_) (fun hc19 => absurd hc19 (by omega))
  refine r_iload_n eX4_letter_25 rfl rfl ?_
  refine n_if_eq eX4_letter_26 (by first | omega | exact zlt (hs _) | exact hou _ | exact hop _) (fun hc26 => ?_) (fun hc26 => absurd hc26 (by decide))
  refine r_aload_n eX4_letter_35 rfl rfl ?_
  refine r_getf (v := .ref 5) eX4_letter_36 fX4_22 rfl rfl ?_
  refine r_aload_n eX4_letter_39 rfl rfl ?_
  refine r_getf (v := .int (nI (mg_ta t))) eX4_letter_40 fX4_48 rfl rfl ?_
  refine r_iload_n eX4_letter_43 rfl rfl ?_
  refine z_h (h' := hA (mg_re t, mg_s t, mg_im t, mg_rd t, mg_ii t, mg_tp t, mg_tl t, mg_ta t, mg_at t, mg_ou t, mg_op t, mg_br t, mg_nw t, mg_fs t, mg_bc t, mg_kr t, mg_rw t, mg_rc t) u) rfl ?_
  refine mw_tp (j := mg_ta t) (v := c) eX4_letter_44 rfl rfl (by first | omega | exact zlt (hs _) | exact hou _ | exact hop _) ?_
  refine r_aload_n eX4_letter_45 rfl rfl ?_
  refine r_dup eX4_letter_46 rfl ?_
  refine r_getf (v := .int (nI (mg_ta t))) eX4_letter_47 fX4_48 rfl rfl ?_
  refine n_iconst 1 eX4_letter_50 rfl ?_
  refine n_add eX4_letter_51 ?_
  refine mp_ta (v := (mg_ta t) + 1) eX4_letter_52 fX4_48 rfl ?_
  refine r_aload_n eX4_letter_55 rfl rfl ?_
  refine r_getf (v := .int (nI ((mg_ta t) + 1))) eX4_letter_56 fX4_48 rfl rfl ?_
  exact z_iret eX4_letter_59 rfl rfl ⟨_, rfl, rfl, rfl⟩
set_option maxHeartbeats 1000000 in
set_option maxRecDepth 100000 in
theorem s4_person_n {t : zMod} {u : zCls} (hm : mOk t) {v x : Int32} (hv : v < 0 ∨ nI (mg_s t 0) ≤ v) : Mi mX4_person 4 [.ref 0, .int (v), .int (x)] (hA t u) (fun r h' => r = (-1) ∧ h' = hA ((va_up (mg_re t) 1 (mg_re t 1 + 1)), mg_s t, mg_im t, mg_rd t, mg_ii t, mg_tp t, mg_tl t, mg_ta t, mg_at t, mg_ou t, mg_op t, mg_br t, mg_nw t, mg_fs t, mg_bc t, mg_kr t, mg_rw t, mg_rc t) u) := by
  refine Mi.of (by decide) rfl (Nat.le_of_ble_eq_true rfl) ?_
  refine r_aload_n eX4_person_0 rfl rfl ?_
  refine r_iload_n eX4_person_1 rfl rfl ?_
  refine r_callVi1 eX4_person_2 lX4_94 (Or.inl ⟨_, _, _, rfl, rfl, rfl⟩) (s4_isPerson_n (t := t) (u := u) hv) (by omega) (Nat.le_of_ble_eq_true rfl) (fun r1 h1 hq => ?_)
  obtain ⟨rfl, rfl⟩ := (show r1 = nI (0) ∧ h1 = hA t u from hq)
  refine n_if_ne eX4_person_5 (by first | omega | exact zlt (hs _) | exact hou _ | exact hop _) (fun hc5 => absurd hc5 (by decide)) (fun hc5 => ?_)
  refine r_aload_n eX4_person_8 rfl rfl ?_
  refine r_iconst (v := (-1)) eX4_person_9 rfl ?_
  refine r_callVi1 eX4_person_10 lX4_52 (Or.inl ⟨_, _, _, rfl, rfl, rfl⟩) (s4_refuse (t := t) (u := u) (x := (-1)) (c := 1) (by decide) (by decide)) (by omega) (Nat.le_of_ble_eq_true rfl) (fun r1 h1 hq => ?_)
  obtain ⟨rfl, rfl⟩ := (show r1 = (-1) ∧ h1 = hA ((va_up (mg_re t) 1 ((mg_re t) 1 + 1)), mg_s t, mg_im t, mg_rd t, mg_ii t, mg_tp t, mg_tl t, mg_ta t, mg_at t, mg_ou t, mg_op t, mg_br t, mg_nw t, mg_fs t, mg_bc t, mg_kr t, mg_rw t, mg_rc t) u from hq)
  exact z_iret eX4_person_13 rfl rfl ⟨_, rfl, rfl, rfl⟩
set_option maxHeartbeats 1000000 in
set_option maxRecDepth 100000 in
theorem s4_person_0 {t : zMod} {u : zCls} (hm : mOk t) {v : Nat} (hv : v < mg_s t 0) : Mi mX4_person 4 [.ref 0, .int (nI (v)), .int (nI (0))] (hA t u) (fun r h' => r = nI (mg_s t (5 + 5 * v + 0)) ∧ h' = hA t u) := by
  obtain ⟨⟨hs, h0, h1⟩, hbr, hnw, hou, hop⟩ := id hm
  refine Mi.of (by decide) rfl (Nat.le_of_ble_eq_true rfl) ?_
  refine r_aload_n eX4_person_0 rfl rfl ?_
  refine r_iload_n eX4_person_1 rfl rfl ?_
  refine r_callVi1 eX4_person_2 lX4_94 (Or.inl ⟨_, _, _, rfl, rfl, rfl⟩) (s4_isPerson_y (t := t) (u := u) h0 hv) (by omega) (Nat.le_of_ble_eq_true rfl) (fun r1 h1 hq => ?_)
  obtain ⟨rfl, rfl⟩ := (show r1 = nI (1) ∧ h1 = hA t u from hq)
  refine n_if_ne eX4_person_5 (by first | omega | exact zlt (hs _) | exact hou _ | exact hop _) (fun hc5 => ?_) (fun hc5 => absurd hc5 (by decide))
  refine r_iload_n eX4_person_14 rfl rfl ?_
  refine r_tabIn (off := 45) (tgt := 60) eX4_person_15 (by decide) (by decide) (by decide) (by decide) ?_
  refine r_aload_n eX4_person_60 rfl rfl ?_
  refine r_iload_n eX4_person_61 rfl rfl ?_
  refine r_iload_n eX4_person_62 rfl rfl ?_
  refine r_callVi2 eX4_person_63 lX4_90 (Or.inl ⟨_, _, _, rfl, rfl, rfl⟩) (s4_get (t := t) (u := u) (by omega)) (by omega) (Nat.le_of_ble_eq_true rfl) (fun r1 h1 hq => ?_)
  obtain ⟨rfl, rfl⟩ := (show r1 = nI ((mg_s t) (5 + 5 * v + 0)) ∧ h1 = hA t u from hq)
  exact z_iret eX4_person_66 rfl rfl ⟨_, rfl, rfl, rfl⟩
set_option maxHeartbeats 1000000 in
set_option maxRecDepth 100000 in
theorem s4_person_1 {t : zMod} {u : zCls} (hm : mOk t) {v : Nat} (hv : v < mg_s t 0) : Mi mX4_person 4 [.ref 0, .int (nI (v)), .int (nI (1))] (hA t u) (fun r h' => r = nI (mg_s t (5 + 5 * v + 1)) ∧ h' = hA t u) := by
  obtain ⟨⟨hs, h0, h1⟩, hbr, hnw, hou, hop⟩ := id hm
  refine Mi.of (by decide) rfl (Nat.le_of_ble_eq_true rfl) ?_
  refine r_aload_n eX4_person_0 rfl rfl ?_
  refine r_iload_n eX4_person_1 rfl rfl ?_
  refine r_callVi1 eX4_person_2 lX4_94 (Or.inl ⟨_, _, _, rfl, rfl, rfl⟩) (s4_isPerson_y (t := t) (u := u) h0 hv) (by omega) (Nat.le_of_ble_eq_true rfl) (fun r1 h1 hq => ?_)
  obtain ⟨rfl, rfl⟩ := (show r1 = nI (1) ∧ h1 = hA t u from hq)
  refine n_if_ne eX4_person_5 (by first | omega | exact zlt (hs _) | exact hou _ | exact hop _) (fun hc5 => ?_) (fun hc5 => absurd hc5 (by decide))
  refine r_iload_n eX4_person_14 rfl rfl ?_
  refine r_tabIn (off := 45) (tgt := 60) eX4_person_15 (by decide) (by decide) (by decide) (by decide) ?_
  refine r_aload_n eX4_person_60 rfl rfl ?_
  refine r_iload_n eX4_person_61 rfl rfl ?_
  refine r_iload_n eX4_person_62 rfl rfl ?_
  refine r_callVi2 eX4_person_63 lX4_90 (Or.inl ⟨_, _, _, rfl, rfl, rfl⟩) (s4_get (t := t) (u := u) (by omega)) (by omega) (Nat.le_of_ble_eq_true rfl) (fun r1 h1 hq => ?_)
  obtain ⟨rfl, rfl⟩ := (show r1 = nI ((mg_s t) (5 + 5 * v + 1)) ∧ h1 = hA t u from hq)
  exact z_iret eX4_person_66 rfl rfl ⟨_, rfl, rfl, rfl⟩
set_option maxHeartbeats 1000000 in
set_option maxRecDepth 100000 in
theorem s4_person_2 {t : zMod} {u : zCls} (hm : mOk t) {v : Nat} (hv : v < mg_s t 0) : Mi mX4_person 4 [.ref 0, .int (nI (v)), .int (nI (2))] (hA t u) (fun r h' => r = nI (mg_s t (5 + 5 * v + 2)) ∧ h' = hA t u) := by
  obtain ⟨⟨hs, h0, h1⟩, hbr, hnw, hou, hop⟩ := id hm
  refine Mi.of (by decide) rfl (Nat.le_of_ble_eq_true rfl) ?_
  refine r_aload_n eX4_person_0 rfl rfl ?_
  refine r_iload_n eX4_person_1 rfl rfl ?_
  refine r_callVi1 eX4_person_2 lX4_94 (Or.inl ⟨_, _, _, rfl, rfl, rfl⟩) (s4_isPerson_y (t := t) (u := u) h0 hv) (by omega) (Nat.le_of_ble_eq_true rfl) (fun r1 h1 hq => ?_)
  obtain ⟨rfl, rfl⟩ := (show r1 = nI (1) ∧ h1 = hA t u from hq)
  refine n_if_ne eX4_person_5 (by first | omega | exact zlt (hs _) | exact hou _ | exact hop _) (fun hc5 => ?_) (fun hc5 => absurd hc5 (by decide))
  refine r_iload_n eX4_person_14 rfl rfl ?_
  refine r_tabIn (off := 45) (tgt := 60) eX4_person_15 (by decide) (by decide) (by decide) (by decide) ?_
  refine r_aload_n eX4_person_60 rfl rfl ?_
  refine r_iload_n eX4_person_61 rfl rfl ?_
  refine r_iload_n eX4_person_62 rfl rfl ?_
  refine r_callVi2 eX4_person_63 lX4_90 (Or.inl ⟨_, _, _, rfl, rfl, rfl⟩) (s4_get (t := t) (u := u) (by omega)) (by omega) (Nat.le_of_ble_eq_true rfl) (fun r1 h1 hq => ?_)
  obtain ⟨rfl, rfl⟩ := (show r1 = nI ((mg_s t) (5 + 5 * v + 2)) ∧ h1 = hA t u from hq)
  exact z_iret eX4_person_66 rfl rfl ⟨_, rfl, rfl, rfl⟩
set_option maxHeartbeats 1000000 in
set_option maxRecDepth 100000 in
theorem s4_person_3 {t : zMod} {u : zCls} (hm : mOk t) {v : Nat} (hv : v < mg_s t 0) : Mi mX4_person 4 [.ref 0, .int (nI (v)), .int (nI (3))] (hA t u) (fun r h' => r = nI (mg_s t (5 + 5 * v + 3)) ∧ h' = hA t u) := by
  obtain ⟨⟨hs, h0, h1⟩, hbr, hnw, hou, hop⟩ := id hm
  refine Mi.of (by decide) rfl (Nat.le_of_ble_eq_true rfl) ?_
  refine r_aload_n eX4_person_0 rfl rfl ?_
  refine r_iload_n eX4_person_1 rfl rfl ?_
  refine r_callVi1 eX4_person_2 lX4_94 (Or.inl ⟨_, _, _, rfl, rfl, rfl⟩) (s4_isPerson_y (t := t) (u := u) h0 hv) (by omega) (Nat.le_of_ble_eq_true rfl) (fun r1 h1 hq => ?_)
  obtain ⟨rfl, rfl⟩ := (show r1 = nI (1) ∧ h1 = hA t u from hq)
  refine n_if_ne eX4_person_5 (by first | omega | exact zlt (hs _) | exact hou _ | exact hop _) (fun hc5 => ?_) (fun hc5 => absurd hc5 (by decide))
  refine r_iload_n eX4_person_14 rfl rfl ?_
  refine r_tabIn (off := 45) (tgt := 60) eX4_person_15 (by decide) (by decide) (by decide) (by decide) ?_
  refine r_aload_n eX4_person_60 rfl rfl ?_
  refine r_iload_n eX4_person_61 rfl rfl ?_
  refine r_iload_n eX4_person_62 rfl rfl ?_
  refine r_callVi2 eX4_person_63 lX4_90 (Or.inl ⟨_, _, _, rfl, rfl, rfl⟩) (s4_get (t := t) (u := u) (by omega)) (by omega) (Nat.le_of_ble_eq_true rfl) (fun r1 h1 hq => ?_)
  obtain ⟨rfl, rfl⟩ := (show r1 = nI ((mg_s t) (5 + 5 * v + 3)) ∧ h1 = hA t u from hq)
  exact z_iret eX4_person_66 rfl rfl ⟨_, rfl, rfl, rfl⟩
set_option maxHeartbeats 1000000 in
set_option maxRecDepth 100000 in
theorem s4_person_4 {t : zMod} {u : zCls} (hm : mOk t) {v : Nat} (hv : v < mg_s t 0) : Mi mX4_person 4 [.ref 0, .int (nI (v)), .int (nI (4))] (hA t u) (fun r h' => r = nI (mg_s t (5 + 5 * v + 4)) ∧ h' = hA t u) := by
  obtain ⟨⟨hs, h0, h1⟩, hbr, hnw, hou, hop⟩ := id hm
  refine Mi.of (by decide) rfl (Nat.le_of_ble_eq_true rfl) ?_
  refine r_aload_n eX4_person_0 rfl rfl ?_
  refine r_iload_n eX4_person_1 rfl rfl ?_
  refine r_callVi1 eX4_person_2 lX4_94 (Or.inl ⟨_, _, _, rfl, rfl, rfl⟩) (s4_isPerson_y (t := t) (u := u) h0 hv) (by omega) (Nat.le_of_ble_eq_true rfl) (fun r1 h1 hq => ?_)
  obtain ⟨rfl, rfl⟩ := (show r1 = nI (1) ∧ h1 = hA t u from hq)
  refine n_if_ne eX4_person_5 (by first | omega | exact zlt (hs _) | exact hou _ | exact hop _) (fun hc5 => ?_) (fun hc5 => absurd hc5 (by decide))
  refine r_iload_n eX4_person_14 rfl rfl ?_
  refine r_tabIn (off := 45) (tgt := 60) eX4_person_15 (by decide) (by decide) (by decide) (by decide) ?_
  refine r_aload_n eX4_person_60 rfl rfl ?_
  refine r_iload_n eX4_person_61 rfl rfl ?_
  refine r_iload_n eX4_person_62 rfl rfl ?_
  refine r_callVi2 eX4_person_63 lX4_90 (Or.inl ⟨_, _, _, rfl, rfl, rfl⟩) (s4_get (t := t) (u := u) (by omega)) (by omega) (Nat.le_of_ble_eq_true rfl) (fun r1 h1 hq => ?_)
  obtain ⟨rfl, rfl⟩ := (show r1 = nI ((mg_s t) (5 + 5 * v + 4)) ∧ h1 = hA t u from hq)
  exact z_iret eX4_person_66 rfl rfl ⟨_, rfl, rfl, rfl⟩
set_option maxHeartbeats 1000000 in
set_option maxRecDepth 100000 in
theorem s4_person_5 {t : zMod} {u : zCls} (hm : mOk t) {v : Nat} (hv : v < mg_s t 0) : Mi mX4_person 4 [.ref 0, .int (nI (v)), .int (nI (5))] (hA t u) (fun r h' => r = nI (zup (mg_s t (5 + 5 * v + 0)) (mg_s t (5 + 5 * v + 1))) ∧ h' = hA t u) := by
  obtain ⟨⟨hs, h0, h1⟩, hbr, hnw, hou, hop⟩ := id hm
  refine Mi.of (by decide) rfl (Nat.le_of_ble_eq_true rfl) ?_
  refine r_aload_n eX4_person_0 rfl rfl ?_
  refine r_iload_n eX4_person_1 rfl rfl ?_
  refine r_callVi1 eX4_person_2 lX4_94 (Or.inl ⟨_, _, _, rfl, rfl, rfl⟩) (s4_isPerson_y (t := t) (u := u) h0 hv) (by omega) (Nat.le_of_ble_eq_true rfl) (fun r1 h1 hq => ?_)
  obtain ⟨rfl, rfl⟩ := (show r1 = nI (1) ∧ h1 = hA t u from hq)
  refine n_if_ne eX4_person_5 (by first | omega | exact zlt (hs _) | exact hou _ | exact hop _) (fun hc5 => ?_) (fun hc5 => absurd hc5 (by decide))
  refine r_iload_n eX4_person_14 rfl rfl ?_
  refine r_tabIn (off := 52) (tgt := 67) eX4_person_15 (by decide) (by decide) (by decide) (by decide) ?_
  refine r_aload_n eX4_person_67 rfl rfl ?_
  refine r_iload_n eX4_person_68 rfl rfl ?_
  refine r_callVi1 eX4_person_69 lX4_97 (Or.inl ⟨_, _, _, rfl, rfl, rfl⟩) (s4_upOf (t := t) (u := u) hs (by omega)) (by omega) (Nat.le_of_ble_eq_true rfl) (fun r1 h1 hq => ?_)
  obtain ⟨rfl, rfl⟩ := (show r1 = nI (zup (mg_s t (5 + 5 * v + 0)) (mg_s t (5 + 5 * v + 1))) ∧ h1 = hA t u from hq)
  exact z_iret eX4_person_72 rfl rfl ⟨_, rfl, rfl, rfl⟩
set_option maxHeartbeats 1000000 in
set_option maxRecDepth 100000 in
theorem s4_person_6 {t : zMod} {u : zCls} (hm : mOk t) {v : Nat} (hv : v < mg_s t 0) : Mi mX4_person 4 [.ref 0, .int (nI (v)), .int (nI (6))] (hA t u) (fun r h' => r = nI (zneed (mg_s t (5 + 5 * v + 0)) (mg_s t (5 + 5 * v + 2))) ∧ h' = hA t u) := by
  obtain ⟨⟨hs, h0, h1⟩, hbr, hnw, hou, hop⟩ := id hm
  refine Mi.of (by decide) rfl (Nat.le_of_ble_eq_true rfl) ?_
  refine r_aload_n eX4_person_0 rfl rfl ?_
  refine r_iload_n eX4_person_1 rfl rfl ?_
  refine r_callVi1 eX4_person_2 lX4_94 (Or.inl ⟨_, _, _, rfl, rfl, rfl⟩) (s4_isPerson_y (t := t) (u := u) h0 hv) (by omega) (Nat.le_of_ble_eq_true rfl) (fun r1 h1 hq => ?_)
  obtain ⟨rfl, rfl⟩ := (show r1 = nI (1) ∧ h1 = hA t u from hq)
  refine n_if_ne eX4_person_5 (by first | omega | exact zlt (hs _) | exact hou _ | exact hop _) (fun hc5 => ?_) (fun hc5 => absurd hc5 (by decide))
  refine r_iload_n eX4_person_14 rfl rfl ?_
  refine r_tabIn (off := 58) (tgt := 73) eX4_person_15 (by decide) (by decide) (by decide) (by decide) ?_
  refine r_aload_n eX4_person_73 rfl rfl ?_
  refine r_iload_n eX4_person_74 rfl rfl ?_
  refine r_callVi1 eX4_person_75 lX4_100 (Or.inl ⟨_, _, _, rfl, rfl, rfl⟩) (s4_needsOf (t := t) (u := u) hs (by omega)) (by omega) (Nat.le_of_ble_eq_true rfl) (fun r1 h1 hq => ?_)
  obtain ⟨rfl, rfl⟩ := (show r1 = nI (zneed (mg_s t (5 + 5 * v + 0)) (mg_s t (5 + 5 * v + 2))) ∧ h1 = hA t u from hq)
  exact z_iret eX4_person_78 rfl rfl ⟨_, rfl, rfl, rfl⟩
set_option maxHeartbeats 1000000 in
set_option maxRecDepth 100000 in
theorem s4_person_7 {t : zMod} {u : zCls} (hm : mOk t) {v : Nat} (hv : v < mg_s t 0) : Mi mX4_person 4 [.ref 0, .int (nI (v)), .int (nI (7))] (hA t u) (fun r h' => r = nI (mg_s t 2 / 2 ^ v &&& 1) ∧ h' = hA t u) := by
  obtain ⟨⟨hs, h0, h1⟩, hbr, hnw, hou, hop⟩ := id hm
  refine Mi.of (by decide) rfl (Nat.le_of_ble_eq_true rfl) ?_
  refine r_aload_n eX4_person_0 rfl rfl ?_
  refine r_iload_n eX4_person_1 rfl rfl ?_
  refine r_callVi1 eX4_person_2 lX4_94 (Or.inl ⟨_, _, _, rfl, rfl, rfl⟩) (s4_isPerson_y (t := t) (u := u) h0 hv) (by omega) (Nat.le_of_ble_eq_true rfl) (fun r1 h1 hq => ?_)
  obtain ⟨rfl, rfl⟩ := (show r1 = nI (1) ∧ h1 = hA t u from hq)
  refine n_if_ne eX4_person_5 (by first | omega | exact zlt (hs _) | exact hou _ | exact hop _) (fun hc5 => ?_) (fun hc5 => absurd hc5 (by decide))
  refine r_iload_n eX4_person_14 rfl rfl ?_
  refine r_tabIn (off := 64) (tgt := 79) eX4_person_15 (by decide) (by decide) (by decide) (by decide) ?_
  refine r_aload_n eX4_person_79 rfl rfl ?_
  refine r_getf (v := .ref 2) eX4_person_80 fX4_13 rfl rfl ?_
  refine n_iconst 2 eX4_person_83 rfl ?_
  refine n_iald (f := mg_s t) (j := 2) eX4_person_84 rfl rfl (by first | omega | exact zlt (hs _) | exact hou _ | exact hop _) (by decide) ?_
  refine r_iload_n eX4_person_85 rfl rfl ?_
  refine n_shr eX4_person_86 (by first | omega | exact zlt (hs _) | exact hou _ | exact hop _) (by first | omega | exact zlt (hs _) | exact hou _ | exact hop _) ?_
  refine n_iconst 1 eX4_person_87 rfl ?_
  refine n_and eX4_person_88 ?_
  exact z_iret eX4_person_89 rfl rfl ⟨_, rfl, rfl, rfl⟩
set_option maxHeartbeats 1000000 in
set_option maxRecDepth 100000 in
theorem s4_person_o {t : zMod} {u : zCls} (hm : mOk t) {v : Nat} (hv : v < mg_s t 0) {x : Int32} (hx : x.toInt < 0 ∨ 7 < x.toInt) : Mi mX4_person 4 [.ref 0, .int (nI (v)), .int (x)] (hA t u) (fun r h' => r = (-2) ∧ h' = hA ((va_up (mg_re t) 2 (mg_re t 2 + 1)), mg_s t, mg_im t, mg_rd t, mg_ii t, mg_tp t, mg_tl t, mg_ta t, mg_at t, mg_ou t, mg_op t, mg_br t, mg_nw t, mg_fs t, mg_bc t, mg_kr t, mg_rw t, mg_rc t) u) := by
  obtain ⟨⟨hs, h0, h1⟩, hbr, hnw, hou, hop⟩ := id hm
  refine Mi.of (by decide) rfl (Nat.le_of_ble_eq_true rfl) ?_
  refine r_aload_n eX4_person_0 rfl rfl ?_
  refine r_iload_n eX4_person_1 rfl rfl ?_
  refine r_callVi1 eX4_person_2 lX4_94 (Or.inl ⟨_, _, _, rfl, rfl, rfl⟩) (s4_isPerson_y (t := t) (u := u) h0 hv) (by omega) (Nat.le_of_ble_eq_true rfl) (fun r1 h1 hq => ?_)
  obtain ⟨rfl, rfl⟩ := (show r1 = nI (1) ∧ h1 = hA t u from hq)
  refine n_if_ne eX4_person_5 (by first | omega | exact zlt (hs _) | exact hou _ | exact hop _) (fun hc5 => ?_) (fun hc5 => absurd hc5 (by decide))
  refine r_iload_n eX4_person_14 rfl rfl ?_
  refine r_tabOut (tgt := 90) eX4_person_15 hx (by decide) ?_
  refine r_aload_n eX4_person_90 rfl rfl ?_
  refine r_bipush (v := (-2)) eX4_person_91 rfl ?_
  refine r_callVi1 eX4_person_93 lX4_52 (Or.inl ⟨_, _, _, rfl, rfl, rfl⟩) (s4_refuse (t := t) (u := u) (x := (-2)) (c := 2) (by decide) (by decide)) (by omega) (Nat.le_of_ble_eq_true rfl) (fun r1 h1 hq => ?_)
  obtain ⟨rfl, rfl⟩ := (show r1 = (-2) ∧ h1 = hA ((va_up (mg_re t) 2 ((mg_re t) 2 + 1)), mg_s t, mg_im t, mg_rd t, mg_ii t, mg_tp t, mg_tl t, mg_ta t, mg_at t, mg_ou t, mg_op t, mg_br t, mg_nw t, mg_fs t, mg_bc t, mg_kr t, mg_rw t, mg_rc t) u from hq)
  exact z_iret eX4_person_96 rfl rfl ⟨_, rfl, rfl, rfl⟩
set_option maxHeartbeats 1000000 in
set_option maxRecDepth 100000 in
theorem s4_key_n {t : zMod} {u : zCls} (hm : mOk t) {v x : Int32} (hv : v < 0 ∨ nI (mg_s t 1) ≤ v) : Mi mX4_key 4 [.ref 0, .int (v), .int (x)] (hA t u) (fun r h' => r = (-1) ∧ h' = hA ((va_up (mg_re t) 1 (mg_re t 1 + 1)), mg_s t, mg_im t, mg_rd t, mg_ii t, mg_tp t, mg_tl t, mg_ta t, mg_at t, mg_ou t, mg_op t, mg_br t, mg_nw t, mg_fs t, mg_bc t, mg_kr t, mg_rw t, mg_rc t) u) := by
  refine Mi.of (by decide) rfl (Nat.le_of_ble_eq_true rfl) ?_
  refine r_aload_n eX4_key_0 rfl rfl ?_
  refine r_iload_n eX4_key_1 rfl rfl ?_
  refine r_callVi1 eX4_key_2 lX4_103 (Or.inl ⟨_, _, _, rfl, rfl, rfl⟩) (s4_isKey_n (t := t) (u := u) hv) (by omega) (Nat.le_of_ble_eq_true rfl) (fun r1 h1 hq => ?_)
  obtain ⟨rfl, rfl⟩ := (show r1 = nI (0) ∧ h1 = hA t u from hq)
  refine n_if_ne eX4_key_5 (by first | omega | exact zlt (hs _) | exact hou _ | exact hop _) (fun hc5 => absurd hc5 (by decide)) (fun hc5 => ?_)
  refine r_aload_n eX4_key_8 rfl rfl ?_
  refine r_iconst (v := (-1)) eX4_key_9 rfl ?_
  refine r_callVi1 eX4_key_10 lX4_52 (Or.inl ⟨_, _, _, rfl, rfl, rfl⟩) (s4_refuse (t := t) (u := u) (x := (-1)) (c := 1) (by decide) (by decide)) (by omega) (Nat.le_of_ble_eq_true rfl) (fun r1 h1 hq => ?_)
  obtain ⟨rfl, rfl⟩ := (show r1 = (-1) ∧ h1 = hA ((va_up (mg_re t) 1 ((mg_re t) 1 + 1)), mg_s t, mg_im t, mg_rd t, mg_ii t, mg_tp t, mg_tl t, mg_ta t, mg_at t, mg_ou t, mg_op t, mg_br t, mg_nw t, mg_fs t, mg_bc t, mg_kr t, mg_rw t, mg_rc t) u from hq)
  refine r_goto eX4_key_13 ?_
  exact z_iret eX4_key_46 rfl rfl ⟨_, rfl, rfl, rfl⟩
set_option maxHeartbeats 1000000 in
set_option maxRecDepth 100000 in
theorem s4_key_o {t : zMod} {u : zCls} (hm : mOk t) {v : Nat} (hv : v < mg_s t 1) {x : Int32} (hx : x < 0 ∨ nI 2 ≤ x) : Mi mX4_key 4 [.ref 0, .int (nI (v)), .int (x)] (hA t u) (fun r h' => r = (-2) ∧ h' = hA ((va_up (mg_re t) 2 (mg_re t 2 + 1)), mg_s t, mg_im t, mg_rd t, mg_ii t, mg_tp t, mg_tl t, mg_ta t, mg_at t, mg_ou t, mg_op t, mg_br t, mg_nw t, mg_fs t, mg_bc t, mg_kr t, mg_rw t, mg_rc t) u) := by
  obtain ⟨⟨hs, h0, h1⟩, hbr, hnw, hou, hop⟩ := id hm
  refine Mi.of (by decide) rfl (Nat.le_of_ble_eq_true rfl) ?_
  refine r_aload_n eX4_key_0 rfl rfl ?_
  refine r_iload_n eX4_key_1 rfl rfl ?_
  refine r_callVi1 eX4_key_2 lX4_103 (Or.inl ⟨_, _, _, rfl, rfl, rfl⟩) (s4_isKey_y (t := t) (u := u) h1 hv) (by omega) (Nat.le_of_ble_eq_true rfl) (fun r1 h1 hq => ?_)
  obtain ⟨rfl, rfl⟩ := (show r1 = nI (1) ∧ h1 = hA t u from hq)
  refine n_if_ne eX4_key_5 (by first | omega | exact zlt (hs _) | exact hou _ | exact hop _) (fun hc5 => ?_) (fun hc5 => absurd hc5 (by decide))
  refine r_iload_n eX4_key_16 rfl rfl ?_
  refine n_iconst 2 eX4_key_17 rfl ?_
  refine r_callSi2 eX4_key_18 lX4_40 (s4_isIn_n hx) (by omega) (Nat.le_of_ble_eq_true rfl) (fun r1 h1 hq => ?_)
  obtain ⟨rfl, rfl⟩ := hq
  refine n_if_eq eX4_key_21 (by first | omega | exact zlt (hs _) | exact hou _ | exact hop _) (fun hc21 => ?_) (fun hc21 => absurd hc21 (by decide))
  refine r_aload_n eX4_key_40 rfl rfl ?_
  refine r_bipush (v := (-2)) eX4_key_41 rfl ?_
  refine r_callVi1 eX4_key_43 lX4_52 (Or.inl ⟨_, _, _, rfl, rfl, rfl⟩) (s4_refuse (t := t) (u := u) (x := (-2)) (c := 2) (by decide) (by decide)) (by omega) (Nat.le_of_ble_eq_true rfl) (fun r1 h1 hq => ?_)
  obtain ⟨rfl, rfl⟩ := (show r1 = (-2) ∧ h1 = hA ((va_up (mg_re t) 2 ((mg_re t) 2 + 1)), mg_s t, mg_im t, mg_rd t, mg_ii t, mg_tp t, mg_tl t, mg_ta t, mg_at t, mg_ou t, mg_op t, mg_br t, mg_nw t, mg_fs t, mg_bc t, mg_kr t, mg_rw t, mg_rc t) u from hq)
  exact z_iret eX4_key_46 rfl rfl ⟨_, rfl, rfl, rfl⟩
set_option maxHeartbeats 1000000 in
set_option maxRecDepth 100000 in
theorem s4_key_k {t : zMod} {u : zCls} (hm : mOk t) {v : Nat} (hv : v < mg_s t 1) {x : Nat} (hx : x < 2) : Mi mX4_key 4 [.ref 0, .int (nI (v)), .int (nI (x))] (hA t u) (fun r h' => r = nI (mg_s t (40 + 2 * v + x)) ∧ h' = hA t u) := by
  obtain ⟨⟨hs, h0, h1⟩, hbr, hnw, hou, hop⟩ := id hm
  refine Mi.of (by decide) rfl (Nat.le_of_ble_eq_true rfl) ?_
  refine r_aload_n eX4_key_0 rfl rfl ?_
  refine r_iload_n eX4_key_1 rfl rfl ?_
  refine r_callVi1 eX4_key_2 lX4_103 (Or.inl ⟨_, _, _, rfl, rfl, rfl⟩) (s4_isKey_y (t := t) (u := u) h1 hv) (by omega) (Nat.le_of_ble_eq_true rfl) (fun r1 h1 hq => ?_)
  obtain ⟨rfl, rfl⟩ := (show r1 = nI (1) ∧ h1 = hA t u from hq)
  refine n_if_ne eX4_key_5 (by first | omega | exact zlt (hs _) | exact hou _ | exact hop _) (fun hc5 => ?_) (fun hc5 => absurd hc5 (by decide))
  refine r_iload_n eX4_key_16 rfl rfl ?_
  refine n_iconst 2 eX4_key_17 rfl ?_
  refine r_callSi2 eX4_key_18 lX4_40 (s4_isIn_y (by omega) (by omega)) (by omega) (Nat.le_of_ble_eq_true rfl) (fun r1 h1 hq => ?_)
  obtain ⟨rfl, rfl⟩ := hq
  refine n_if_eq eX4_key_21 (by first | omega | exact zlt (hs _) | exact hou _ | exact hop _) (fun hc21 => absurd hc21 (by decide)) (fun hc21 => ?_)
  refine r_aload_n eX4_key_24 rfl rfl ?_
  refine r_getf (v := .ref 2) eX4_key_25 fX4_13 rfl rfl ?_
  refine n_bipush 40 eX4_key_28 rfl ?_
  refine n_iconst 2 eX4_key_30 rfl ?_
  refine r_iload_n eX4_key_31 rfl rfl ?_
  refine n_mul eX4_key_32 ?_
  refine n_add eX4_key_33 ?_
  refine r_iload_n eX4_key_34 rfl rfl ?_
  refine n_add eX4_key_35 ?_
  refine n_iald (f := mg_s t) (j := (40 + (2 * v)) + x) eX4_key_36 rfl rfl (by first | omega | exact zlt (hs _) | exact hou _ | exact hop _) (by decide) ?_
  refine r_goto eX4_key_37 ?_
  exact z_iret eX4_key_46 rfl rfl ⟨_, rfl, rfl, rfl⟩
set_option maxHeartbeats 1000000 in
set_option maxRecDepth 100000 in
theorem s4_give_n1 {t : zMod} {u : zCls} (hm : mOk t) {v x : Int32} (hv : v < 0 ∨ nI (mg_s t 1) ≤ v) : Mi mX4_give 4 [.ref 0, .int (v), .int (x)] (hA t u) (fun r h' => r = (-1) ∧ h' = hA ((va_up (mg_re t) 1 (mg_re t 1 + 1)), mg_s t, mg_im t, mg_rd t, mg_ii t, mg_tp t, mg_tl t, mg_ta t, mg_at t, mg_ou t, mg_op t, mg_br t, mg_nw t, mg_fs t, mg_bc t, mg_kr t, mg_rw t, mg_rc t) u) := by
  refine Mi.of (by decide) rfl (Nat.le_of_ble_eq_true rfl) ?_
  refine r_aload_n eX4_give_0 rfl rfl ?_
  refine r_iload_n eX4_give_1 rfl rfl ?_
  refine r_callVi1 eX4_give_2 lX4_103 (Or.inl ⟨_, _, _, rfl, rfl, rfl⟩) (s4_isKey_n (t := t) (u := u) hv) (by omega) (Nat.le_of_ble_eq_true rfl) (fun r1 h1 hq => ?_)
  obtain ⟨rfl, rfl⟩ := (show r1 = nI (0) ∧ h1 = hA t u from hq)
  refine n_if_eq eX4_give_5 (by first | omega | exact zlt (hs _) | exact hou _ | exact hop _) (fun hc5 => ?_) (fun hc5 => absurd hc5 (by decide))
  refine r_aload_n eX4_give_16 rfl rfl ?_
  refine r_iconst (v := (-1)) eX4_give_17 rfl ?_
  refine r_callVi1 eX4_give_18 lX4_52 (Or.inl ⟨_, _, _, rfl, rfl, rfl⟩) (s4_refuse (t := t) (u := u) (x := (-1)) (c := 1) (by decide) (by decide)) (by omega) (Nat.le_of_ble_eq_true rfl) (fun r1 h1 hq => ?_)
  obtain ⟨rfl, rfl⟩ := (show r1 = (-1) ∧ h1 = hA ((va_up (mg_re t) 1 ((mg_re t) 1 + 1)), mg_s t, mg_im t, mg_rd t, mg_ii t, mg_tp t, mg_tl t, mg_ta t, mg_at t, mg_ou t, mg_op t, mg_br t, mg_nw t, mg_fs t, mg_bc t, mg_kr t, mg_rw t, mg_rc t) u from hq)
  exact z_iret eX4_give_21 rfl rfl ⟨_, rfl, rfl, rfl⟩
set_option maxHeartbeats 1000000 in
set_option maxRecDepth 100000 in
theorem s4_give_n2 {t : zMod} {u : zCls} (hm : mOk t) {v : Nat} (hv : v < mg_s t 1) {x : Int32} (hx : x < 0 ∨ nI (mg_s t 0) ≤ x) : Mi mX4_give 4 [.ref 0, .int (nI (v)), .int (x)] (hA t u) (fun r h' => r = (-1) ∧ h' = hA ((va_up (mg_re t) 1 (mg_re t 1 + 1)), mg_s t, mg_im t, mg_rd t, mg_ii t, mg_tp t, mg_tl t, mg_ta t, mg_at t, mg_ou t, mg_op t, mg_br t, mg_nw t, mg_fs t, mg_bc t, mg_kr t, mg_rw t, mg_rc t) u) := by
  obtain ⟨⟨hs, h0, h1⟩, hbr, hnw, hou, hop⟩ := id hm
  refine Mi.of (by decide) rfl (Nat.le_of_ble_eq_true rfl) ?_
  refine r_aload_n eX4_give_0 rfl rfl ?_
  refine r_iload_n eX4_give_1 rfl rfl ?_
  refine r_callVi1 eX4_give_2 lX4_103 (Or.inl ⟨_, _, _, rfl, rfl, rfl⟩) (s4_isKey_y (t := t) (u := u) h1 hv) (by omega) (Nat.le_of_ble_eq_true rfl) (fun r1 h1 hq => ?_)
  obtain ⟨rfl, rfl⟩ := (show r1 = nI (1) ∧ h1 = hA t u from hq)
  refine n_if_eq eX4_give_5 (by first | omega | exact zlt (hs _) | exact hou _ | exact hop _) (fun hc5 => absurd hc5 (by decide)) (fun hc5 => ?_)
  refine r_aload_n eX4_give_8 rfl rfl ?_
  refine r_iload_n eX4_give_9 rfl rfl ?_
  refine r_callVi1 eX4_give_10 lX4_94 (Or.inl ⟨_, _, _, rfl, rfl, rfl⟩) (s4_isPerson_n (t := t) (u := u) hx) (by omega) (Nat.le_of_ble_eq_true rfl) (fun r1 h1 hq => ?_)
  obtain ⟨rfl, rfl⟩ := (show r1 = nI (0) ∧ h1 = hA t u from hq)
  refine n_if_ne eX4_give_13 (by first | omega | exact zlt (hs _) | exact hou _ | exact hop _) (fun hc13 => absurd hc13 (by decide)) (fun hc13 => ?_)
  refine r_aload_n eX4_give_16 rfl rfl ?_
  refine r_iconst (v := (-1)) eX4_give_17 rfl ?_
  refine r_callVi1 eX4_give_18 lX4_52 (Or.inl ⟨_, _, _, rfl, rfl, rfl⟩) (s4_refuse (t := t) (u := u) (x := (-1)) (c := 1) (by decide) (by decide)) (by omega) (Nat.le_of_ble_eq_true rfl) (fun r1 h1 hq => ?_)
  obtain ⟨rfl, rfl⟩ := (show r1 = (-1) ∧ h1 = hA ((va_up (mg_re t) 1 ((mg_re t) 1 + 1)), mg_s t, mg_im t, mg_rd t, mg_ii t, mg_tp t, mg_tl t, mg_ta t, mg_at t, mg_ou t, mg_op t, mg_br t, mg_nw t, mg_fs t, mg_bc t, mg_kr t, mg_rw t, mg_rc t) u from hq)
  exact z_iret eX4_give_21 rfl rfl ⟨_, rfl, rfl, rfl⟩
set_option maxHeartbeats 1000000 in
set_option maxRecDepth 100000 in
theorem s4_give_k {t : zMod} {u : zCls} (hm : mOk t) {v : Nat} (hv : v < mg_s t 1) {x : Nat} (hx : x < mg_s t 0) : Mi mX4_give 4 [.ref 0, .int (nI (v)), .int (nI (x))] (hA t u) (fun r h' => r = nI (mg_s t (40 + 2 * v + 1)) ∧ h' = hA (mg_re t, (va_up (mg_s t) (40 + 2 * v + 1) x), mg_im t, mg_rd t, mg_ii t, mg_tp t, mg_tl t, mg_ta t, mg_at t, mg_ou t, mg_op t, mg_br t, mg_nw t, mg_fs t, mg_bc t, mg_kr t, mg_rw t, mg_rc t) u) := by
  obtain ⟨⟨hs, h0, h1⟩, hbr, hnw, hou, hop⟩ := id hm
  refine Mi.of (by decide) rfl (Nat.le_of_ble_eq_true rfl) ?_
  refine r_aload_n eX4_give_0 rfl rfl ?_
  refine r_iload_n eX4_give_1 rfl rfl ?_
  refine r_callVi1 eX4_give_2 lX4_103 (Or.inl ⟨_, _, _, rfl, rfl, rfl⟩) (s4_isKey_y (t := t) (u := u) h1 hv) (by omega) (Nat.le_of_ble_eq_true rfl) (fun r1 h1 hq => ?_)
  obtain ⟨rfl, rfl⟩ := (show r1 = nI (1) ∧ h1 = hA t u from hq)
  refine n_if_eq eX4_give_5 (by first | omega | exact zlt (hs _) | exact hou _ | exact hop _) (fun hc5 => absurd hc5 (by decide)) (fun hc5 => ?_)
  refine r_aload_n eX4_give_8 rfl rfl ?_
  refine r_iload_n eX4_give_9 rfl rfl ?_
  refine r_callVi1 eX4_give_10 lX4_94 (Or.inl ⟨_, _, _, rfl, rfl, rfl⟩) (s4_isPerson_y (t := t) (u := u) h0 hx) (by omega) (Nat.le_of_ble_eq_true rfl) (fun r1 h1 hq => ?_)
  obtain ⟨rfl, rfl⟩ := (show r1 = nI (1) ∧ h1 = hA t u from hq)
  refine n_if_ne eX4_give_13 (by first | omega | exact zlt (hs _) | exact hou _ | exact hop _) (fun hc13 => ?_) (fun hc13 => absurd hc13 (by decide))
  refine r_aload_n eX4_give_22 rfl rfl ?_
  refine r_iload_n eX4_give_23 rfl rfl ?_
  refine r_callVi1 eX4_give_24 lX4_106 (Or.inl ⟨_, _, _, rfl, rfl, rfl⟩) (s4_held (t := t) (u := u) (by omega)) (by omega) (Nat.le_of_ble_eq_true rfl) (fun r1 h1 hq => ?_)
  obtain ⟨rfl, rfl⟩ := (show r1 = nI ((mg_s t) (40 + 2 * v + 1)) ∧ h1 = hA t u from hq)
  refine r_istore_n eX4_give_27 rfl (by decide) ?_
  refine r_aload_n eX4_give_28 rfl rfl ?_
  refine r_getf (v := .ref 2) eX4_give_29 fX4_13 rfl rfl ?_
  refine n_bipush 40 eX4_give_32 rfl ?_
  refine n_iconst 2 eX4_give_34 rfl ?_
  refine r_iload_n eX4_give_35 rfl rfl ?_
  refine n_mul eX4_give_36 ?_
  refine n_add eX4_give_37 ?_
  refine n_iconst 1 eX4_give_38 rfl ?_
  refine n_add eX4_give_39 ?_
  refine r_iload_n eX4_give_40 rfl rfl ?_
  refine z_h (h' := hA (mg_re t, mg_s t, mg_im t, mg_rd t, mg_ii t, mg_tp t, mg_tl t, mg_ta t, mg_at t, mg_ou t, mg_op t, mg_br t, mg_nw t, mg_fs t, mg_bc t, mg_kr t, mg_rw t, mg_rc t) u) rfl ?_
  refine mw_s (j := (40 + (2 * v)) + 1) (v := x) eX4_give_41 rfl rfl (by first | omega | exact zlt (hs _) | exact hou _ | exact hop _) ?_
  refine r_iload_n eX4_give_42 rfl rfl ?_
  exact z_iret eX4_give_43 rfl rfl ⟨_, rfl, rfl, rfl⟩
set_option maxHeartbeats 1000000 in
set_option maxRecDepth 100000 in
theorem s4_cast_n1 {t : zMod} {u : zCls} (hm : mOk t) {v x : Int32} (hv : v < 0 ∨ nI (mg_s t 0) ≤ v) : Mi mX4_cast 4 [.ref 0, .int (v), .int (x)] (hA t u) (fun r h' => r = (-1) ∧ h' = hA ((va_up (mg_re t) 1 (mg_re t 1 + 1)), mg_s t, mg_im t, mg_rd t, mg_ii t, mg_tp t, mg_tl t, mg_ta t, mg_at t, mg_ou t, mg_op t, mg_br t, mg_nw t, mg_fs t, mg_bc t, mg_kr t, mg_rw t, mg_rc t) u) := by
  refine Mi.of (by decide) rfl (Nat.le_of_ble_eq_true rfl) ?_
  refine r_aload_n eX4_cast_0 rfl rfl ?_
  refine r_iload_n eX4_cast_1 rfl rfl ?_
  refine r_callVi1 eX4_cast_2 lX4_94 (Or.inl ⟨_, _, _, rfl, rfl, rfl⟩) (s4_isPerson_n (t := t) (u := u) hv) (by omega) (Nat.le_of_ble_eq_true rfl) (fun r1 h1 hq => ?_)
  obtain ⟨rfl, rfl⟩ := (show r1 = nI (0) ∧ h1 = hA t u from hq)
  refine n_if_eq eX4_cast_5 (by first | omega | exact zlt (hs _) | exact hou _ | exact hop _) (fun hc5 => ?_) (fun hc5 => absurd hc5 (by decide))
  refine r_iconst (v := (-1)) eX4_cast_16 rfl ?_
  refine r_goto eX4_cast_17 ?_
  refine r_istore_n eX4_cast_37 rfl (by decide) ?_
  refine r_iload_n eX4_cast_38 rfl rfl ?_
  refine r_if_eq eX4_cast_39 (fun hc39 => absurd hc39 (by decide)) (fun hc39 => ?_)
  refine r_aload_n eX4_cast_42 rfl rfl ?_
  refine r_iload_n eX4_cast_43 rfl rfl ?_
  refine r_callVi1 eX4_cast_44 lX4_52 (Or.inl ⟨_, _, _, rfl, rfl, rfl⟩) (s4_refuse (t := t) (u := u) (x := (-1)) (c := 1) (by decide) (by decide)) (by omega) (Nat.le_of_ble_eq_true rfl) (fun r1 h1 hq => ?_)
  obtain ⟨rfl, rfl⟩ := (show r1 = (-1) ∧ h1 = hA ((va_up (mg_re t) 1 ((mg_re t) 1 + 1)), mg_s t, mg_im t, mg_rd t, mg_ii t, mg_tp t, mg_tl t, mg_ta t, mg_at t, mg_ou t, mg_op t, mg_br t, mg_nw t, mg_fs t, mg_bc t, mg_kr t, mg_rw t, mg_rc t) u from hq)
  exact z_iret eX4_cast_47 rfl rfl ⟨_, rfl, rfl, rfl⟩
set_option maxHeartbeats 1000000 in
set_option maxRecDepth 100000 in
theorem s4_cast_n2 {t : zMod} {u : zCls} (hm : mOk t) {v : Nat} (hv : v < mg_s t 0) {x : Int32} (hx : x < 0 ∨ nI (mg_s t 0) ≤ x) : Mi mX4_cast 4 [.ref 0, .int (nI (v)), .int (x)] (hA t u) (fun r h' => r = (-1) ∧ h' = hA ((va_up (mg_re t) 1 (mg_re t 1 + 1)), mg_s t, mg_im t, mg_rd t, mg_ii t, mg_tp t, mg_tl t, mg_ta t, mg_at t, mg_ou t, mg_op t, mg_br t, mg_nw t, mg_fs t, mg_bc t, mg_kr t, mg_rw t, mg_rc t) u) := by
  obtain ⟨⟨hs, h0, h1⟩, hbr, hnw, hou, hop⟩ := id hm
  refine Mi.of (by decide) rfl (Nat.le_of_ble_eq_true rfl) ?_
  refine r_aload_n eX4_cast_0 rfl rfl ?_
  refine r_iload_n eX4_cast_1 rfl rfl ?_
  refine r_callVi1 eX4_cast_2 lX4_94 (Or.inl ⟨_, _, _, rfl, rfl, rfl⟩) (s4_isPerson_y (t := t) (u := u) h0 hv) (by omega) (Nat.le_of_ble_eq_true rfl) (fun r1 h1 hq => ?_)
  obtain ⟨rfl, rfl⟩ := (show r1 = nI (1) ∧ h1 = hA t u from hq)
  refine n_if_eq eX4_cast_5 (by first | omega | exact zlt (hs _) | exact hou _ | exact hop _) (fun hc5 => absurd hc5 (by decide)) (fun hc5 => ?_)
  refine r_aload_n eX4_cast_8 rfl rfl ?_
  refine r_iload_n eX4_cast_9 rfl rfl ?_
  refine r_callVi1 eX4_cast_10 lX4_94 (Or.inl ⟨_, _, _, rfl, rfl, rfl⟩) (s4_isPerson_n (t := t) (u := u) hx) (by omega) (Nat.le_of_ble_eq_true rfl) (fun r1 h1 hq => ?_)
  obtain ⟨rfl, rfl⟩ := (show r1 = nI (0) ∧ h1 = hA t u from hq)
  refine n_if_ne eX4_cast_13 (by first | omega | exact zlt (hs _) | exact hou _ | exact hop _) (fun hc13 => absurd hc13 (by decide)) (fun hc13 => ?_)
  refine r_iconst (v := (-1)) eX4_cast_16 rfl ?_
  refine r_goto eX4_cast_17 ?_
  refine r_istore_n eX4_cast_37 rfl (by decide) ?_
  refine r_iload_n eX4_cast_38 rfl rfl ?_
  refine r_if_eq eX4_cast_39 (fun hc39 => absurd hc39 (by decide)) (fun hc39 => ?_)
  refine r_aload_n eX4_cast_42 rfl rfl ?_
  refine r_iload_n eX4_cast_43 rfl rfl ?_
  refine r_callVi1 eX4_cast_44 lX4_52 (Or.inl ⟨_, _, _, rfl, rfl, rfl⟩) (s4_refuse (t := t) (u := u) (x := (-1)) (c := 1) (by decide) (by decide)) (by omega) (Nat.le_of_ble_eq_true rfl) (fun r1 h1 hq => ?_)
  obtain ⟨rfl, rfl⟩ := (show r1 = (-1) ∧ h1 = hA ((va_up (mg_re t) 1 ((mg_re t) 1 + 1)), mg_s t, mg_im t, mg_rd t, mg_ii t, mg_tp t, mg_tl t, mg_ta t, mg_at t, mg_ou t, mg_op t, mg_br t, mg_nw t, mg_fs t, mg_bc t, mg_kr t, mg_rw t, mg_rc t) u from hq)
  exact z_iret eX4_cast_47 rfl rfl ⟨_, rfl, rfl, rfl⟩
set_option maxHeartbeats 1000000 in
set_option maxRecDepth 100000 in
theorem s4_cast_f {t : zMod} {u : zCls} (hm : mOk t) {v : Nat} (hv : v < mg_s t 0) {x : Nat} (hx : x < mg_s t 0) (hf : mg_s t 1 = 10) : Mi mX4_cast 4 [.ref 0, .int (nI (v)), .int (nI (x))] (hA t u) (fun r h' => r = (-6) ∧ h' = hA ((va_up (mg_re t) 6 (mg_re t 6 + 1)), mg_s t, mg_im t, mg_rd t, mg_ii t, mg_tp t, mg_tl t, mg_ta t, mg_at t, mg_ou t, mg_op t, mg_br t, mg_nw t, mg_fs t, mg_bc t, mg_kr t, mg_rw t, mg_rc t) u) := by
  obtain ⟨⟨hs, h0, h1⟩, hbr, hnw, hou, hop⟩ := id hm
  refine Mi.of (by decide) rfl (Nat.le_of_ble_eq_true rfl) ?_
  refine r_aload_n eX4_cast_0 rfl rfl ?_
  refine r_iload_n eX4_cast_1 rfl rfl ?_
  refine r_callVi1 eX4_cast_2 lX4_94 (Or.inl ⟨_, _, _, rfl, rfl, rfl⟩) (s4_isPerson_y (t := t) (u := u) h0 hv) (by omega) (Nat.le_of_ble_eq_true rfl) (fun r1 h1 hq => ?_)
  obtain ⟨rfl, rfl⟩ := (show r1 = nI (1) ∧ h1 = hA t u from hq)
  refine n_if_eq eX4_cast_5 (by first | omega | exact zlt (hs _) | exact hou _ | exact hop _) (fun hc5 => absurd hc5 (by decide)) (fun hc5 => ?_)
  refine r_aload_n eX4_cast_8 rfl rfl ?_
  refine r_iload_n eX4_cast_9 rfl rfl ?_
  refine r_callVi1 eX4_cast_10 lX4_94 (Or.inl ⟨_, _, _, rfl, rfl, rfl⟩) (s4_isPerson_y (t := t) (u := u) h0 hx) (by omega) (Nat.le_of_ble_eq_true rfl) (fun r1 h1 hq => ?_)
  obtain ⟨rfl, rfl⟩ := (show r1 = nI (1) ∧ h1 = hA t u from hq)
  refine n_if_ne eX4_cast_13 (by first | omega | exact zlt (hs _) | exact hou _ | exact hop _) (fun hc13 => ?_) (fun hc13 => absurd hc13 (by decide))
  refine r_aload_n eX4_cast_20 rfl rfl ?_
  refine r_getf (v := .ref 2) eX4_cast_21 fX4_13 rfl rfl ?_
  refine n_iconst 1 eX4_cast_24 rfl ?_
  refine n_iald (f := mg_s t) (j := 1) eX4_cast_25 rfl rfl (by first | omega | exact zlt (hs _) | exact hou _ | exact hop _) (by decide) ?_
  refine n_bipush 10 eX4_cast_26 rfl ?_
  refine n_icmp_ne eX4_cast_28 (by first | omega | exact zlt (hs _) | exact hou _ | exact hop _) (by first | omega | exact zlt (hs _) | exact hou _ | exact hop _) (fun hc28 => absurd hc28 (by omega)) (fun hc28 => ?_)
  refine r_bipush (v := (-6)) eX4_cast_31 rfl ?_
  refine r_goto eX4_cast_33 ?_
  refine r_istore_n eX4_cast_37 rfl (by decide) ?_
  refine r_iload_n eX4_cast_38 rfl rfl ?_
  refine r_if_eq eX4_cast_39 (fun hc39 => absurd hc39 (by decide)) (fun hc39 => ?_)
  refine r_aload_n eX4_cast_42 rfl rfl ?_
  refine r_iload_n eX4_cast_43 rfl rfl ?_
  refine r_callVi1 eX4_cast_44 lX4_52 (Or.inl ⟨_, _, _, rfl, rfl, rfl⟩) (s4_refuse (t := t) (u := u) (x := (-6)) (c := 6) (by decide) (by decide)) (by omega) (Nat.le_of_ble_eq_true rfl) (fun r1 h1 hq => ?_)
  obtain ⟨rfl, rfl⟩ := (show r1 = (-6) ∧ h1 = hA ((va_up (mg_re t) 6 ((mg_re t) 6 + 1)), mg_s t, mg_im t, mg_rd t, mg_ii t, mg_tp t, mg_tl t, mg_ta t, mg_at t, mg_ou t, mg_op t, mg_br t, mg_nw t, mg_fs t, mg_bc t, mg_kr t, mg_rw t, mg_rc t) u from hq)
  exact z_iret eX4_cast_47 rfl rfl ⟨_, rfl, rfl, rfl⟩
set_option maxHeartbeats 1000000 in
set_option maxRecDepth 100000 in
theorem s4_cast_k {t : zMod} {u : zCls} (hm : mOk t) {v : Nat} (hv : v < mg_s t 0) {x : Nat} (hx : x < mg_s t 0) (hf : mg_s t 1 < 10) : Mi mX4_cast 4 [.ref 0, .int (nI (v)), .int (nI (x))] (hA t u) (fun r h' => r = nI (mg_s t 1) ∧ h' = hA (mg_re t, (sAdd (mg_s t) v x), mg_im t, mg_rd t, mg_ii t, mg_tp t, mg_tl t, mg_ta t, mg_at t, mg_ou t, mg_op t, mg_br t, mg_nw t, mg_fs t, mg_bc t, mg_kr t, mg_rw t, mg_rc t) u) := by
  obtain ⟨⟨hs, h0, h1⟩, hbr, hnw, hou, hop⟩ := id hm
  refine Mi.of (by decide) rfl (Nat.le_of_ble_eq_true rfl) ?_
  refine r_aload_n eX4_cast_0 rfl rfl ?_
  refine r_iload_n eX4_cast_1 rfl rfl ?_
  refine r_callVi1 eX4_cast_2 lX4_94 (Or.inl ⟨_, _, _, rfl, rfl, rfl⟩) (s4_isPerson_y (t := t) (u := u) h0 hv) (by omega) (Nat.le_of_ble_eq_true rfl) (fun r1 h1 hq => ?_)
  obtain ⟨rfl, rfl⟩ := (show r1 = nI (1) ∧ h1 = hA t u from hq)
  refine n_if_eq eX4_cast_5 (by first | omega | exact zlt (hs _) | exact hou _ | exact hop _) (fun hc5 => absurd hc5 (by decide)) (fun hc5 => ?_)
  refine r_aload_n eX4_cast_8 rfl rfl ?_
  refine r_iload_n eX4_cast_9 rfl rfl ?_
  refine r_callVi1 eX4_cast_10 lX4_94 (Or.inl ⟨_, _, _, rfl, rfl, rfl⟩) (s4_isPerson_y (t := t) (u := u) h0 hx) (by omega) (Nat.le_of_ble_eq_true rfl) (fun r1 h1 hq => ?_)
  obtain ⟨rfl, rfl⟩ := (show r1 = nI (1) ∧ h1 = hA t u from hq)
  refine n_if_ne eX4_cast_13 (by first | omega | exact zlt (hs _) | exact hou _ | exact hop _) (fun hc13 => ?_) (fun hc13 => absurd hc13 (by decide))
  refine r_aload_n eX4_cast_20 rfl rfl ?_
  refine r_getf (v := .ref 2) eX4_cast_21 fX4_13 rfl rfl ?_
  refine n_iconst 1 eX4_cast_24 rfl ?_
  refine n_iald (f := mg_s t) (j := 1) eX4_cast_25 rfl rfl (by first | omega | exact zlt (hs _) | exact hou _ | exact hop _) (by decide) ?_
  refine n_bipush 10 eX4_cast_26 rfl ?_
  refine n_icmp_ne eX4_cast_28 (by first | omega | exact zlt (hs _) | exact hou _ | exact hop _) (by first | omega | exact zlt (hs _) | exact hou _ | exact hop _) (fun hc28 => ?_) (fun hc28 => absurd hc28 (by omega))
  refine n_iconst 0 eX4_cast_36 rfl ?_
  refine r_istore_n eX4_cast_37 rfl (by decide) ?_
  refine r_iload_n eX4_cast_38 rfl rfl ?_
  refine n_if_eq eX4_cast_39 (by first | omega | exact zlt (hs _) | exact hou _ | exact hop _) (fun hc39 => ?_) (fun hc39 => absurd hc39 (by decide))
  refine r_aload_n eX4_cast_48 rfl rfl ?_
  refine r_iload_n eX4_cast_49 rfl rfl ?_
  refine r_iload_n eX4_cast_50 rfl rfl ?_
  refine r_callVv2 eX4_cast_51 lX4_109 (Or.inl ⟨_, _, _, rfl, rfl, rfl⟩) (s4_addsKey (t := t) (u := u) (by omega)) (by omega) (Nat.le_of_ble_eq_true rfl) (fun h1 hq => ?_)
  obtain rfl := (show h1 = hA (mg_re t, (sAdd (mg_s t) v x), mg_im t, mg_rd t, mg_ii t, mg_tp t, mg_tl t, mg_ta t, mg_at t, mg_ou t, mg_op t, mg_br t, mg_nw t, mg_fs t, mg_bc t, mg_kr t, mg_rw t, mg_rc t) u from hq)
  refine r_aload_n eX4_cast_54 rfl rfl ?_
  refine r_getf (v := .ref 2) eX4_cast_55 fX4_13 rfl rfl ?_
  refine n_iconst 1 eX4_cast_58 rfl ?_
  refine n_iald (f := (sAdd (mg_s t) v x)) (j := 1) eX4_cast_59 rfl rfl (by first | omega | exact zlt (hs _) | exact hou _ | exact hop _) (by decide) ?_
  refine z_top (y := nI (mg_s t 1 + 1)) (congrArg nI zu_s) ?_
  refine n_iconst 1 eX4_cast_60 rfl ?_
  refine n_sub eX4_cast_61 (by first | omega | exact zlt (hs _) | exact hou _ | exact hop _) ?_
  exact z_iret eX4_cast_62 rfl rfl ⟨_, rfl, rfl, rfl⟩
set_option maxHeartbeats 1000000 in
set_option maxRecDepth 100000 in
theorem s4_lose_n {t : zMod} {u : zCls} (hm : mOk t) {v : Int32} (hv : v < 0 ∨ nI (mg_s t 1) ≤ v) : Mi mX4_lose 4 [.ref 0, .int (v)] (hA t u) (fun r h' => r = (-1) ∧ h' = hA ((va_up (mg_re t) 1 (mg_re t 1 + 1)), mg_s t, mg_im t, mg_rd t, mg_ii t, mg_tp t, mg_tl t, mg_ta t, mg_at t, mg_ou t, mg_op t, mg_br t, mg_nw t, mg_fs t, mg_bc t, mg_kr t, mg_rw t, mg_rc t) u) := by
  refine Mi.of (by decide) rfl (Nat.le_of_ble_eq_true rfl) ?_
  refine r_aload_n eX4_lose_0 rfl rfl ?_
  refine r_iload_n eX4_lose_1 rfl rfl ?_
  refine r_callVi1 eX4_lose_2 lX4_103 (Or.inl ⟨_, _, _, rfl, rfl, rfl⟩) (s4_isKey_n (t := t) (u := u) hv) (by omega) (Nat.le_of_ble_eq_true rfl) (fun r1 h1 hq => ?_)
  obtain ⟨rfl, rfl⟩ := (show r1 = nI (0) ∧ h1 = hA t u from hq)
  refine n_if_ne eX4_lose_5 (by first | omega | exact zlt (hs _) | exact hou _ | exact hop _) (fun hc5 => absurd hc5 (by decide)) (fun hc5 => ?_)
  refine r_aload_n eX4_lose_8 rfl rfl ?_
  refine r_iconst (v := (-1)) eX4_lose_9 rfl ?_
  refine r_callVi1 eX4_lose_10 lX4_52 (Or.inl ⟨_, _, _, rfl, rfl, rfl⟩) (s4_refuse (t := t) (u := u) (x := (-1)) (c := 1) (by decide) (by decide)) (by omega) (Nat.le_of_ble_eq_true rfl) (fun r1 h1 hq => ?_)
  obtain ⟨rfl, rfl⟩ := (show r1 = (-1) ∧ h1 = hA ((va_up (mg_re t) 1 ((mg_re t) 1 + 1)), mg_s t, mg_im t, mg_rd t, mg_ii t, mg_tp t, mg_tl t, mg_ta t, mg_at t, mg_ou t, mg_op t, mg_br t, mg_nw t, mg_fs t, mg_bc t, mg_kr t, mg_rw t, mg_rc t) u from hq)
  exact z_iret eX4_lose_13 rfl rfl ⟨_, rfl, rfl, rfl⟩
set_option maxHeartbeats 1000000 in
set_option maxRecDepth 100000 in
theorem s4_lose_k {t : zMod} {u : zCls} (hm : mOk t) {v : Nat} (hv : v < mg_s t 1) : Mi mX4_lose 4 [.ref 0, .int (nI (v))] (hA t u) (fun r h' => r = nI (mg_s t 1 - 1) ∧ h' = hA (mg_re t, (sDrop (mg_s t) v), mg_im t, mg_rd t, mg_ii t, mg_tp t, mg_tl t, mg_ta t, mg_at t, mg_ou t, mg_op t, mg_br t, mg_nw t, mg_fs t, mg_bc t, mg_kr t, mg_rw t, mg_rc t) u) := by
  obtain ⟨⟨hs, h0, h1⟩, hbr, hnw, hou, hop⟩ := id hm
  refine Mi.of (by decide) rfl (Nat.le_of_ble_eq_true rfl) ?_
  refine r_aload_n eX4_lose_0 rfl rfl ?_
  refine r_iload_n eX4_lose_1 rfl rfl ?_
  refine r_callVi1 eX4_lose_2 lX4_103 (Or.inl ⟨_, _, _, rfl, rfl, rfl⟩) (s4_isKey_y (t := t) (u := u) h1 hv) (by omega) (Nat.le_of_ble_eq_true rfl) (fun r1 h1 hq => ?_)
  obtain ⟨rfl, rfl⟩ := (show r1 = nI (1) ∧ h1 = hA t u from hq)
  refine n_if_ne eX4_lose_5 (by first | omega | exact zlt (hs _) | exact hou _ | exact hop _) (fun hc5 => ?_) (fun hc5 => absurd hc5 (by decide))
  refine r_aload_n eX4_lose_14 rfl rfl ?_
  refine r_iload_n eX4_lose_15 rfl rfl ?_
  refine r_callVv1 eX4_lose_16 lX4_113 (Or.inl ⟨_, _, _, rfl, rfl, rfl⟩) (s4_takesAway (t := t) (u := u) h1 hv) (by omega) (Nat.le_of_ble_eq_true rfl) (fun h1 hq => ?_)
  obtain rfl := (show h1 = hA (mg_re t, (sDrop (mg_s t) v), mg_im t, mg_rd t, mg_ii t, mg_tp t, mg_tl t, mg_ta t, mg_at t, mg_ou t, mg_op t, mg_br t, mg_nw t, mg_fs t, mg_bc t, mg_kr t, mg_rw t, mg_rc t) u from hq)
  refine r_aload_n eX4_lose_19 rfl rfl ?_
  refine r_getf (v := .ref 2) eX4_lose_20 fX4_13 rfl rfl ?_
  refine n_iconst 1 eX4_lose_23 rfl ?_
  refine n_iald (f := (sDrop (mg_s t) v)) (j := 1) eX4_lose_24 rfl rfl (by first | omega | exact zlt (hs _) | exact hou _ | exact hop _) (by decide) ?_
  exact z_iret eX4_lose_25 rfl rfl ⟨_, rfl, rfl, rfl⟩
set_option maxHeartbeats 1000000 in
set_option maxRecDepth 100000 in
theorem s4_watch_n {t : zMod} {u : zCls} (hm : mOk t) {v : Int32} (hv : v < 0 ∨ nI (2 ^ mg_s t 0 - 1) < v) : Mi mX4_watch 4 [.ref 0, .int (v)] (hA t u) (fun r h' => r = (-1) ∧ h' = hA ((va_up (mg_re t) 1 (mg_re t 1 + 1)), mg_s t, mg_im t, mg_rd t, mg_ii t, mg_tp t, mg_tl t, mg_ta t, mg_at t, mg_ou t, mg_op t, mg_br t, mg_nw t, mg_fs t, mg_bc t, mg_kr t, mg_rw t, mg_rc t) u) := by
  obtain ⟨⟨hs, h0, h1⟩, hbr, hnw, hou, hop⟩ := id hm
  refine Mi.of (by decide) rfl (Nat.le_of_ble_eq_true rfl) ?_
  refine r_iload_n eX4_watch_0 rfl rfl ?_
  refine r_if_lt eX4_watch_1 (fun hc1 => ?_) (fun hc1 => ?_)
  · refine r_aload_n eX4_watch_12 rfl rfl ?_
    refine r_iconst (v := (-1)) eX4_watch_13 rfl ?_
    refine r_callVi1 eX4_watch_14 lX4_52 (Or.inl ⟨_, _, _, rfl, rfl, rfl⟩) (s4_refuse (t := t) (u := u) (x := (-1)) (c := 1) (by decide) (by decide)) (by omega) (Nat.le_of_ble_eq_true rfl) (fun r1 h1 hq => ?_)
    obtain ⟨rfl, rfl⟩ := (show r1 = (-1) ∧ h1 = hA ((va_up (mg_re t) 1 ((mg_re t) 1 + 1)), mg_s t, mg_im t, mg_rd t, mg_ii t, mg_tp t, mg_tl t, mg_ta t, mg_at t, mg_ou t, mg_op t, mg_br t, mg_nw t, mg_fs t, mg_bc t, mg_kr t, mg_rw t, mg_rc t) u from hq)
    exact z_iret eX4_watch_17 rfl rfl ⟨_, rfl, rfl, rfl⟩
  · refine r_iload_n eX4_watch_4 rfl rfl ?_
    refine r_aload_n eX4_watch_5 rfl rfl ?_
    refine r_callVi0 eX4_watch_6 lX4_117 (Or.inl ⟨_, _, _, rfl, rfl, rfl⟩) (s4_everybody (t := t) (u := u) h0) (by omega) (Nat.le_of_ble_eq_true rfl) (fun r1 h1 hq => ?_)
    obtain ⟨rfl, rfl⟩ := (show r1 = nI (2 ^ (mg_s t) 0 - 1) ∧ h1 = hA t u from hq)
    refine r_icmp_le eX4_watch_9 (fun hc9 => absurd hc9 (fun z => Int32.not_le.mpr (hv.resolve_left hc1) z)) (fun hc9 => ?_)
    refine r_aload_n eX4_watch_12 rfl rfl ?_
    refine r_iconst (v := (-1)) eX4_watch_13 rfl ?_
    refine r_callVi1 eX4_watch_14 lX4_52 (Or.inl ⟨_, _, _, rfl, rfl, rfl⟩) (s4_refuse (t := t) (u := u) (x := (-1)) (c := 1) (by decide) (by decide)) (by omega) (Nat.le_of_ble_eq_true rfl) (fun r1 h1 hq => ?_)
    obtain ⟨rfl, rfl⟩ := (show r1 = (-1) ∧ h1 = hA ((va_up (mg_re t) 1 ((mg_re t) 1 + 1)), mg_s t, mg_im t, mg_rd t, mg_ii t, mg_tp t, mg_tl t, mg_ta t, mg_at t, mg_ou t, mg_op t, mg_br t, mg_nw t, mg_fs t, mg_bc t, mg_kr t, mg_rw t, mg_rc t) u from hq)
    exact z_iret eX4_watch_17 rfl rfl ⟨_, rfl, rfl, rfl⟩
set_option maxHeartbeats 1000000 in
set_option maxRecDepth 100000 in
theorem s4_watch_k {t : zMod} {u : zCls} (hm : mOk t) {v : Nat} (hv : v ≤ 2 ^ mg_s t 0 - 1) : Mi mX4_watch 4 [.ref 0, .int (nI (v))] (hA t u) (fun r h' => r = nI (mg_s t 2) ∧ h' = hA (mg_re t, (va_up (mg_s t) 2 v), mg_im t, mg_rd t, mg_ii t, mg_tp t, mg_tl t, mg_ta t, mg_at t, mg_ou t, mg_op t, mg_br t, mg_nw t, mg_fs t, mg_bc t, mg_kr t, mg_rw t, mg_rc t) u) := by
  obtain ⟨⟨hs, h0, h1⟩, hbr, hnw, hou, hop⟩ := id hm
  have hp2 : 2 ^ mg_s t 0 ≤ 2 ^ 7 := Nat.pow_le_pow_right (by omega) h0
  refine Mi.of (by decide) rfl (Nat.le_of_ble_eq_true rfl) ?_
  refine r_iload_n eX4_watch_0 rfl rfl ?_
  refine n_if_lt eX4_watch_1 (by first | omega | exact zlt (hs _) | exact hou _ | exact hop _) ?_
  refine r_iload_n eX4_watch_4 rfl rfl ?_
  refine r_aload_n eX4_watch_5 rfl rfl ?_
  refine r_callVi0 eX4_watch_6 lX4_117 (Or.inl ⟨_, _, _, rfl, rfl, rfl⟩) (s4_everybody (t := t) (u := u) h0) (by omega) (Nat.le_of_ble_eq_true rfl) (fun r1 h1 hq => ?_)
  obtain ⟨rfl, rfl⟩ := (show r1 = nI (2 ^ (mg_s t) 0 - 1) ∧ h1 = hA t u from hq)
  refine n_icmp_le eX4_watch_9 (by first | omega | exact zlt (hs _) | exact hou _ | exact hop _) (by first | omega | exact zlt (hs _) | exact hou _ | exact hop _) (fun hc9 => ?_) (fun hc9 => absurd hc9 (by omega))
  refine r_aload_n eX4_watch_18 rfl rfl ?_
  refine r_getf (v := .ref 2) eX4_watch_19 fX4_13 rfl rfl ?_
  refine n_iconst 2 eX4_watch_22 rfl ?_
  refine n_iald (f := mg_s t) (j := 2) eX4_watch_23 rfl rfl (by first | omega | exact zlt (hs _) | exact hou _ | exact hop _) (by decide) ?_
  refine r_istore_n eX4_watch_24 rfl (by decide) ?_
  refine r_aload_n eX4_watch_25 rfl rfl ?_
  refine r_getf (v := .ref 2) eX4_watch_26 fX4_13 rfl rfl ?_
  refine n_iconst 2 eX4_watch_29 rfl ?_
  refine r_iload_n eX4_watch_30 rfl rfl ?_
  refine z_h (h' := hA (mg_re t, mg_s t, mg_im t, mg_rd t, mg_ii t, mg_tp t, mg_tl t, mg_ta t, mg_at t, mg_ou t, mg_op t, mg_br t, mg_nw t, mg_fs t, mg_bc t, mg_kr t, mg_rw t, mg_rc t) u) rfl ?_
  refine mw_s (j := 2) (v := v) eX4_watch_31 rfl rfl (by first | omega | exact zlt (hs _) | exact hou _ | exact hop _) ?_
  refine r_iload_n eX4_watch_32 rfl rfl ?_
  exact z_iret eX4_watch_33 rfl rfl ⟨_, rfl, rfl, rfl⟩
set_option maxHeartbeats 1000000 in
set_option maxRecDepth 100000 in
theorem s4_wake_n {t : zMod} {u : zCls} (hm : mOk t) {v x : Int32} (hv : v < 0 ∨ nI (mg_s t 0) ≤ v) : Mi mX4_wake 4 [.ref 0, .int (v), .int (x)] (hA t u) (fun r h' => r = (-1) ∧ h' = hA ((va_up (mg_re t) 1 (mg_re t 1 + 1)), mg_s t, mg_im t, mg_rd t, mg_ii t, mg_tp t, mg_tl t, mg_ta t, mg_at t, mg_ou t, mg_op t, mg_br t, mg_nw t, mg_fs t, mg_bc t, mg_kr t, mg_rw t, mg_rc t) u) := by
  refine Mi.of (by decide) rfl (Nat.le_of_ble_eq_true rfl) ?_
  refine r_aload_n eX4_wake_0 rfl rfl ?_
  refine r_iload_n eX4_wake_1 rfl rfl ?_
  refine r_callVi1 eX4_wake_2 lX4_94 (Or.inl ⟨_, _, _, rfl, rfl, rfl⟩) (s4_isPerson_n (t := t) (u := u) hv) (by omega) (Nat.le_of_ble_eq_true rfl) (fun r1 h1 hq => ?_)
  obtain ⟨rfl, rfl⟩ := (show r1 = nI (0) ∧ h1 = hA t u from hq)
  refine n_if_eq eX4_wake_5 (by first | omega | exact zlt (hs _) | exact hou _ | exact hop _) (fun hc5 => ?_) (fun hc5 => absurd hc5 (by decide))
  refine r_iconst (v := (-1)) eX4_wake_18 rfl ?_
  refine r_istore_n eX4_wake_19 rfl (by decide) ?_
  refine r_iload_n eX4_wake_20 rfl rfl ?_
  refine r_if_eq eX4_wake_21 (fun hc21 => absurd hc21 (by decide)) (fun hc21 => ?_)
  refine r_aload_n eX4_wake_24 rfl rfl ?_
  refine r_iload_n eX4_wake_25 rfl rfl ?_
  refine r_callVi1 eX4_wake_26 lX4_52 (Or.inl ⟨_, _, _, rfl, rfl, rfl⟩) (s4_refuse (t := t) (u := u) (x := (-1)) (c := 1) (by decide) (by decide)) (by omega) (Nat.le_of_ble_eq_true rfl) (fun r1 h1 hq => ?_)
  obtain ⟨rfl, rfl⟩ := (show r1 = (-1) ∧ h1 = hA ((va_up (mg_re t) 1 ((mg_re t) 1 + 1)), mg_s t, mg_im t, mg_rd t, mg_ii t, mg_tp t, mg_tl t, mg_ta t, mg_at t, mg_ou t, mg_op t, mg_br t, mg_nw t, mg_fs t, mg_bc t, mg_kr t, mg_rw t, mg_rc t) u from hq)
  exact z_iret eX4_wake_29 rfl rfl ⟨_, rfl, rfl, rfl⟩
set_option maxHeartbeats 1000000 in
set_option maxRecDepth 100000 in
theorem s4_wake_b {t : zMod} {u : zCls} (hm : mOk t) {v : Nat} (hv : v < mg_s t 0) {x : Int32} (hx : x < nI 0) : Mi mX4_wake 4 [.ref 0, .int (nI (v)), .int (x)] (hA t u) (fun r h' => r = (-4) ∧ h' = hA ((va_up (mg_re t) 4 (mg_re t 4 + 1)), mg_s t, mg_im t, mg_rd t, mg_ii t, mg_tp t, mg_tl t, mg_ta t, mg_at t, mg_ou t, mg_op t, mg_br t, mg_nw t, mg_fs t, mg_bc t, mg_kr t, mg_rw t, mg_rc t) u) := by
  obtain ⟨⟨hs, h0, h1⟩, hbr, hnw, hou, hop⟩ := id hm
  refine Mi.of (by decide) rfl (Nat.le_of_ble_eq_true rfl) ?_
  refine r_aload_n eX4_wake_0 rfl rfl ?_
  refine r_iload_n eX4_wake_1 rfl rfl ?_
  refine r_callVi1 eX4_wake_2 lX4_94 (Or.inl ⟨_, _, _, rfl, rfl, rfl⟩) (s4_isPerson_y (t := t) (u := u) h0 hv) (by omega) (Nat.le_of_ble_eq_true rfl) (fun r1 h1 hq => ?_)
  obtain ⟨rfl, rfl⟩ := (show r1 = nI (1) ∧ h1 = hA t u from hq)
  refine n_if_eq eX4_wake_5 (by first | omega | exact zlt (hs _) | exact hou _ | exact hop _) (fun hc5 => absurd hc5 (by decide)) (fun hc5 => ?_)
  refine r_iload_n eX4_wake_8 rfl rfl ?_
  refine n_iconst 0 eX4_wake_9 rfl ?_
  refine n_bipush 99 eX4_wake_10 rfl ?_
  refine r_callSi3 eX4_wake_12 lX4_44 (s4_within_b hx) (by omega) (Nat.le_of_ble_eq_true rfl) (fun r1 h1 hq => ?_)
  obtain ⟨rfl, rfl⟩ := hq
  refine r_goto eX4_wake_15 ?_
  refine r_istore_n eX4_wake_19 rfl (by decide) ?_
  refine r_iload_n eX4_wake_20 rfl rfl ?_
  refine r_if_eq eX4_wake_21 (fun hc21 => absurd hc21 (by decide)) (fun hc21 => ?_)
  refine r_aload_n eX4_wake_24 rfl rfl ?_
  refine r_iload_n eX4_wake_25 rfl rfl ?_
  refine r_callVi1 eX4_wake_26 lX4_52 (Or.inl ⟨_, _, _, rfl, rfl, rfl⟩) (s4_refuse (t := t) (u := u) (x := (-4)) (c := 4) (by decide) (by decide)) (by omega) (Nat.le_of_ble_eq_true rfl) (fun r1 h1 hq => ?_)
  obtain ⟨rfl, rfl⟩ := (show r1 = (-4) ∧ h1 = hA ((va_up (mg_re t) 4 ((mg_re t) 4 + 1)), mg_s t, mg_im t, mg_rd t, mg_ii t, mg_tp t, mg_tl t, mg_ta t, mg_at t, mg_ou t, mg_op t, mg_br t, mg_nw t, mg_fs t, mg_bc t, mg_kr t, mg_rw t, mg_rc t) u from hq)
  exact z_iret eX4_wake_29 rfl rfl ⟨_, rfl, rfl, rfl⟩
set_option maxHeartbeats 1000000 in
set_option maxRecDepth 100000 in
theorem s4_wake_r {t : zMod} {u : zCls} (hm : mOk t) {v : Nat} (hv : v < mg_s t 0) {x : Int32} (hx0 : nI 0 ≤ x) (hx : nI 99 < x) : Mi mX4_wake 4 [.ref 0, .int (nI (v)), .int (x)] (hA t u) (fun r h' => r = (-6) ∧ h' = hA ((va_up (mg_re t) 6 (mg_re t 6 + 1)), mg_s t, mg_im t, mg_rd t, mg_ii t, mg_tp t, mg_tl t, mg_ta t, mg_at t, mg_ou t, mg_op t, mg_br t, mg_nw t, mg_fs t, mg_bc t, mg_kr t, mg_rw t, mg_rc t) u) := by
  obtain ⟨⟨hs, h0, h1⟩, hbr, hnw, hou, hop⟩ := id hm
  refine Mi.of (by decide) rfl (Nat.le_of_ble_eq_true rfl) ?_
  refine r_aload_n eX4_wake_0 rfl rfl ?_
  refine r_iload_n eX4_wake_1 rfl rfl ?_
  refine r_callVi1 eX4_wake_2 lX4_94 (Or.inl ⟨_, _, _, rfl, rfl, rfl⟩) (s4_isPerson_y (t := t) (u := u) h0 hv) (by omega) (Nat.le_of_ble_eq_true rfl) (fun r1 h1 hq => ?_)
  obtain ⟨rfl, rfl⟩ := (show r1 = nI (1) ∧ h1 = hA t u from hq)
  refine n_if_eq eX4_wake_5 (by first | omega | exact zlt (hs _) | exact hou _ | exact hop _) (fun hc5 => absurd hc5 (by decide)) (fun hc5 => ?_)
  refine r_iload_n eX4_wake_8 rfl rfl ?_
  refine n_iconst 0 eX4_wake_9 rfl ?_
  refine n_bipush 99 eX4_wake_10 rfl ?_
  refine r_callSi3 eX4_wake_12 lX4_44 (s4_within_r hx0 hx) (by omega) (Nat.le_of_ble_eq_true rfl) (fun r1 h1 hq => ?_)
  obtain ⟨rfl, rfl⟩ := hq
  refine r_goto eX4_wake_15 ?_
  refine r_istore_n eX4_wake_19 rfl (by decide) ?_
  refine r_iload_n eX4_wake_20 rfl rfl ?_
  refine r_if_eq eX4_wake_21 (fun hc21 => absurd hc21 (by decide)) (fun hc21 => ?_)
  refine r_aload_n eX4_wake_24 rfl rfl ?_
  refine r_iload_n eX4_wake_25 rfl rfl ?_
  refine r_callVi1 eX4_wake_26 lX4_52 (Or.inl ⟨_, _, _, rfl, rfl, rfl⟩) (s4_refuse (t := t) (u := u) (x := (-6)) (c := 6) (by decide) (by decide)) (by omega) (Nat.le_of_ble_eq_true rfl) (fun r1 h1 hq => ?_)
  obtain ⟨rfl, rfl⟩ := (show r1 = (-6) ∧ h1 = hA ((va_up (mg_re t) 6 ((mg_re t) 6 + 1)), mg_s t, mg_im t, mg_rd t, mg_ii t, mg_tp t, mg_tl t, mg_ta t, mg_at t, mg_ou t, mg_op t, mg_br t, mg_nw t, mg_fs t, mg_bc t, mg_kr t, mg_rw t, mg_rc t) u from hq)
  exact z_iret eX4_wake_29 rfl rfl ⟨_, rfl, rfl, rfl⟩
set_option maxHeartbeats 1000000 in
set_option maxRecDepth 100000 in
theorem s4_wake_k {t : zMod} {u : zCls} (hm : mOk t) {v : Nat} (hv : v < mg_s t 0) {x : Nat} (hx : x ≤ 99) : Mi mX4_wake 4 [.ref 0, .int (nI (v)), .int (nI (x))] (hA t u) (fun r h' => r = nI (mg_s t (5 + 5 * v + 1)) ∧ h' = hA (mg_re t, (va_up (mg_s t) (5 + 5 * v + 1) x), mg_im t, mg_rd t, mg_ii t, mg_tp t, mg_tl t, mg_ta t, mg_at t, mg_ou t, mg_op t, mg_br t, mg_nw t, mg_fs t, mg_bc t, mg_kr t, mg_rw t, mg_rc t) u) := by
  obtain ⟨⟨hs, h0, h1⟩, hbr, hnw, hou, hop⟩ := id hm
  refine Mi.of (by decide) rfl (Nat.le_of_ble_eq_true rfl) ?_
  refine r_aload_n eX4_wake_0 rfl rfl ?_
  refine r_iload_n eX4_wake_1 rfl rfl ?_
  refine r_callVi1 eX4_wake_2 lX4_94 (Or.inl ⟨_, _, _, rfl, rfl, rfl⟩) (s4_isPerson_y (t := t) (u := u) h0 hv) (by omega) (Nat.le_of_ble_eq_true rfl) (fun r1 h1 hq => ?_)
  obtain ⟨rfl, rfl⟩ := (show r1 = nI (1) ∧ h1 = hA t u from hq)
  refine n_if_eq eX4_wake_5 (by first | omega | exact zlt (hs _) | exact hou _ | exact hop _) (fun hc5 => absurd hc5 (by decide)) (fun hc5 => ?_)
  refine r_iload_n eX4_wake_8 rfl rfl ?_
  refine n_iconst 0 eX4_wake_9 rfl ?_
  refine n_bipush 99 eX4_wake_10 rfl ?_
  refine r_callSi3 eX4_wake_12 lX4_44 (s4_within_k (nI_le (by omega) (by omega)) (nI_le (by omega) (by omega))) (by omega) (Nat.le_of_ble_eq_true rfl) (fun r1 h1 hq => ?_)
  obtain ⟨rfl, rfl⟩ := hq
  refine r_goto eX4_wake_15 ?_
  refine r_istore_n eX4_wake_19 rfl (by decide) ?_
  refine r_iload_n eX4_wake_20 rfl rfl ?_
  refine n_if_eq eX4_wake_21 (by first | omega | exact zlt (hs _) | exact hou _ | exact hop _) (fun hc21 => ?_) (fun hc21 => absurd hc21 (by decide))
  refine r_aload_n eX4_wake_30 rfl rfl ?_
  refine r_iload_n eX4_wake_31 rfl rfl ?_
  refine n_iconst 1 eX4_wake_32 rfl ?_
  refine r_callVi2 eX4_wake_33 lX4_90 (Or.inl ⟨_, _, _, rfl, rfl, rfl⟩) (s4_get (t := t) (u := u) (by omega)) (by omega) (Nat.le_of_ble_eq_true rfl) (fun r1 h1 hq => ?_)
  obtain ⟨rfl, rfl⟩ := (show r1 = nI ((mg_s t) (5 + 5 * v + 1)) ∧ h1 = hA t u from hq)
  refine r_istore eX4_wake_36 (by decide) ?_
  refine r_aload_n eX4_wake_38 rfl rfl ?_
  refine r_getf (v := .ref 2) eX4_wake_39 fX4_13 rfl rfl ?_
  refine n_iconst 5 eX4_wake_42 rfl ?_
  refine n_iconst 5 eX4_wake_43 rfl ?_
  refine r_iload_n eX4_wake_44 rfl rfl ?_
  refine n_mul eX4_wake_45 ?_
  refine n_add eX4_wake_46 ?_
  refine n_iconst 1 eX4_wake_47 rfl ?_
  refine n_add eX4_wake_48 ?_
  refine r_iload_n eX4_wake_49 rfl rfl ?_
  refine z_h (h' := hA (mg_re t, mg_s t, mg_im t, mg_rd t, mg_ii t, mg_tp t, mg_tl t, mg_ta t, mg_at t, mg_ou t, mg_op t, mg_br t, mg_nw t, mg_fs t, mg_bc t, mg_kr t, mg_rw t, mg_rc t) u) rfl ?_
  refine mw_s (j := (5 + (5 * v)) + 1) (v := x) eX4_wake_50 rfl rfl (by first | omega | exact zlt (hs _) | exact hou _ | exact hop _) ?_
  refine r_iload eX4_wake_51 rfl ?_
  exact z_iret eX4_wake_53 rfl rfl ⟨_, rfl, rfl, rfl⟩
set_option maxHeartbeats 1000000 in
set_option maxRecDepth 100000 in
theorem s4_walk_b {t : zMod} {u : zCls} {x : Int32} (hx : x < nI 0) : Mi mX4_walk 4 [.ref 0, .int (x)] (hA t u) (fun r h' => r = (-4) ∧ h' = hA ((va_up (mg_re t) 4 (mg_re t 4 + 1)), mg_s t, mg_im t, mg_rd t, mg_ii t, mg_tp t, mg_tl t, mg_ta t, mg_at t, mg_ou t, mg_op t, mg_br t, mg_nw t, mg_fs t, mg_bc t, mg_kr t, mg_rw t, mg_rc t) u) := by
  refine Mi.of (by decide) rfl (Nat.le_of_ble_eq_true rfl) ?_
  refine r_iload_n eX4_walk_0 rfl rfl ?_
  refine n_iconst 0 eX4_walk_1 rfl ?_
  refine n_bipush 9 eX4_walk_2 rfl ?_
  refine r_callSi3 eX4_walk_4 lX4_44 (s4_within_b hx) (by omega) (Nat.le_of_ble_eq_true rfl) (fun r1 h1 hq => ?_)
  obtain ⟨rfl, rfl⟩ := hq
  refine r_istore_n eX4_walk_7 rfl (by decide) ?_
  refine r_iload_n eX4_walk_8 rfl rfl ?_
  refine r_if_eq eX4_walk_9 (fun hc9 => absurd hc9 (by decide)) (fun hc9 => ?_)
  refine r_aload_n eX4_walk_12 rfl rfl ?_
  refine r_iload_n eX4_walk_13 rfl rfl ?_
  refine r_callVi1 eX4_walk_14 lX4_52 (Or.inl ⟨_, _, _, rfl, rfl, rfl⟩) (s4_refuse (t := t) (u := u) (x := (-4)) (c := 4) (by decide) (by decide)) (by omega) (Nat.le_of_ble_eq_true rfl) (fun r1 h1 hq => ?_)
  obtain ⟨rfl, rfl⟩ := (show r1 = (-4) ∧ h1 = hA ((va_up (mg_re t) 4 ((mg_re t) 4 + 1)), mg_s t, mg_im t, mg_rd t, mg_ii t, mg_tp t, mg_tl t, mg_ta t, mg_at t, mg_ou t, mg_op t, mg_br t, mg_nw t, mg_fs t, mg_bc t, mg_kr t, mg_rw t, mg_rc t) u from hq)
  exact z_iret eX4_walk_17 rfl rfl ⟨_, rfl, rfl, rfl⟩
set_option maxHeartbeats 1000000 in
set_option maxRecDepth 100000 in
theorem s4_walk_r {t : zMod} {u : zCls} {x : Int32} (hx0 : nI 0 ≤ x) (hx : nI 9 < x) : Mi mX4_walk 4 [.ref 0, .int (x)] (hA t u) (fun r h' => r = (-6) ∧ h' = hA ((va_up (mg_re t) 6 (mg_re t 6 + 1)), mg_s t, mg_im t, mg_rd t, mg_ii t, mg_tp t, mg_tl t, mg_ta t, mg_at t, mg_ou t, mg_op t, mg_br t, mg_nw t, mg_fs t, mg_bc t, mg_kr t, mg_rw t, mg_rc t) u) := by
  refine Mi.of (by decide) rfl (Nat.le_of_ble_eq_true rfl) ?_
  refine r_iload_n eX4_walk_0 rfl rfl ?_
  refine n_iconst 0 eX4_walk_1 rfl ?_
  refine n_bipush 9 eX4_walk_2 rfl ?_
  refine r_callSi3 eX4_walk_4 lX4_44 (s4_within_r hx0 hx) (by omega) (Nat.le_of_ble_eq_true rfl) (fun r1 h1 hq => ?_)
  obtain ⟨rfl, rfl⟩ := hq
  refine r_istore_n eX4_walk_7 rfl (by decide) ?_
  refine r_iload_n eX4_walk_8 rfl rfl ?_
  refine r_if_eq eX4_walk_9 (fun hc9 => absurd hc9 (by decide)) (fun hc9 => ?_)
  refine r_aload_n eX4_walk_12 rfl rfl ?_
  refine r_iload_n eX4_walk_13 rfl rfl ?_
  refine r_callVi1 eX4_walk_14 lX4_52 (Or.inl ⟨_, _, _, rfl, rfl, rfl⟩) (s4_refuse (t := t) (u := u) (x := (-6)) (c := 6) (by decide) (by decide)) (by omega) (Nat.le_of_ble_eq_true rfl) (fun r1 h1 hq => ?_)
  obtain ⟨rfl, rfl⟩ := (show r1 = (-6) ∧ h1 = hA ((va_up (mg_re t) 6 ((mg_re t) 6 + 1)), mg_s t, mg_im t, mg_rd t, mg_ii t, mg_tp t, mg_tl t, mg_ta t, mg_at t, mg_ou t, mg_op t, mg_br t, mg_nw t, mg_fs t, mg_bc t, mg_kr t, mg_rw t, mg_rc t) u from hq)
  exact z_iret eX4_walk_17 rfl rfl ⟨_, rfl, rfl, rfl⟩
set_option maxHeartbeats 1000000 in
set_option maxRecDepth 100000 in
theorem s4_walk_k {t : zMod} {u : zCls} {x : Nat} (hx : x ≤ 9) : Mi mX4_walk 4 [.ref 0, .int (nI (x))] (hA t u) (fun r h' => r = nI (mg_s t 3) ∧ h' = hA (mg_re t, (va_up (mg_s t) 3 x), mg_im t, mg_rd t, mg_ii t, mg_tp t, mg_tl t, mg_ta t, mg_at t, mg_ou t, mg_op t, mg_br t, mg_nw t, mg_fs t, mg_bc t, mg_kr t, mg_rw t, mg_rc t) u) := by
  refine Mi.of (by decide) rfl (Nat.le_of_ble_eq_true rfl) ?_
  refine r_iload_n eX4_walk_0 rfl rfl ?_
  refine n_iconst 0 eX4_walk_1 rfl ?_
  refine n_bipush 9 eX4_walk_2 rfl ?_
  refine r_callSi3 eX4_walk_4 lX4_44 (s4_within_k (nI_le (by omega) (by omega)) (nI_le (by omega) (by omega))) (by omega) (Nat.le_of_ble_eq_true rfl) (fun r1 h1 hq => ?_)
  obtain ⟨rfl, rfl⟩ := hq
  refine r_istore_n eX4_walk_7 rfl (by decide) ?_
  refine r_iload_n eX4_walk_8 rfl rfl ?_
  refine n_if_eq eX4_walk_9 (by first | omega | exact zlt (hs _) | exact hou _ | exact hop _) (fun hc9 => ?_) (fun hc9 => absurd hc9 (by decide))
  refine r_aload_n eX4_walk_18 rfl rfl ?_
  refine r_getf (v := .ref 2) eX4_walk_19 fX4_13 rfl rfl ?_
  refine n_iconst 3 eX4_walk_22 rfl ?_
  refine n_iald (f := mg_s t) (j := 3) eX4_walk_23 rfl rfl (by first | omega | exact zlt (hs _) | exact hou _ | exact hop _) (by decide) ?_
  refine r_istore_n eX4_walk_24 rfl (by decide) ?_
  refine r_aload_n eX4_walk_25 rfl rfl ?_
  refine r_getf (v := .ref 2) eX4_walk_26 fX4_13 rfl rfl ?_
  refine n_iconst 3 eX4_walk_29 rfl ?_
  refine r_iload_n eX4_walk_30 rfl rfl ?_
  refine z_h (h' := hA (mg_re t, mg_s t, mg_im t, mg_rd t, mg_ii t, mg_tp t, mg_tl t, mg_ta t, mg_at t, mg_ou t, mg_op t, mg_br t, mg_nw t, mg_fs t, mg_bc t, mg_kr t, mg_rw t, mg_rc t) u) rfl ?_
  refine mw_s (j := 3) (v := x) eX4_walk_31 rfl rfl (by first | omega | exact zlt (hs _) | exact hou _ | exact hop _) ?_
  refine r_iload_n eX4_walk_32 rfl rfl ?_
  exact z_iret eX4_walk_33 rfl rfl ⟨_, rfl, rfl, rfl⟩
set_option maxHeartbeats 1000000 in
set_option maxRecDepth 100000 in
theorem s4_row_b {t : zMod} {u : zCls} {c : Int32} (hc : c < nI 0) : Mi mX4_row 4 [.ref 0, .int (c)] (hA t u) (fun r h' => r = (-4) ∧ h' = hA ((va_up (mg_re t) 4 (mg_re t 4 + 1)), mg_s t, mg_im t, mg_rd t, mg_ii t, mg_tp t, mg_tl t, mg_ta t, mg_at t, mg_ou t, mg_op t, mg_br t, mg_nw t, mg_fs t, mg_bc t, mg_kr t, mg_rw t, mg_rc t) u) := by
  refine Mi.of (by decide) rfl (Nat.le_of_ble_eq_true rfl) ?_
  refine r_iload_n eX4_row_0 rfl rfl ?_
  refine n_iconst 0 eX4_row_1 rfl ?_
  refine n_sipush 999 eX4_row_2 rfl ?_
  refine r_callSi3 eX4_row_5 lX4_44 (s4_within_b hc) (by omega) (Nat.le_of_ble_eq_true rfl) (fun r1 h1 hq => ?_)
  obtain ⟨rfl, rfl⟩ := hq
  refine r_istore_n eX4_row_8 rfl (by decide) ?_
  refine r_iload_n eX4_row_9 rfl rfl ?_
  refine r_if_ne eX4_row_10 (fun hc10 => ?_) (fun hc10 => absurd hc10 (by decide))
  refine r_iload_n eX4_row_25 rfl rfl ?_
  refine r_if_eq eX4_row_26 (fun hc26 => absurd hc26 (by decide)) (fun hc26 => ?_)
  refine r_aload_n eX4_row_29 rfl rfl ?_
  refine r_iload_n eX4_row_30 rfl rfl ?_
  refine r_callVi1 eX4_row_31 lX4_52 (Or.inl ⟨_, _, _, rfl, rfl, rfl⟩) (s4_refuse (t := t) (u := u) (x := (-4)) (c := 4) (by decide) (by decide)) (by omega) (Nat.le_of_ble_eq_true rfl) (fun r1 h1 hq => ?_)
  obtain ⟨rfl, rfl⟩ := (show r1 = (-4) ∧ h1 = hA ((va_up (mg_re t) 4 ((mg_re t) 4 + 1)), mg_s t, mg_im t, mg_rd t, mg_ii t, mg_tp t, mg_tl t, mg_ta t, mg_at t, mg_ou t, mg_op t, mg_br t, mg_nw t, mg_fs t, mg_bc t, mg_kr t, mg_rw t, mg_rc t) u from hq)
  exact z_iret eX4_row_34 rfl rfl ⟨_, rfl, rfl, rfl⟩
set_option maxHeartbeats 1000000 in
set_option maxRecDepth 100000 in
theorem s4_row_r {t : zMod} {u : zCls} {c : Int32} (hc0 : nI 0 ≤ c) (hc : nI 999 < c) : Mi mX4_row 4 [.ref 0, .int (c)] (hA t u) (fun r h' => r = (-6) ∧ h' = hA ((va_up (mg_re t) 6 (mg_re t 6 + 1)), mg_s t, mg_im t, mg_rd t, mg_ii t, mg_tp t, mg_tl t, mg_ta t, mg_at t, mg_ou t, mg_op t, mg_br t, mg_nw t, mg_fs t, mg_bc t, mg_kr t, mg_rw t, mg_rc t) u) := by
  refine Mi.of (by decide) rfl (Nat.le_of_ble_eq_true rfl) ?_
  refine r_iload_n eX4_row_0 rfl rfl ?_
  refine n_iconst 0 eX4_row_1 rfl ?_
  refine n_sipush 999 eX4_row_2 rfl ?_
  refine r_callSi3 eX4_row_5 lX4_44 (s4_within_r hc0 hc) (by omega) (Nat.le_of_ble_eq_true rfl) (fun r1 h1 hq => ?_)
  obtain ⟨rfl, rfl⟩ := hq
  refine r_istore_n eX4_row_8 rfl (by decide) ?_
  refine r_iload_n eX4_row_9 rfl rfl ?_
  refine r_if_ne eX4_row_10 (fun hc10 => ?_) (fun hc10 => absurd hc10 (by decide))
  refine r_iload_n eX4_row_25 rfl rfl ?_
  refine r_if_eq eX4_row_26 (fun hc26 => absurd hc26 (by decide)) (fun hc26 => ?_)
  refine r_aload_n eX4_row_29 rfl rfl ?_
  refine r_iload_n eX4_row_30 rfl rfl ?_
  refine r_callVi1 eX4_row_31 lX4_52 (Or.inl ⟨_, _, _, rfl, rfl, rfl⟩) (s4_refuse (t := t) (u := u) (x := (-6)) (c := 6) (by decide) (by decide)) (by omega) (Nat.le_of_ble_eq_true rfl) (fun r1 h1 hq => ?_)
  obtain ⟨rfl, rfl⟩ := (show r1 = (-6) ∧ h1 = hA ((va_up (mg_re t) 6 ((mg_re t) 6 + 1)), mg_s t, mg_im t, mg_rd t, mg_ii t, mg_tp t, mg_tl t, mg_ta t, mg_at t, mg_ou t, mg_op t, mg_br t, mg_nw t, mg_fs t, mg_bc t, mg_kr t, mg_rw t, mg_rc t) u from hq)
  exact z_iret eX4_row_34 rfl rfl ⟨_, rfl, rfl, rfl⟩
set_option maxHeartbeats 1000000 in
set_option maxRecDepth 100000 in
theorem s4_row_f {t : zMod} {u : zCls} {c : Nat} (hc : c ≤ 999) (ht : mg_rc t = 7) : Mi mX4_row 4 [.ref 0, .int (nI (c))] (hA t u) (fun r h' => r = (-6) ∧ h' = hA ((va_up (mg_re t) 6 (mg_re t 6 + 1)), mg_s t, mg_im t, mg_rd t, mg_ii t, mg_tp t, mg_tl t, mg_ta t, mg_at t, mg_ou t, mg_op t, mg_br t, mg_nw t, mg_fs t, mg_bc t, mg_kr t, mg_rw t, mg_rc t) u) := by
  refine Mi.of (by decide) rfl (Nat.le_of_ble_eq_true rfl) ?_
  refine r_iload_n eX4_row_0 rfl rfl ?_
  refine n_iconst 0 eX4_row_1 rfl ?_
  refine n_sipush 999 eX4_row_2 rfl ?_
  refine r_callSi3 eX4_row_5 lX4_44 (s4_within_k (nI_le (by omega) (by omega)) (nI_le (by omega) (by omega))) (by omega) (Nat.le_of_ble_eq_true rfl) (fun r1 h1 hq => ?_)
  obtain ⟨rfl, rfl⟩ := hq
  refine r_istore_n eX4_row_8 rfl (by decide) ?_
  refine r_iload_n eX4_row_9 rfl rfl ?_
  refine n_if_ne eX4_row_10 (by first | omega | exact zlt (hs _) | exact hou _ | exact hop _) (fun hc10 => absurd hc10 (by decide)) (fun hc10 => ?_)
  refine r_aload_n eX4_row_13 rfl rfl ?_
  refine r_getf (v := .int (nI (mg_rc t))) eX4_row_14 fX4_195 rfl rfl ?_
  refine n_bipush 7 eX4_row_17 rfl ?_
  refine n_icmp_ne eX4_row_19 (by first | omega | exact zlt (hs _) | exact hou _ | exact hop _) (by first | omega | exact zlt (hs _) | exact hou _ | exact hop _) (fun hc19 => absurd hc19 (by omega)) (fun hc19 => ?_)
  refine r_bipush (v := (-6)) eX4_row_22 rfl ?_
  refine r_istore_n eX4_row_24 rfl (by decide) ?_
  refine r_iload_n eX4_row_25 rfl rfl ?_
  refine r_if_eq eX4_row_26 (fun hc26 => absurd hc26 (by decide)) (fun hc26 => ?_)
  refine r_aload_n eX4_row_29 rfl rfl ?_
  refine r_iload_n eX4_row_30 rfl rfl ?_
  refine r_callVi1 eX4_row_31 lX4_52 (Or.inl ⟨_, _, _, rfl, rfl, rfl⟩) (s4_refuse (t := t) (u := u) (x := (-6)) (c := 6) (by decide) (by decide)) (by omega) (Nat.le_of_ble_eq_true rfl) (fun r1 h1 hq => ?_)
  obtain ⟨rfl, rfl⟩ := (show r1 = (-6) ∧ h1 = hA ((va_up (mg_re t) 6 ((mg_re t) 6 + 1)), mg_s t, mg_im t, mg_rd t, mg_ii t, mg_tp t, mg_tl t, mg_ta t, mg_at t, mg_ou t, mg_op t, mg_br t, mg_nw t, mg_fs t, mg_bc t, mg_kr t, mg_rw t, mg_rc t) u from hq)
  exact z_iret eX4_row_34 rfl rfl ⟨_, rfl, rfl, rfl⟩
set_option maxHeartbeats 1000000 in
set_option maxRecDepth 100000 in
theorem s4_row_k {t : zMod} {u : zCls} {c : Nat} (hc : c ≤ 999) (ht : mg_rc t < 7) : Mi mX4_row 4 [.ref 0, .int (nI (c))] (hA t u) (fun r h' => r = nI (mg_rc t + 1) ∧ h' = hA (mg_re t, mg_s t, mg_im t, mg_rd t, mg_ii t, mg_tp t, mg_tl t, mg_ta t, mg_at t, mg_ou t, mg_op t, mg_br t, mg_nw t, mg_fs t, mg_bc t, mg_kr t, (va_up (mg_rw t) (mg_rc t) c), (mg_rc t + 1)) u) := by
  refine Mi.of (by decide) rfl (Nat.le_of_ble_eq_true rfl) ?_
  refine r_iload_n eX4_row_0 rfl rfl ?_
  refine n_iconst 0 eX4_row_1 rfl ?_
  refine n_sipush 999 eX4_row_2 rfl ?_
  refine r_callSi3 eX4_row_5 lX4_44 (s4_within_k (nI_le (by omega) (by omega)) (nI_le (by omega) (by omega))) (by omega) (Nat.le_of_ble_eq_true rfl) (fun r1 h1 hq => ?_)
  obtain ⟨rfl, rfl⟩ := hq
  refine r_istore_n eX4_row_8 rfl (by decide) ?_
  refine r_iload_n eX4_row_9 rfl rfl ?_
  refine n_if_ne eX4_row_10 (by first | omega | exact zlt (hs _) | exact hou _ | exact hop _) (fun hc10 => absurd hc10 (by decide)) (fun hc10 => ?_)
  refine r_aload_n eX4_row_13 rfl rfl ?_
  refine r_getf (v := .int (nI (mg_rc t))) eX4_row_14 fX4_195 rfl rfl ?_
  refine n_bipush 7 eX4_row_17 rfl ?_
  refine n_icmp_ne eX4_row_19 (by first | omega | exact zlt (hs _) | exact hou _ | exact hop _) (by first | omega | exact zlt (hs _) | exact hou _ | exact hop _) (fun hc19 => ?_) (fun hc19 => absurd hc19 (by omega))
  refine r_iload_n eX4_row_25 rfl rfl ?_
  refine n_if_eq eX4_row_26 (by first | omega | exact zlt (hs _) | exact hou _ | exact hop _) (fun hc26 => ?_) (fun hc26 => absurd hc26 (by decide))
  refine r_aload_n eX4_row_35 rfl rfl ?_
  refine r_getf (v := .ref 10) eX4_row_36 fX4_37 rfl rfl ?_
  refine r_aload_n eX4_row_39 rfl rfl ?_
  refine r_getf (v := .int (nI (mg_rc t))) eX4_row_40 fX4_195 rfl rfl ?_
  refine r_iload_n eX4_row_43 rfl rfl ?_
  refine z_h (h' := hA (mg_re t, mg_s t, mg_im t, mg_rd t, mg_ii t, mg_tp t, mg_tl t, mg_ta t, mg_at t, mg_ou t, mg_op t, mg_br t, mg_nw t, mg_fs t, mg_bc t, mg_kr t, mg_rw t, mg_rc t) u) rfl ?_
  refine mw_rw (j := mg_rc t) (v := c) eX4_row_44 rfl rfl (by first | omega | exact zlt (hs _) | exact hou _ | exact hop _) ?_
  refine r_aload_n eX4_row_45 rfl rfl ?_
  refine r_dup eX4_row_46 rfl ?_
  refine r_getf (v := .int (nI (mg_rc t))) eX4_row_47 fX4_195 rfl rfl ?_
  refine n_iconst 1 eX4_row_50 rfl ?_
  refine n_add eX4_row_51 ?_
  refine mp_rc (v := (mg_rc t) + 1) eX4_row_52 fX4_195 rfl ?_
  refine r_aload_n eX4_row_55 rfl rfl ?_
  refine r_getf (v := .int (nI ((mg_rc t) + 1))) eX4_row_56 fX4_195 rfl rfl ?_
  exact z_iret eX4_row_59 rfl rfl ⟨_, rfl, rfl, rfl⟩
set_option maxHeartbeats 1000000 in
set_option maxRecDepth 100000 in
theorem s4_image {t : zMod} {u : zCls} (hm : mOk t) : Mi mX4_image 4 [.ref 0] (hA t u) (fun r h' => r = nI (mg_s t 0) ∧ h' = hA (mg_re t, mg_s t, (zcp (mg_s t) (mg_im t) 64), mg_rd t, 1, mg_tp t, mg_tl t, mg_ta t, mg_at t, mg_ou t, mg_op t, mg_br t, mg_nw t, mg_fs t, mg_bc t, mg_kr t, mg_rw t, mg_rc t) u) := by
  obtain ⟨⟨hs, h0, h1⟩, hbr, hnw, hou, hop⟩ := id hm
  refine Mi.of (by decide) rfl (Nat.le_of_ble_eq_true rfl) ?_
  refine r_aload_n eX4_image_0 rfl rfl ?_
  refine r_getf (v := .ref 2) eX4_image_1 fX4_13 rfl rfl ?_
  refine r_aload_n eX4_image_4 rfl rfl ?_
  refine r_getf (v := .ref 3) eX4_image_5 fX4_16 rfl rfl ?_
  refine r_callSv2 eX4_image_8 lX4_80 (s4_copiesTo_s_im (t := t) (u := u) ) (by omega) (Nat.le_of_ble_eq_true rfl) (fun h1 hq => ?_)
  obtain rfl := (show h1 = hA (mg_re t, mg_s t, (zcp (mg_s t) (mg_im t) 64), mg_rd t, mg_ii t, mg_tp t, mg_tl t, mg_ta t, mg_at t, mg_ou t, mg_op t, mg_br t, mg_nw t, mg_fs t, mg_bc t, mg_kr t, mg_rw t, mg_rc t) u from hq)
  refine r_aload_n eX4_image_11 rfl rfl ?_
  refine n_iconst 1 eX4_image_12 rfl ?_
  refine mp_ii (v := 1) eX4_image_13 fX4_201 rfl (by omega) ?_
  refine r_aload_n eX4_image_16 rfl rfl ?_
  refine r_getf (v := .ref 2) eX4_image_17 fX4_13 rfl rfl ?_
  refine n_iconst 0 eX4_image_20 rfl ?_
  refine n_iald (f := mg_s t) (j := 0) eX4_image_21 rfl rfl (by first | omega | exact zlt (hs _) | exact hou _ | exact hop _) (by decide) ?_
  exact z_iret eX4_image_22 rfl rfl ⟨_, rfl, rfl, rfl⟩
set_option maxHeartbeats 1000000 in
set_option maxRecDepth 100000 in
theorem s4_on_n {t : zMod} {u : zCls} (hi : mg_ii t = 0) : Mi mX4_on 4 [.ref 0] (hA t u) (fun r h' => r = (-3) ∧ h' = hA ((va_up (mg_re t) 3 (mg_re t 3 + 1)), mg_s t, mg_im t, mg_rd t, mg_ii t, mg_tp t, mg_tl t, mg_ta t, mg_at t, mg_ou t, mg_op t, mg_br t, mg_nw t, mg_fs t, mg_bc t, mg_kr t, mg_rw t, mg_rc t) u) := by
  refine Mi.of (by decide) rfl (Nat.le_of_ble_eq_true rfl) ?_
  refine r_aload_n eX4_on_0 rfl rfl ?_
  refine r_getf (v := .int (nI (mg_ii t))) eX4_on_1 fX4_201 rfl rfl ?_
  refine n_if_ne eX4_on_4 (by first | omega | exact zlt (hs _) | exact hou _ | exact hop _) (fun hc4 => absurd hc4 (by omega)) (fun hc4 => ?_)
  refine r_aload_n eX4_on_7 rfl rfl ?_
  refine r_bipush (v := (-3)) eX4_on_8 rfl ?_
  refine r_callVi1 eX4_on_10 lX4_52 (Or.inl ⟨_, _, _, rfl, rfl, rfl⟩) (s4_refuse (t := t) (u := u) (x := (-3)) (c := 3) (by decide) (by decide)) (by omega) (Nat.le_of_ble_eq_true rfl) (fun r1 h1 hq => ?_)
  obtain ⟨rfl, rfl⟩ := (show r1 = (-3) ∧ h1 = hA ((va_up (mg_re t) 3 ((mg_re t) 3 + 1)), mg_s t, mg_im t, mg_rd t, mg_ii t, mg_tp t, mg_tl t, mg_ta t, mg_at t, mg_ou t, mg_op t, mg_br t, mg_nw t, mg_fs t, mg_bc t, mg_kr t, mg_rw t, mg_rc t) u from hq)
  exact z_iret eX4_on_13 rfl rfl ⟨_, rfl, rfl, rfl⟩
set_option maxHeartbeats 1000000 in
set_option maxRecDepth 100000 in
theorem s4_on_k {t : zMod} {u : zCls} (hi : mg_ii t = 1) : Mi mX4_on 4 [.ref 0] (hA t u) (fun r h' => r = nI (mg_im t 0) ∧ h' = hA (mg_re t, (zcp (mg_im t) (mg_s t) 64), mg_im t, mg_rd t, mg_ii t, mg_tp t, mg_tl t, mg_ta t, mg_at t, mg_ou t, mg_op t, mg_br t, mg_nw t, mg_fs t, mg_bc t, mg_kr t, mg_rw t, mg_rc t) u) := by
  refine Mi.of (by decide) rfl (Nat.le_of_ble_eq_true rfl) ?_
  refine r_aload_n eX4_on_0 rfl rfl ?_
  refine r_getf (v := .int (nI (mg_ii t))) eX4_on_1 fX4_201 rfl rfl ?_
  refine n_if_ne eX4_on_4 (by first | omega | exact zlt (hs _) | exact hou _ | exact hop _) (fun hc4 => ?_) (fun hc4 => absurd hc4 (by omega))
  refine r_aload_n eX4_on_14 rfl rfl ?_
  refine r_getf (v := .ref 3) eX4_on_15 fX4_16 rfl rfl ?_
  refine r_aload_n eX4_on_18 rfl rfl ?_
  refine r_getf (v := .ref 2) eX4_on_19 fX4_13 rfl rfl ?_
  refine r_callSv2 eX4_on_22 lX4_80 (s4_copiesTo_im_s (t := t) (u := u) ) (by omega) (Nat.le_of_ble_eq_true rfl) (fun h1 hq => ?_)
  obtain rfl := (show h1 = hA (mg_re t, (zcp (mg_im t) (mg_s t) 64), mg_im t, mg_rd t, mg_ii t, mg_tp t, mg_tl t, mg_ta t, mg_at t, mg_ou t, mg_op t, mg_br t, mg_nw t, mg_fs t, mg_bc t, mg_kr t, mg_rw t, mg_rc t) u from hq)
  refine r_aload_n eX4_on_25 rfl rfl ?_
  refine r_getf (v := .ref 2) eX4_on_26 fX4_13 rfl rfl ?_
  refine n_iconst 0 eX4_on_29 rfl ?_
  refine n_iald (f := (zcp (mg_im t) (mg_s t) 64)) (j := 0) eX4_on_30 rfl rfl (by first | omega | exact zlt (hs _) | exact hou _ | exact hop _) (by decide) ?_
  exact z_iret eX4_on_31 rfl rfl ⟨_, rfl, rfl, rfl⟩
set_option maxHeartbeats 1000000 in
set_option maxRecDepth 100000 in
theorem s4_count_0 {t : zMod} {u : zCls} : Mi mX4_count 4 [.ref 0, .int (nI (0))] (hA t u) (fun r h' => r = nI (mg_s t 0) ∧ h' = hA t u) := by
  refine Mi.of (by decide) rfl (Nat.le_of_ble_eq_true rfl) ?_
  refine r_iload_n eX4_count_0 rfl rfl ?_
  refine n_bipush 10 eX4_count_1 rfl ?_
  refine n_icmp_le eX4_count_3 (by first | omega | exact zlt (hs _) | exact hou _ | exact hop _) (by first | omega | exact zlt (hs _) | exact hou _ | exact hop _) (fun hc3 => ?_) (fun hc3 => absurd hc3 (by decide))
  refine r_iload_n eX4_count_22 rfl rfl ?_
  refine r_tabIn (off := 41) (tgt := 64) eX4_count_23 (by decide) (by decide) (by decide) (by decide) ?_
  refine r_aload_n eX4_count_64 rfl rfl ?_
  refine r_getf (v := .ref 2) eX4_count_65 fX4_13 rfl rfl ?_
  refine r_iload_n eX4_count_68 rfl rfl ?_
  refine n_iald (f := mg_s t) (j := 0) eX4_count_69 rfl rfl (by first | omega | exact zlt (hs _) | exact hou _ | exact hop _) (by decide) ?_
  exact z_iret eX4_count_70 rfl rfl ⟨_, rfl, rfl, rfl⟩
set_option maxHeartbeats 1000000 in
set_option maxRecDepth 100000 in
theorem s4_count_1 {t : zMod} {u : zCls} : Mi mX4_count 4 [.ref 0, .int (nI (1))] (hA t u) (fun r h' => r = nI (mg_s t 1) ∧ h' = hA t u) := by
  refine Mi.of (by decide) rfl (Nat.le_of_ble_eq_true rfl) ?_
  refine r_iload_n eX4_count_0 rfl rfl ?_
  refine n_bipush 10 eX4_count_1 rfl ?_
  refine n_icmp_le eX4_count_3 (by first | omega | exact zlt (hs _) | exact hou _ | exact hop _) (by first | omega | exact zlt (hs _) | exact hou _ | exact hop _) (fun hc3 => ?_) (fun hc3 => absurd hc3 (by decide))
  refine r_iload_n eX4_count_22 rfl rfl ?_
  refine r_tabIn (off := 41) (tgt := 64) eX4_count_23 (by decide) (by decide) (by decide) (by decide) ?_
  refine r_aload_n eX4_count_64 rfl rfl ?_
  refine r_getf (v := .ref 2) eX4_count_65 fX4_13 rfl rfl ?_
  refine r_iload_n eX4_count_68 rfl rfl ?_
  refine n_iald (f := mg_s t) (j := 1) eX4_count_69 rfl rfl (by first | omega | exact zlt (hs _) | exact hou _ | exact hop _) (by decide) ?_
  exact z_iret eX4_count_70 rfl rfl ⟨_, rfl, rfl, rfl⟩
set_option maxHeartbeats 1000000 in
set_option maxRecDepth 100000 in
theorem s4_count_2 {t : zMod} {u : zCls} : Mi mX4_count 4 [.ref 0, .int (nI (2))] (hA t u) (fun r h' => r = nI (mg_s t 2) ∧ h' = hA t u) := by
  refine Mi.of (by decide) rfl (Nat.le_of_ble_eq_true rfl) ?_
  refine r_iload_n eX4_count_0 rfl rfl ?_
  refine n_bipush 10 eX4_count_1 rfl ?_
  refine n_icmp_le eX4_count_3 (by first | omega | exact zlt (hs _) | exact hou _ | exact hop _) (by first | omega | exact zlt (hs _) | exact hou _ | exact hop _) (fun hc3 => ?_) (fun hc3 => absurd hc3 (by decide))
  refine r_iload_n eX4_count_22 rfl rfl ?_
  refine r_tabIn (off := 41) (tgt := 64) eX4_count_23 (by decide) (by decide) (by decide) (by decide) ?_
  refine r_aload_n eX4_count_64 rfl rfl ?_
  refine r_getf (v := .ref 2) eX4_count_65 fX4_13 rfl rfl ?_
  refine r_iload_n eX4_count_68 rfl rfl ?_
  refine n_iald (f := mg_s t) (j := 2) eX4_count_69 rfl rfl (by first | omega | exact zlt (hs _) | exact hou _ | exact hop _) (by decide) ?_
  exact z_iret eX4_count_70 rfl rfl ⟨_, rfl, rfl, rfl⟩
set_option maxHeartbeats 1000000 in
set_option maxRecDepth 100000 in
theorem s4_count_3 {t : zMod} {u : zCls} : Mi mX4_count 4 [.ref 0, .int (nI (3))] (hA t u) (fun r h' => r = nI (mg_s t 3) ∧ h' = hA t u) := by
  refine Mi.of (by decide) rfl (Nat.le_of_ble_eq_true rfl) ?_
  refine r_iload_n eX4_count_0 rfl rfl ?_
  refine n_bipush 10 eX4_count_1 rfl ?_
  refine n_icmp_le eX4_count_3 (by first | omega | exact zlt (hs _) | exact hou _ | exact hop _) (by first | omega | exact zlt (hs _) | exact hou _ | exact hop _) (fun hc3 => ?_) (fun hc3 => absurd hc3 (by decide))
  refine r_iload_n eX4_count_22 rfl rfl ?_
  refine r_tabIn (off := 41) (tgt := 64) eX4_count_23 (by decide) (by decide) (by decide) (by decide) ?_
  refine r_aload_n eX4_count_64 rfl rfl ?_
  refine r_getf (v := .ref 2) eX4_count_65 fX4_13 rfl rfl ?_
  refine r_iload_n eX4_count_68 rfl rfl ?_
  refine n_iald (f := mg_s t) (j := 3) eX4_count_69 rfl rfl (by first | omega | exact zlt (hs _) | exact hou _ | exact hop _) (by decide) ?_
  exact z_iret eX4_count_70 rfl rfl ⟨_, rfl, rfl, rfl⟩
set_option maxHeartbeats 1000000 in
set_option maxRecDepth 100000 in
theorem s4_count_4 {t : zMod} {u : zCls} : Mi mX4_count 4 [.ref 0, .int (nI (4))] (hA t u) (fun r h' => r = nI (mg_s t 4) ∧ h' = hA t u) := by
  refine Mi.of (by decide) rfl (Nat.le_of_ble_eq_true rfl) ?_
  refine r_iload_n eX4_count_0 rfl rfl ?_
  refine n_bipush 10 eX4_count_1 rfl ?_
  refine n_icmp_le eX4_count_3 (by first | omega | exact zlt (hs _) | exact hou _ | exact hop _) (by first | omega | exact zlt (hs _) | exact hou _ | exact hop _) (fun hc3 => ?_) (fun hc3 => absurd hc3 (by decide))
  refine r_iload_n eX4_count_22 rfl rfl ?_
  refine r_tabIn (off := 41) (tgt := 64) eX4_count_23 (by decide) (by decide) (by decide) (by decide) ?_
  refine r_aload_n eX4_count_64 rfl rfl ?_
  refine r_getf (v := .ref 2) eX4_count_65 fX4_13 rfl rfl ?_
  refine r_iload_n eX4_count_68 rfl rfl ?_
  refine n_iald (f := mg_s t) (j := 4) eX4_count_69 rfl rfl (by first | omega | exact zlt (hs _) | exact hou _ | exact hop _) (by decide) ?_
  exact z_iret eX4_count_70 rfl rfl ⟨_, rfl, rfl, rfl⟩
set_option maxHeartbeats 1000000 in
set_option maxRecDepth 100000 in
theorem s4_count_5 {t : zMod} {u : zCls} : Mi mX4_count 4 [.ref 0, .int (nI (5))] (hA t u) (fun r h' => r = nI (mg_rc t) ∧ h' = hA t u) := by
  refine Mi.of (by decide) rfl (Nat.le_of_ble_eq_true rfl) ?_
  refine r_iload_n eX4_count_0 rfl rfl ?_
  refine n_bipush 10 eX4_count_1 rfl ?_
  refine n_icmp_le eX4_count_3 (by first | omega | exact zlt (hs _) | exact hou _ | exact hop _) (by first | omega | exact zlt (hs _) | exact hou _ | exact hop _) (fun hc3 => ?_) (fun hc3 => absurd hc3 (by decide))
  refine r_iload_n eX4_count_22 rfl rfl ?_
  refine r_tabIn (off := 48) (tgt := 71) eX4_count_23 (by decide) (by decide) (by decide) (by decide) ?_
  refine r_aload_n eX4_count_71 rfl rfl ?_
  refine r_getf (v := .int (nI (mg_rc t))) eX4_count_72 fX4_195 rfl rfl ?_
  exact z_iret eX4_count_75 rfl rfl ⟨_, rfl, rfl, rfl⟩
set_option maxHeartbeats 1000000 in
set_option maxRecDepth 100000 in
theorem s4_count_6 {t : zMod} {u : zCls} : Mi mX4_count 4 [.ref 0, .int (nI (6))] (hA t u) (fun r h' => r = nI (mg_ta t) ∧ h' = hA t u) := by
  refine Mi.of (by decide) rfl (Nat.le_of_ble_eq_true rfl) ?_
  refine r_iload_n eX4_count_0 rfl rfl ?_
  refine n_bipush 10 eX4_count_1 rfl ?_
  refine n_icmp_le eX4_count_3 (by first | omega | exact zlt (hs _) | exact hou _ | exact hop _) (by first | omega | exact zlt (hs _) | exact hou _ | exact hop _) (fun hc3 => ?_) (fun hc3 => absurd hc3 (by decide))
  refine r_iload_n eX4_count_22 rfl rfl ?_
  refine r_tabIn (off := 53) (tgt := 76) eX4_count_23 (by decide) (by decide) (by decide) (by decide) ?_
  refine r_aload_n eX4_count_76 rfl rfl ?_
  refine r_getf (v := .int (nI (mg_ta t))) eX4_count_77 fX4_48 rfl rfl ?_
  exact z_iret eX4_count_80 rfl rfl ⟨_, rfl, rfl, rfl⟩
set_option maxHeartbeats 1000000 in
set_option maxRecDepth 100000 in
theorem s4_count_11 {t : zMod} {u : zCls} : Mi mX4_count 4 [.ref 0, .int (nI (11))] (hA t u) (fun r h' => r = nI (mg_re t (11 - 10)) ∧ h' = hA t u) := by
  refine Mi.of (by decide) rfl (Nat.le_of_ble_eq_true rfl) ?_
  refine r_iload_n eX4_count_0 rfl rfl ?_
  refine n_bipush 10 eX4_count_1 rfl ?_
  refine n_icmp_le eX4_count_3 (by first | omega | exact zlt (hs _) | exact hou _ | exact hop _) (by first | omega | exact zlt (hs _) | exact hou _ | exact hop _) (fun hc3 => absurd hc3 (by decide)) (fun hc3 => ?_)
  refine r_iload_n eX4_count_6 rfl rfl ?_
  refine n_bipush 17 eX4_count_7 rfl ?_
  refine n_icmp_ge eX4_count_9 (by first | omega | exact zlt (hs _) | exact hou _ | exact hop _) (by first | omega | exact zlt (hs _) | exact hou _ | exact hop _) (fun hc9 => absurd hc9 (by decide)) (fun hc9 => ?_)
  refine r_aload_n eX4_count_12 rfl rfl ?_
  refine r_getf (v := .ref 1) eX4_count_13 fX4_7 rfl rfl ?_
  refine r_iload_n eX4_count_16 rfl rfl ?_
  refine n_bipush 10 eX4_count_17 rfl ?_
  refine n_sub eX4_count_19 (by first | omega | exact zlt (hs _) | exact hou _ | exact hop _) ?_
  refine n_iald (f := mg_re t) (j := 11 - 10) eX4_count_20 rfl rfl (by first | omega | exact zlt (hs _) | exact hou _ | exact hop _) (by decide) ?_
  exact z_iret eX4_count_21 rfl rfl ⟨_, rfl, rfl, rfl⟩
set_option maxHeartbeats 1000000 in
set_option maxRecDepth 100000 in
theorem s4_count_12 {t : zMod} {u : zCls} : Mi mX4_count 4 [.ref 0, .int (nI (12))] (hA t u) (fun r h' => r = nI (mg_re t (12 - 10)) ∧ h' = hA t u) := by
  refine Mi.of (by decide) rfl (Nat.le_of_ble_eq_true rfl) ?_
  refine r_iload_n eX4_count_0 rfl rfl ?_
  refine n_bipush 10 eX4_count_1 rfl ?_
  refine n_icmp_le eX4_count_3 (by first | omega | exact zlt (hs _) | exact hou _ | exact hop _) (by first | omega | exact zlt (hs _) | exact hou _ | exact hop _) (fun hc3 => absurd hc3 (by decide)) (fun hc3 => ?_)
  refine r_iload_n eX4_count_6 rfl rfl ?_
  refine n_bipush 17 eX4_count_7 rfl ?_
  refine n_icmp_ge eX4_count_9 (by first | omega | exact zlt (hs _) | exact hou _ | exact hop _) (by first | omega | exact zlt (hs _) | exact hou _ | exact hop _) (fun hc9 => absurd hc9 (by decide)) (fun hc9 => ?_)
  refine r_aload_n eX4_count_12 rfl rfl ?_
  refine r_getf (v := .ref 1) eX4_count_13 fX4_7 rfl rfl ?_
  refine r_iload_n eX4_count_16 rfl rfl ?_
  refine n_bipush 10 eX4_count_17 rfl ?_
  refine n_sub eX4_count_19 (by first | omega | exact zlt (hs _) | exact hou _ | exact hop _) ?_
  refine n_iald (f := mg_re t) (j := 12 - 10) eX4_count_20 rfl rfl (by first | omega | exact zlt (hs _) | exact hou _ | exact hop _) (by decide) ?_
  exact z_iret eX4_count_21 rfl rfl ⟨_, rfl, rfl, rfl⟩
set_option maxHeartbeats 1000000 in
set_option maxRecDepth 100000 in
theorem s4_count_13 {t : zMod} {u : zCls} : Mi mX4_count 4 [.ref 0, .int (nI (13))] (hA t u) (fun r h' => r = nI (mg_re t (13 - 10)) ∧ h' = hA t u) := by
  refine Mi.of (by decide) rfl (Nat.le_of_ble_eq_true rfl) ?_
  refine r_iload_n eX4_count_0 rfl rfl ?_
  refine n_bipush 10 eX4_count_1 rfl ?_
  refine n_icmp_le eX4_count_3 (by first | omega | exact zlt (hs _) | exact hou _ | exact hop _) (by first | omega | exact zlt (hs _) | exact hou _ | exact hop _) (fun hc3 => absurd hc3 (by decide)) (fun hc3 => ?_)
  refine r_iload_n eX4_count_6 rfl rfl ?_
  refine n_bipush 17 eX4_count_7 rfl ?_
  refine n_icmp_ge eX4_count_9 (by first | omega | exact zlt (hs _) | exact hou _ | exact hop _) (by first | omega | exact zlt (hs _) | exact hou _ | exact hop _) (fun hc9 => absurd hc9 (by decide)) (fun hc9 => ?_)
  refine r_aload_n eX4_count_12 rfl rfl ?_
  refine r_getf (v := .ref 1) eX4_count_13 fX4_7 rfl rfl ?_
  refine r_iload_n eX4_count_16 rfl rfl ?_
  refine n_bipush 10 eX4_count_17 rfl ?_
  refine n_sub eX4_count_19 (by first | omega | exact zlt (hs _) | exact hou _ | exact hop _) ?_
  refine n_iald (f := mg_re t) (j := 13 - 10) eX4_count_20 rfl rfl (by first | omega | exact zlt (hs _) | exact hou _ | exact hop _) (by decide) ?_
  exact z_iret eX4_count_21 rfl rfl ⟨_, rfl, rfl, rfl⟩
set_option maxHeartbeats 1000000 in
set_option maxRecDepth 100000 in
theorem s4_count_14 {t : zMod} {u : zCls} : Mi mX4_count 4 [.ref 0, .int (nI (14))] (hA t u) (fun r h' => r = nI (mg_re t (14 - 10)) ∧ h' = hA t u) := by
  refine Mi.of (by decide) rfl (Nat.le_of_ble_eq_true rfl) ?_
  refine r_iload_n eX4_count_0 rfl rfl ?_
  refine n_bipush 10 eX4_count_1 rfl ?_
  refine n_icmp_le eX4_count_3 (by first | omega | exact zlt (hs _) | exact hou _ | exact hop _) (by first | omega | exact zlt (hs _) | exact hou _ | exact hop _) (fun hc3 => absurd hc3 (by decide)) (fun hc3 => ?_)
  refine r_iload_n eX4_count_6 rfl rfl ?_
  refine n_bipush 17 eX4_count_7 rfl ?_
  refine n_icmp_ge eX4_count_9 (by first | omega | exact zlt (hs _) | exact hou _ | exact hop _) (by first | omega | exact zlt (hs _) | exact hou _ | exact hop _) (fun hc9 => absurd hc9 (by decide)) (fun hc9 => ?_)
  refine r_aload_n eX4_count_12 rfl rfl ?_
  refine r_getf (v := .ref 1) eX4_count_13 fX4_7 rfl rfl ?_
  refine r_iload_n eX4_count_16 rfl rfl ?_
  refine n_bipush 10 eX4_count_17 rfl ?_
  refine n_sub eX4_count_19 (by first | omega | exact zlt (hs _) | exact hou _ | exact hop _) ?_
  refine n_iald (f := mg_re t) (j := 14 - 10) eX4_count_20 rfl rfl (by first | omega | exact zlt (hs _) | exact hou _ | exact hop _) (by decide) ?_
  exact z_iret eX4_count_21 rfl rfl ⟨_, rfl, rfl, rfl⟩
set_option maxHeartbeats 1000000 in
set_option maxRecDepth 100000 in
theorem s4_count_15 {t : zMod} {u : zCls} : Mi mX4_count 4 [.ref 0, .int (nI (15))] (hA t u) (fun r h' => r = nI (mg_re t (15 - 10)) ∧ h' = hA t u) := by
  refine Mi.of (by decide) rfl (Nat.le_of_ble_eq_true rfl) ?_
  refine r_iload_n eX4_count_0 rfl rfl ?_
  refine n_bipush 10 eX4_count_1 rfl ?_
  refine n_icmp_le eX4_count_3 (by first | omega | exact zlt (hs _) | exact hou _ | exact hop _) (by first | omega | exact zlt (hs _) | exact hou _ | exact hop _) (fun hc3 => absurd hc3 (by decide)) (fun hc3 => ?_)
  refine r_iload_n eX4_count_6 rfl rfl ?_
  refine n_bipush 17 eX4_count_7 rfl ?_
  refine n_icmp_ge eX4_count_9 (by first | omega | exact zlt (hs _) | exact hou _ | exact hop _) (by first | omega | exact zlt (hs _) | exact hou _ | exact hop _) (fun hc9 => absurd hc9 (by decide)) (fun hc9 => ?_)
  refine r_aload_n eX4_count_12 rfl rfl ?_
  refine r_getf (v := .ref 1) eX4_count_13 fX4_7 rfl rfl ?_
  refine r_iload_n eX4_count_16 rfl rfl ?_
  refine n_bipush 10 eX4_count_17 rfl ?_
  refine n_sub eX4_count_19 (by first | omega | exact zlt (hs _) | exact hou _ | exact hop _) ?_
  refine n_iald (f := mg_re t) (j := 15 - 10) eX4_count_20 rfl rfl (by first | omega | exact zlt (hs _) | exact hou _ | exact hop _) (by decide) ?_
  exact z_iret eX4_count_21 rfl rfl ⟨_, rfl, rfl, rfl⟩
set_option maxHeartbeats 1000000 in
set_option maxRecDepth 100000 in
theorem s4_count_16 {t : zMod} {u : zCls} : Mi mX4_count 4 [.ref 0, .int (nI (16))] (hA t u) (fun r h' => r = nI (mg_re t (16 - 10)) ∧ h' = hA t u) := by
  refine Mi.of (by decide) rfl (Nat.le_of_ble_eq_true rfl) ?_
  refine r_iload_n eX4_count_0 rfl rfl ?_
  refine n_bipush 10 eX4_count_1 rfl ?_
  refine n_icmp_le eX4_count_3 (by first | omega | exact zlt (hs _) | exact hou _ | exact hop _) (by first | omega | exact zlt (hs _) | exact hou _ | exact hop _) (fun hc3 => absurd hc3 (by decide)) (fun hc3 => ?_)
  refine r_iload_n eX4_count_6 rfl rfl ?_
  refine n_bipush 17 eX4_count_7 rfl ?_
  refine n_icmp_ge eX4_count_9 (by first | omega | exact zlt (hs _) | exact hou _ | exact hop _) (by first | omega | exact zlt (hs _) | exact hou _ | exact hop _) (fun hc9 => absurd hc9 (by decide)) (fun hc9 => ?_)
  refine r_aload_n eX4_count_12 rfl rfl ?_
  refine r_getf (v := .ref 1) eX4_count_13 fX4_7 rfl rfl ?_
  refine r_iload_n eX4_count_16 rfl rfl ?_
  refine n_bipush 10 eX4_count_17 rfl ?_
  refine n_sub eX4_count_19 (by first | omega | exact zlt (hs _) | exact hou _ | exact hop _) ?_
  refine n_iald (f := mg_re t) (j := 16 - 10) eX4_count_20 rfl rfl (by first | omega | exact zlt (hs _) | exact hou _ | exact hop _) (by decide) ?_
  exact z_iret eX4_count_21 rfl rfl ⟨_, rfl, rfl, rfl⟩
set_option maxHeartbeats 1000000 in
set_option maxRecDepth 100000 in
theorem s4_count_o {t : zMod} {u : zCls} {x : Int32} (h1 : x ≤ nI 10 ∨ nI 17 ≤ x) (h2 : x.toInt < 0 ∨ 6 < x.toInt) : Mi mX4_count 4 [.ref 0, .int (x)] (hA t u) (fun r h' => r = (-9) ∧ h' = hA t u) := by
  refine Mi.of (by decide) rfl (Nat.le_of_ble_eq_true rfl) ?_
  refine r_iload_n eX4_count_0 rfl rfl ?_
  refine n_bipush 10 eX4_count_1 rfl ?_
  refine r_icmp_le eX4_count_3 (fun hc3 => ?_) (fun hc3 => ?_)
  · refine r_iload_n eX4_count_22 rfl rfl ?_
    refine r_tabOut (tgt := 81) eX4_count_23 h2 (by decide) ?_
    refine r_bipush (v := (-9)) eX4_count_81 rfl ?_
    exact z_iret eX4_count_83 rfl rfl ⟨_, rfl, rfl, rfl⟩
  · refine r_iload_n eX4_count_6 rfl rfl ?_
    refine n_bipush 17 eX4_count_7 rfl ?_
    refine r_icmp_ge eX4_count_9 (fun hc9 => ?_) (fun hc9 => absurd hc9 (fun z => z (h1.resolve_left hc3)))
    refine r_iload_n eX4_count_22 rfl rfl ?_
    refine r_tabOut (tgt := 81) eX4_count_23 h2 (by decide) ?_
    refine r_bipush (v := (-9)) eX4_count_81 rfl ?_
    exact z_iret eX4_count_83 rfl rfl ⟨_, rfl, rfl, rfl⟩
