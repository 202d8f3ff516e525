/-! THE TEXT CONSTANT: its length and its letters -/
set_option maxHeartbeats 1000000 in
set_option maxRecDepth 100000 in
theorem sj_coder {h : List zC} : Mi mJ0_coder_7d493 1 [.ref 1000] h (fun r h' => r = nI 0 ∧ h' = h) := by
  refine Mi.of (by decide) rfl (Nat.le_of_ble_eq_true rfl) ?_
  refine r_comp eJ0_coder_7d493_0 fJ0_38 ?_
  refine r_if_eq eJ0_coder_7d493_3 (fun hc3 => absurd hc3 (by decide)) (fun hc3 => ?_)
  refine r_aload_n eJ0_coder_7d493_6 rfl rfl ?_
  refine r_strC eJ0_coder_7d493_7 fJ0_15 ?_
  refine r_goto eJ0_coder_7d493_10 ?_
  refine z_top (y := nI 0) (by decide +kernel) ?_
  exact z_iret eJ0_coder_7d493_14 rfl (by decide) ⟨_, rfl, rfl, rfl⟩
set_option maxHeartbeats 1000000 in
set_option maxRecDepth 100000 in
theorem sj_length {h : List zC} : Mi mJ0_length_8abf5 2 [.ref 1000] h (fun r h' => r = nI 6 ∧ h' = h) := by
  refine Mi.of (by decide) rfl (Nat.le_of_ble_eq_true rfl) ?_
  refine r_aload_n eJ0_length_8abf5_0 rfl rfl ?_
  refine r_strV eJ0_length_8abf5_1 fJ0_9 ?_
  refine r_blen eJ0_length_8abf5_4 ?_
  refine r_aload_n eJ0_length_8abf5_5 rfl rfl ?_
  refine r_callVi0 eJ0_length_8abf5_6 lJ0_335 (Or.inr ⟨rfl, rfl⟩) (sj_coder) (by omega) (Nat.le_of_ble_eq_true rfl) (fun r1 h1 hq => ?_)
  obtain ⟨rfl, rfl⟩ := hq
  refine r_ishr eJ0_length_8abf5_9 ?_
  refine z_top (y := nI 6) (by decide +kernel) ?_
  exact z_iret eJ0_length_8abf5_10 rfl rfl ⟨_, rfl, rfl, rfl⟩
set_option maxHeartbeats 1000000 in
set_option maxRecDepth 100000 in
theorem sj_latin {h : List zC} : Mi mJ0_isLatin1_aae02 1 [.ref 1000] h (fun r h' => r = nI 1 ∧ h' = h) := by
  refine Mi.of (by decide) rfl (Nat.le_of_ble_eq_true rfl) ?_
  refine r_comp eJ0_isLatin1_aae02_0 fJ0_38 ?_
  refine r_if_eq eJ0_isLatin1_aae02_3 (fun hc3 => absurd hc3 (by decide)) (fun hc3 => ?_)
  refine r_aload_n eJ0_isLatin1_aae02_6 rfl rfl ?_
  refine r_strC eJ0_isLatin1_aae02_7 fJ0_15 ?_
  refine n_if_ne eJ0_isLatin1_aae02_10 (by decide) (fun hc10 => absurd hc10 (by decide)) (fun hc10 => ?_)
  refine n_iconst 1 eJ0_isLatin1_aae02_13 rfl ?_
  refine r_goto eJ0_isLatin1_aae02_14 ?_
  refine z_top (y := nI 1) (by decide +kernel) ?_
  exact z_iret eJ0_isLatin1_aae02_18 rfl (by decide) ⟨_, rfl, rfl, rfl⟩
set_option maxHeartbeats 1000000 in
set_option maxRecDepth 100000 in
theorem sj_pre {h : List zC} {k : Nat} {v : Value} (hv : zg v = true) (hk : k < 6) : Mi mJ3_checkIndex_8e157 1 [.int (nI (k)), .int (nI (6)), v] h (fun r h' => r = nI k ∧ h' = h) := by
  refine Mi.of (by decide) (by show (true && (true && (zg v && true))) = true; rw [hv]; rfl) (Nat.le_of_ble_eq_true rfl) ?_
  refine r_iload_n eJ3_checkIndex_8e157_0 rfl rfl ?_
  refine n_if_lt eJ3_checkIndex_8e157_1 (by omega) ?_
  refine r_iload_n eJ3_checkIndex_8e157_4 rfl rfl ?_
  refine r_iload_n eJ3_checkIndex_8e157_5 rfl rfl ?_
  refine n_icmp_lt eJ3_checkIndex_8e157_6 (by omega) (by omega) (fun hc6 => ?_) (fun hc6 => absurd hc6 (by omega))
  refine r_iload_n eJ3_checkIndex_8e157_16 rfl rfl ?_
  exact z_iret eJ3_checkIndex_8e157_17 rfl rfl ⟨_, rfl, rfl, rfl⟩
set_option maxHeartbeats 1000000 in
set_option maxRecDepth 100000 in
theorem sj_check {h : List zC} {k : Nat} (hk : k < 6) : Mv mJ0_checkIndex_df160 2 [.int (nI (k)), .int (nI (6))] h (fun h' => h' = h) := by
  refine Mv.of (by decide) rfl rfl (Nat.le_of_ble_eq_true rfl) ?_
  refine r_iload_n eJ0_checkIndex_df160_0 rfl rfl ?_
  refine r_iload_n eJ0_checkIndex_df160_1 rfl rfl ?_
  refine r_sioobe eJ0_checkIndex_df160_2 fJ0_1053 (fun v9 hv9 => ?_)
  refine r_callSi3 eJ0_checkIndex_df160_5 lJ0_1059 (sj_pre (k := k) hv9 hk) (by omega) (Nat.le_of_ble_eq_true rfl) (fun r1 h1 hq => ?_)
  obtain ⟨rfl, rfl⟩ := hq
  refine r_pop eJ0_checkIndex_df160_8 rfl ?_
  exact z_vret eJ0_checkIndex_df160_9 ⟨rfl, rfl⟩
set_option maxHeartbeats 1000000 in
set_option maxRecDepth 100000 in
theorem sj_char1_0 {h : List zC} : Mi mJ1_charAt_3b067 3 [.ref 1001, .int (nI (0))] h (fun r h' => r = nI 112 ∧ h' = h) := by
  refine Mi.of (by decide) rfl (Nat.le_of_ble_eq_true rfl) ?_
  refine r_iload_n eJ1_charAt_3b067_0 rfl rfl ?_
  refine r_aload_n eJ1_charAt_3b067_1 rfl rfl ?_
  refine r_blen eJ1_charAt_3b067_2 ?_
  refine r_callSv2 eJ1_charAt_3b067_3 lJ1_9 (sj_check (k := 0) (by decide)) (by omega) (Nat.le_of_ble_eq_true rfl) (fun h1 hq => ?_)
  subst hq
  refine r_aload_n eJ1_charAt_3b067_6 rfl rfl ?_
  refine r_iload_n eJ1_charAt_3b067_7 rfl rfl ?_
  refine r_bald (j := 0) eJ1_charAt_3b067_8 rfl (by decide) ?_
  refine n_sipush 255 eJ1_charAt_3b067_9 rfl ?_
  refine r_iand eJ1_charAt_3b067_12 ?_
  refine r_i2c eJ1_charAt_3b067_13 ?_
  refine z_top (y := nI 112) (by decide +kernel) ?_
  exact z_iret eJ1_charAt_3b067_14 rfl (by decide) ⟨_, rfl, rfl, rfl⟩
set_option maxHeartbeats 1000000 in
set_option maxRecDepth 100000 in
theorem sj_char_0 {h : List zC} : Mi mJ0_charAt_5068e 4 [.ref 1000, .int (nI (0))] h (fun r h' => r = nI 112 ∧ h' = h) := by
  refine Mi.of (by decide) rfl (Nat.le_of_ble_eq_true rfl) ?_
  refine r_aload_n eJ0_charAt_5068e_0 rfl rfl ?_
  refine r_callVi0 eJ0_charAt_5068e_1 lJ0_492 (Or.inr ⟨rfl, rfl⟩) (sj_latin) (by omega) (Nat.le_of_ble_eq_true rfl) (fun r1 h1 hq => ?_)
  obtain ⟨rfl, rfl⟩ := hq
  refine n_if_eq eJ0_charAt_5068e_4 (by decide) (fun hc4 => absurd hc4 (by decide)) (fun hc4 => ?_)
  refine r_aload_n eJ0_charAt_5068e_7 rfl rfl ?_
  refine r_strV eJ0_charAt_5068e_8 fJ0_9 ?_
  refine r_iload_n eJ0_charAt_5068e_11 rfl rfl ?_
  refine r_callSi2 eJ0_charAt_5068e_12 lJ0_495 (sj_char1_0) (by omega) (Nat.le_of_ble_eq_true rfl) (fun r1 h1 hq => ?_)
  obtain ⟨rfl, rfl⟩ := hq
  exact z_iret eJ0_charAt_5068e_15 rfl (by decide) ⟨_, rfl, rfl, rfl⟩
set_option maxHeartbeats 1000000 in
set_option maxRecDepth 100000 in
theorem sj_char1_1 {h : List zC} : Mi mJ1_charAt_3b067 3 [.ref 1001, .int (nI (1))] h (fun r h' => r = nI 113 ∧ h' = h) := by
  refine Mi.of (by decide) rfl (Nat.le_of_ble_eq_true rfl) ?_
  refine r_iload_n eJ1_charAt_3b067_0 rfl rfl ?_
  refine r_aload_n eJ1_charAt_3b067_1 rfl rfl ?_
  refine r_blen eJ1_charAt_3b067_2 ?_
  refine r_callSv2 eJ1_charAt_3b067_3 lJ1_9 (sj_check (k := 1) (by decide)) (by omega) (Nat.le_of_ble_eq_true rfl) (fun h1 hq => ?_)
  subst hq
  refine r_aload_n eJ1_charAt_3b067_6 rfl rfl ?_
  refine r_iload_n eJ1_charAt_3b067_7 rfl rfl ?_
  refine r_bald (j := 1) eJ1_charAt_3b067_8 rfl (by decide) ?_
  refine n_sipush 255 eJ1_charAt_3b067_9 rfl ?_
  refine r_iand eJ1_charAt_3b067_12 ?_
  refine r_i2c eJ1_charAt_3b067_13 ?_
  refine z_top (y := nI 113) (by decide +kernel) ?_
  exact z_iret eJ1_charAt_3b067_14 rfl (by decide) ⟨_, rfl, rfl, rfl⟩
set_option maxHeartbeats 1000000 in
set_option maxRecDepth 100000 in
theorem sj_char_1 {h : List zC} : Mi mJ0_charAt_5068e 4 [.ref 1000, .int (nI (1))] h (fun r h' => r = nI 113 ∧ h' = h) := by
  refine Mi.of (by decide) rfl (Nat.le_of_ble_eq_true rfl) ?_
  refine r_aload_n eJ0_charAt_5068e_0 rfl rfl ?_
  refine r_callVi0 eJ0_charAt_5068e_1 lJ0_492 (Or.inr ⟨rfl, rfl⟩) (sj_latin) (by omega) (Nat.le_of_ble_eq_true rfl) (fun r1 h1 hq => ?_)
  obtain ⟨rfl, rfl⟩ := hq
  refine n_if_eq eJ0_charAt_5068e_4 (by decide) (fun hc4 => absurd hc4 (by decide)) (fun hc4 => ?_)
  refine r_aload_n eJ0_charAt_5068e_7 rfl rfl ?_
  refine r_strV eJ0_charAt_5068e_8 fJ0_9 ?_
  refine r_iload_n eJ0_charAt_5068e_11 rfl rfl ?_
  refine r_callSi2 eJ0_charAt_5068e_12 lJ0_495 (sj_char1_1) (by omega) (Nat.le_of_ble_eq_true rfl) (fun r1 h1 hq => ?_)
  obtain ⟨rfl, rfl⟩ := hq
  exact z_iret eJ0_charAt_5068e_15 rfl (by decide) ⟨_, rfl, rfl, rfl⟩
set_option maxHeartbeats 1000000 in
set_option maxRecDepth 100000 in
theorem sj_char1_2 {h : List zC} : Mi mJ1_charAt_3b067 3 [.ref 1001, .int (nI (2))] h (fun r h' => r = nI 115 ∧ h' = h) := by
  refine Mi.of (by decide) rfl (Nat.le_of_ble_eq_true rfl) ?_
  refine r_iload_n eJ1_charAt_3b067_0 rfl rfl ?_
  refine r_aload_n eJ1_charAt_3b067_1 rfl rfl ?_
  refine r_blen eJ1_charAt_3b067_2 ?_
  refine r_callSv2 eJ1_charAt_3b067_3 lJ1_9 (sj_check (k := 2) (by decide)) (by omega) (Nat.le_of_ble_eq_true rfl) (fun h1 hq => ?_)
  subst hq
  refine r_aload_n eJ1_charAt_3b067_6 rfl rfl ?_
  refine r_iload_n eJ1_charAt_3b067_7 rfl rfl ?_
  refine r_bald (j := 2) eJ1_charAt_3b067_8 rfl (by decide) ?_
  refine n_sipush 255 eJ1_charAt_3b067_9 rfl ?_
  refine r_iand eJ1_charAt_3b067_12 ?_
  refine r_i2c eJ1_charAt_3b067_13 ?_
  refine z_top (y := nI 115) (by decide +kernel) ?_
  exact z_iret eJ1_charAt_3b067_14 rfl (by decide) ⟨_, rfl, rfl, rfl⟩
set_option maxHeartbeats 1000000 in
set_option maxRecDepth 100000 in
theorem sj_char_2 {h : List zC} : Mi mJ0_charAt_5068e 4 [.ref 1000, .int (nI (2))] h (fun r h' => r = nI 115 ∧ h' = h) := by
  refine Mi.of (by decide) rfl (Nat.le_of_ble_eq_true rfl) ?_
  refine r_aload_n eJ0_charAt_5068e_0 rfl rfl ?_
  refine r_callVi0 eJ0_charAt_5068e_1 lJ0_492 (Or.inr ⟨rfl, rfl⟩) (sj_latin) (by omega) (Nat.le_of_ble_eq_true rfl) (fun r1 h1 hq => ?_)
  obtain ⟨rfl, rfl⟩ := hq
  refine n_if_eq eJ0_charAt_5068e_4 (by decide) (fun hc4 => absurd hc4 (by decide)) (fun hc4 => ?_)
  refine r_aload_n eJ0_charAt_5068e_7 rfl rfl ?_
  refine r_strV eJ0_charAt_5068e_8 fJ0_9 ?_
  refine r_iload_n eJ0_charAt_5068e_11 rfl rfl ?_
  refine r_callSi2 eJ0_charAt_5068e_12 lJ0_495 (sj_char1_2) (by omega) (Nat.le_of_ble_eq_true rfl) (fun r1 h1 hq => ?_)
  obtain ⟨rfl, rfl⟩ := hq
  exact z_iret eJ0_charAt_5068e_15 rfl (by decide) ⟨_, rfl, rfl, rfl⟩
set_option maxHeartbeats 1000000 in
set_option maxRecDepth 100000 in
theorem sj_char1_3 {h : List zC} : Mi mJ1_charAt_3b067 3 [.ref 1001, .int (nI (3))] h (fun r h' => r = nI 116 ∧ h' = h) := by
  refine Mi.of (by decide) rfl (Nat.le_of_ble_eq_true rfl) ?_
  refine r_iload_n eJ1_charAt_3b067_0 rfl rfl ?_
  refine r_aload_n eJ1_charAt_3b067_1 rfl rfl ?_
  refine r_blen eJ1_charAt_3b067_2 ?_
  refine r_callSv2 eJ1_charAt_3b067_3 lJ1_9 (sj_check (k := 3) (by decide)) (by omega) (Nat.le_of_ble_eq_true rfl) (fun h1 hq => ?_)
  subst hq
  refine r_aload_n eJ1_charAt_3b067_6 rfl rfl ?_
  refine r_iload_n eJ1_charAt_3b067_7 rfl rfl ?_
  refine r_bald (j := 3) eJ1_charAt_3b067_8 rfl (by decide) ?_
  refine n_sipush 255 eJ1_charAt_3b067_9 rfl ?_
  refine r_iand eJ1_charAt_3b067_12 ?_
  refine r_i2c eJ1_charAt_3b067_13 ?_
  refine z_top (y := nI 116) (by decide +kernel) ?_
  exact z_iret eJ1_charAt_3b067_14 rfl (by decide) ⟨_, rfl, rfl, rfl⟩
set_option maxHeartbeats 1000000 in
set_option maxRecDepth 100000 in
theorem sj_char_3 {h : List zC} : Mi mJ0_charAt_5068e 4 [.ref 1000, .int (nI (3))] h (fun r h' => r = nI 116 ∧ h' = h) := by
  refine Mi.of (by decide) rfl (Nat.le_of_ble_eq_true rfl) ?_
  refine r_aload_n eJ0_charAt_5068e_0 rfl rfl ?_
  refine r_callVi0 eJ0_charAt_5068e_1 lJ0_492 (Or.inr ⟨rfl, rfl⟩) (sj_latin) (by omega) (Nat.le_of_ble_eq_true rfl) (fun r1 h1 hq => ?_)
  obtain ⟨rfl, rfl⟩ := hq
  refine n_if_eq eJ0_charAt_5068e_4 (by decide) (fun hc4 => absurd hc4 (by decide)) (fun hc4 => ?_)
  refine r_aload_n eJ0_charAt_5068e_7 rfl rfl ?_
  refine r_strV eJ0_charAt_5068e_8 fJ0_9 ?_
  refine r_iload_n eJ0_charAt_5068e_11 rfl rfl ?_
  refine r_callSi2 eJ0_charAt_5068e_12 lJ0_495 (sj_char1_3) (by omega) (Nat.le_of_ble_eq_true rfl) (fun r1 h1 hq => ?_)
  obtain ⟨rfl, rfl⟩ := hq
  exact z_iret eJ0_charAt_5068e_15 rfl (by decide) ⟨_, rfl, rfl, rfl⟩
set_option maxHeartbeats 1000000 in
set_option maxRecDepth 100000 in
theorem sj_char1_4 {h : List zC} : Mi mJ1_charAt_3b067 3 [.ref 1001, .int (nI (4))] h (fun r h' => r = nI 98 ∧ h' = h) := by
  refine Mi.of (by decide) rfl (Nat.le_of_ble_eq_true rfl) ?_
  refine r_iload_n eJ1_charAt_3b067_0 rfl rfl ?_
  refine r_aload_n eJ1_charAt_3b067_1 rfl rfl ?_
  refine r_blen eJ1_charAt_3b067_2 ?_
  refine r_callSv2 eJ1_charAt_3b067_3 lJ1_9 (sj_check (k := 4) (by decide)) (by omega) (Nat.le_of_ble_eq_true rfl) (fun h1 hq => ?_)
  subst hq
  refine r_aload_n eJ1_charAt_3b067_6 rfl rfl ?_
  refine r_iload_n eJ1_charAt_3b067_7 rfl rfl ?_
  refine r_bald (j := 4) eJ1_charAt_3b067_8 rfl (by decide) ?_
  refine n_sipush 255 eJ1_charAt_3b067_9 rfl ?_
  refine r_iand eJ1_charAt_3b067_12 ?_
  refine r_i2c eJ1_charAt_3b067_13 ?_
  refine z_top (y := nI 98) (by decide +kernel) ?_
  exact z_iret eJ1_charAt_3b067_14 rfl (by decide) ⟨_, rfl, rfl, rfl⟩
set_option maxHeartbeats 1000000 in
set_option maxRecDepth 100000 in
theorem sj_char_4 {h : List zC} : Mi mJ0_charAt_5068e 4 [.ref 1000, .int (nI (4))] h (fun r h' => r = nI 98 ∧ h' = h) := by
  refine Mi.of (by decide) rfl (Nat.le_of_ble_eq_true rfl) ?_
  refine r_aload_n eJ0_charAt_5068e_0 rfl rfl ?_
  refine r_callVi0 eJ0_charAt_5068e_1 lJ0_492 (Or.inr ⟨rfl, rfl⟩) (sj_latin) (by omega) (Nat.le_of_ble_eq_true rfl) (fun r1 h1 hq => ?_)
  obtain ⟨rfl, rfl⟩ := hq
  refine n_if_eq eJ0_charAt_5068e_4 (by decide) (fun hc4 => absurd hc4 (by decide)) (fun hc4 => ?_)
  refine r_aload_n eJ0_charAt_5068e_7 rfl rfl ?_
  refine r_strV eJ0_charAt_5068e_8 fJ0_9 ?_
  refine r_iload_n eJ0_charAt_5068e_11 rfl rfl ?_
  refine r_callSi2 eJ0_charAt_5068e_12 lJ0_495 (sj_char1_4) (by omega) (Nat.le_of_ble_eq_true rfl) (fun r1 h1 hq => ?_)
  obtain ⟨rfl, rfl⟩ := hq
  exact z_iret eJ0_charAt_5068e_15 rfl (by decide) ⟨_, rfl, rfl, rfl⟩
set_option maxHeartbeats 1000000 in
set_option maxRecDepth 100000 in
theorem sj_char1_5 {h : List zC} : Mi mJ1_charAt_3b067 3 [.ref 1001, .int (nI (5))] h (fun r h' => r = nI 104 ∧ h' = h) := by
  refine Mi.of (by decide) rfl (Nat.le_of_ble_eq_true rfl) ?_
  refine r_iload_n eJ1_charAt_3b067_0 rfl rfl ?_
  refine r_aload_n eJ1_charAt_3b067_1 rfl rfl ?_
  refine r_blen eJ1_charAt_3b067_2 ?_
  refine r_callSv2 eJ1_charAt_3b067_3 lJ1_9 (sj_check (k := 5) (by decide)) (by omega) (Nat.le_of_ble_eq_true rfl) (fun h1 hq => ?_)
  subst hq
  refine r_aload_n eJ1_charAt_3b067_6 rfl rfl ?_
  refine r_iload_n eJ1_charAt_3b067_7 rfl rfl ?_
  refine r_bald (j := 5) eJ1_charAt_3b067_8 rfl (by decide) ?_
  refine n_sipush 255 eJ1_charAt_3b067_9 rfl ?_
  refine r_iand eJ1_charAt_3b067_12 ?_
  refine r_i2c eJ1_charAt_3b067_13 ?_
  refine z_top (y := nI 104) (by decide +kernel) ?_
  exact z_iret eJ1_charAt_3b067_14 rfl (by decide) ⟨_, rfl, rfl, rfl⟩
set_option maxHeartbeats 1000000 in
set_option maxRecDepth 100000 in
theorem sj_char_5 {h : List zC} : Mi mJ0_charAt_5068e 4 [.ref 1000, .int (nI (5))] h (fun r h' => r = nI 104 ∧ h' = h) := by
  refine Mi.of (by decide) rfl (Nat.le_of_ble_eq_true rfl) ?_
  refine r_aload_n eJ0_charAt_5068e_0 rfl rfl ?_
  refine r_callVi0 eJ0_charAt_5068e_1 lJ0_492 (Or.inr ⟨rfl, rfl⟩) (sj_latin) (by omega) (Nat.le_of_ble_eq_true rfl) (fun r1 h1 hq => ?_)
  obtain ⟨rfl, rfl⟩ := hq
  refine n_if_eq eJ0_charAt_5068e_4 (by decide) (fun hc4 => absurd hc4 (by decide)) (fun hc4 => ?_)
  refine r_aload_n eJ0_charAt_5068e_7 rfl rfl ?_
  refine r_strV eJ0_charAt_5068e_8 fJ0_9 ?_
  refine r_iload_n eJ0_charAt_5068e_11 rfl rfl ?_
  refine r_callSi2 eJ0_charAt_5068e_12 lJ0_495 (sj_char1_5) (by omega) (Nat.le_of_ble_eq_true rfl) (fun r1 h1 hq => ?_)
  obtain ⟨rfl, rfl⟩ := hq
  exact z_iret eJ0_charAt_5068e_15 rfl (by decide) ⟨_, rfl, rfl, rfl⟩
