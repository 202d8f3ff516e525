/-! THE REFERENCE: lots; keys changed about -/
theorem n_dec {Y : zM} {d : Nat} {sc : Option (Nat × (Nat → Int32))} {pc pc' : Nat} {ls st : List Value} {h : List zC} {Q : Option Int32 → List zC → Prop} {i a : Nat} (hd : zd Y pc (.iinc i (-1)) 3 pc') (hl : zn ls i = some (.int (nI (a + 1)))) (hn : i < Y.2.2.1) (kk : Rq Y d sc pc' (zs ls i (.int (nI a))) st h Q) : Rq Y d sc pc ls st h Q := r_iinc hd hl hn (by rw [show nI (a + 1) + Int32.ofInt (-1) = nI a from pk_m1 a]; exact kk)
set_option maxHeartbeats 1000000 in
set_option maxRecDepth 100000 in
theorem s4_common_s {h : List zC} {d a b : Nat} (ha : a < 2 ^ 31) (hb : b < 2 ^ 31) (ih : 0 < b → Mi mX4_common d [.int (nI b), .int (nI (a % b))] h (fun r h' => r = nI (Nat.gcd b (a % b)) ∧ h' = h)) : Mi mX4_common (d + 1) [.int (nI (a)), .int (nI (b))] h (fun r h' => r = nI (Nat.gcd a b) ∧ h' = h) := by
  refine Mi.of (by decide) rfl (Nat.le_of_ble_eq_true rfl) ?_
  refine r_iload_n eX4_common_0 rfl rfl ?_
  refine n_if_ne eX4_common_1 (by first | omega | exact zlt (hs _) | exact hou _ | exact hop _) (fun hc1 => ?_) (fun hc1 => ?_)
  · refine r_iload_n eX4_common_8 rfl rfl ?_
    refine r_iload_n eX4_common_9 rfl rfl ?_
    refine r_iload_n eX4_common_10 rfl rfl ?_
    refine n_rem eX4_common_11 (by first | omega | exact zlt (hs _) | exact hou _ | exact hop _) (by first | omega | exact zlt (hs _) | exact hou _ | exact hop _) (by first | omega | exact zlt (hs _) | exact hou _ | exact hop _) ?_
    refine r_callSi2 eX4_common_12 lX4_192 (ih hc1) (by omega) (Nat.le_of_ble_eq_true rfl) (fun r1 h1 hq => ?_)
    obtain ⟨rfl, rfl⟩ := hq
    refine z_iret eX4_common_15 rfl rfl ⟨_, rfl, congrArg nI ?_, rfl⟩
    rw [Nat.gcd_comm a b, Nat.gcd_rec b a, Nat.gcd_comm]
  · refine r_iload_n eX4_common_4 rfl rfl ?_
    refine r_goto eX4_common_5 ?_
    refine z_iret eX4_common_15 rfl rfl ⟨_, rfl, congrArg nI ?_, rfl⟩
    rw [hc1, Nat.gcd_zero_right]
theorem zmod_half {a b : Nat} (h0 : 0 < a) (h : a < b) : 2 * (b % a) < b := by
  have h1 := Nat.div_add_mod b a
  have h2 : 1 ≤ b / a := (Nat.one_le_div_iff h0).mpr (by omega)
  have h3 : a * 1 ≤ a * (b / a) := Nat.mul_le_mul_left a h2
  have h4 := Nat.mod_lt b h0
  omega
theorem s4_common {h : List zC} : ∀ (j a b : Nat), b < 2 ^ j → a < 2 ^ 31 → b < 2 ^ 31 → Mi mX4_common (2 * j + 1) [.int (nI a), .int (nI b)] h (fun r h' => r = nI (Nat.gcd a b) ∧ h' = h)
  | 0, a, b, hb, ha, hb2 => s4_common_s (d := 0) ha hb2 (fun q => absurd hb (by rw [Nat.pow_zero]; omega))
  | j + 1, a, b, hb, ha, hb2 => by
    refine s4_common_s (d := 2 * j + 1 + 1) ha hb2 (fun q => ?_)
    have hr := Nat.mod_lt a q
    refine s4_common_s (d := 2 * j + 1) hb2 (by omega) (fun q2 => ?_)
    have hh := zmod_half q2 hr
    have hp : 2 ^ (j + 1) = 2 * 2 ^ j := by rw [Nat.pow_succ]; omega
    exact s4_common j _ _ (by omega) (by omega) (by omega)
set_option maxHeartbeats 1000000 in
set_option maxRecDepth 100000 in
theorem s4_lot_b {t : zMod} {u : zCls} {n x y : Int32} (hn : n < nI 1) : Mi mX4_lot 60 [.ref 0, .int (n), .int (x), .int (y)] (hA t u) (fun r h' => r = (-4) ∧ h' = hA ((va_up (mg_re t) 4 (mg_re t 4 + 1)), mg_s t, mg_im t, mg_rd t, mg_ii t, mg_tp t, mg_tl t, mg_ta t, mg_at t, mg_ou t, mg_op t, mg_br t, mg_nw t, mg_fs t, mg_bc t, mg_kr t, mg_rw t, mg_rc t) u) := by
  refine Mi.of (by decide) rfl (Nat.le_of_ble_eq_true rfl) ?_
  refine r_iload_n eX4_lot_0 rfl rfl ?_
  refine n_iconst 1 eX4_lot_1 rfl ?_
  refine n_bipush 9 eX4_lot_2 rfl ?_
  refine r_callSi3 eX4_lot_4 lX4_44 (s4_within_b hn) (by omega) (Nat.le_of_ble_eq_true rfl) (fun r1 h1 hq => ?_)
  obtain ⟨rfl, rfl⟩ := hq
  refine r_istore eX4_lot_7 (by decide) ?_
  refine r_iload eX4_lot_9 rfl ?_
  refine r_if_ne eX4_lot_11 (fun hc11 => ?_) (fun hc11 => absurd hc11 (by decide))
  refine r_iload eX4_lot_34 rfl ?_
  refine r_if_eq eX4_lot_36 (fun hc36 => absurd hc36 (by decide)) (fun hc36 => ?_)
  refine r_aload_n eX4_lot_39 rfl rfl ?_
  refine r_iload eX4_lot_40 rfl ?_
  refine r_callVi1 eX4_lot_42 lX4_52 (Or.inl ⟨_, _, _, rfl, rfl, rfl⟩) (s4_refuse (t := t) (u := u) (x := (-4)) (c := 4) (by decide) (by decide)) (by omega) (Nat.le_of_ble_eq_true rfl) (fun r1 h1 hq => ?_)
  obtain ⟨rfl, rfl⟩ := (show r1 = (-4) ∧ h1 = hA ((va_up (mg_re t) 4 ((mg_re t) 4 + 1)), mg_s t, mg_im t, mg_rd t, mg_ii t, mg_tp t, mg_tl t, mg_ta t, mg_at t, mg_ou t, mg_op t, mg_br t, mg_nw t, mg_fs t, mg_bc t, mg_kr t, mg_rw t, mg_rc t) u from hq)
  exact z_iret eX4_lot_45 rfl rfl ⟨_, rfl, rfl, rfl⟩
set_option maxHeartbeats 1000000 in
set_option maxRecDepth 100000 in
theorem s4_lot_r {t : zMod} {u : zCls} {n x y : Int32} (hn0 : nI 1 ≤ n) (hn : nI 9 < n) : Mi mX4_lot 60 [.ref 0, .int (n), .int (x), .int (y)] (hA t u) (fun r h' => r = (-6) ∧ h' = hA ((va_up (mg_re t) 6 (mg_re t 6 + 1)), mg_s t, mg_im t, mg_rd t, mg_ii t, mg_tp t, mg_tl t, mg_ta t, mg_at t, mg_ou t, mg_op t, mg_br t, mg_nw t, mg_fs t, mg_bc t, mg_kr t, mg_rw t, mg_rc t) u) := by
  refine Mi.of (by decide) rfl (Nat.le_of_ble_eq_true rfl) ?_
  refine r_iload_n eX4_lot_0 rfl rfl ?_
  refine n_iconst 1 eX4_lot_1 rfl ?_
  refine n_bipush 9 eX4_lot_2 rfl ?_
  refine r_callSi3 eX4_lot_4 lX4_44 (s4_within_r hn0 hn) (by omega) (Nat.le_of_ble_eq_true rfl) (fun r1 h1 hq => ?_)
  obtain ⟨rfl, rfl⟩ := hq
  refine r_istore eX4_lot_7 (by decide) ?_
  refine r_iload eX4_lot_9 rfl ?_
  refine r_if_ne eX4_lot_11 (fun hc11 => ?_) (fun hc11 => absurd hc11 (by decide))
  refine r_iload eX4_lot_34 rfl ?_
  refine r_if_eq eX4_lot_36 (fun hc36 => absurd hc36 (by decide)) (fun hc36 => ?_)
  refine r_aload_n eX4_lot_39 rfl rfl ?_
  refine r_iload eX4_lot_40 rfl ?_
  refine r_callVi1 eX4_lot_42 lX4_52 (Or.inl ⟨_, _, _, rfl, rfl, rfl⟩) (s4_refuse (t := t) (u := u) (x := (-6)) (c := 6) (by decide) (by decide)) (by omega) (Nat.le_of_ble_eq_true rfl) (fun r1 h1 hq => ?_)
  obtain ⟨rfl, rfl⟩ := (show r1 = (-6) ∧ h1 = hA ((va_up (mg_re t) 6 ((mg_re t) 6 + 1)), mg_s t, mg_im t, mg_rd t, mg_ii t, mg_tp t, mg_tl t, mg_ta t, mg_at t, mg_ou t, mg_op t, mg_br t, mg_nw t, mg_fs t, mg_bc t, mg_kr t, mg_rw t, mg_rc t) u from hq)
  exact z_iret eX4_lot_45 rfl rfl ⟨_, rfl, rfl, rfl⟩
set_option maxHeartbeats 1000000 in
set_option maxRecDepth 100000 in
theorem s4_lot_o1 {t : zMod} {u : zCls} {n : Nat} (hn1 : 1 ≤ n) (hn : n ≤ 9) {x y : Int32} (hx : x < 0 ∨ nI 2 ≤ x) : Mi mX4_lot 60 [.ref 0, .int (nI (n)), .int (x), .int (y)] (hA t u) (fun r h' => r = (-2) ∧ h' = hA ((va_up (mg_re t) 2 (mg_re t 2 + 1)), mg_s t, mg_im t, mg_rd t, mg_ii t, mg_tp t, mg_tl t, mg_ta t, mg_at t, mg_ou t, mg_op t, mg_br t, mg_nw t, mg_fs t, mg_bc t, mg_kr t, mg_rw t, mg_rc t) u) := by
  refine Mi.of (by decide) rfl (Nat.le_of_ble_eq_true rfl) ?_
  refine r_iload_n eX4_lot_0 rfl rfl ?_
  refine n_iconst 1 eX4_lot_1 rfl ?_
  refine n_bipush 9 eX4_lot_2 rfl ?_
  refine r_callSi3 eX4_lot_4 lX4_44 (s4_within_k (nI_le (by omega) (by omega)) (nI_le (by omega) (by omega))) (by omega) (Nat.le_of_ble_eq_true rfl) (fun r1 h1 hq => ?_)
  obtain ⟨rfl, rfl⟩ := hq
  refine r_istore eX4_lot_7 (by decide) ?_
  refine r_iload eX4_lot_9 rfl ?_
  refine n_if_ne eX4_lot_11 (by first | omega | exact zlt (hs _) | exact hou _ | exact hop _) (fun hc11 => absurd hc11 (by decide)) (fun hc11 => ?_)
  refine r_iload_n eX4_lot_14 rfl rfl ?_
  refine n_iconst 2 eX4_lot_15 rfl ?_
  refine r_callSi2 eX4_lot_16 lX4_40 (s4_isIn_n hx) (by omega) (Nat.le_of_ble_eq_true rfl) (fun r1 h1 hq => ?_)
  obtain ⟨rfl, rfl⟩ := hq
  refine n_if_eq eX4_lot_19 (by first | omega | exact zlt (hs _) | exact hou _ | exact hop _) (fun hc19 => ?_) (fun hc19 => absurd hc19 (by decide))
  refine r_bipush (v := (-2)) eX4_lot_30 rfl ?_
  refine r_istore eX4_lot_32 (by decide) ?_
  refine r_iload eX4_lot_34 rfl ?_
  refine r_if_eq eX4_lot_36 (fun hc36 => absurd hc36 (by decide)) (fun hc36 => ?_)
  refine r_aload_n eX4_lot_39 rfl rfl ?_
  refine r_iload eX4_lot_40 rfl ?_
  refine r_callVi1 eX4_lot_42 lX4_52 (Or.inl ⟨_, _, _, rfl, rfl, rfl⟩) (s4_refuse (t := t) (u := u) (x := (-2)) (c := 2) (by decide) (by decide)) (by omega) (Nat.le_of_ble_eq_true rfl) (fun r1 h1 hq => ?_)
  obtain ⟨rfl, rfl⟩ := (show r1 = (-2) ∧ h1 = hA ((va_up (mg_re t) 2 ((mg_re t) 2 + 1)), mg_s t, mg_im t, mg_rd t, mg_ii t, mg_tp t, mg_tl t, mg_ta t, mg_at t, mg_ou t, mg_op t, mg_br t, mg_nw t, mg_fs t, mg_bc t, mg_kr t, mg_rw t, mg_rc t) u from hq)
  exact z_iret eX4_lot_45 rfl rfl ⟨_, rfl, rfl, rfl⟩
set_option maxHeartbeats 1000000 in
set_option maxRecDepth 100000 in
theorem s4_lot_o2 {t : zMod} {u : zCls} {n : Nat} (hn1 : 1 ≤ n) (hn : n ≤ 9) {x : Nat} {y : Int32} (hx : x < 2) (hy : y < 0 ∨ nI 2 ≤ y) : Mi mX4_lot 60 [.ref 0, .int (nI (n)), .int (nI (x)), .int (y)] (hA t u) (fun r h' => r = (-2) ∧ h' = hA ((va_up (mg_re t) 2 (mg_re t 2 + 1)), mg_s t, mg_im t, mg_rd t, mg_ii t, mg_tp t, mg_tl t, mg_ta t, mg_at t, mg_ou t, mg_op t, mg_br t, mg_nw t, mg_fs t, mg_bc t, mg_kr t, mg_rw t, mg_rc t) u) := by
  refine Mi.of (by decide) rfl (Nat.le_of_ble_eq_true rfl) ?_
  refine r_iload_n eX4_lot_0 rfl rfl ?_
  refine n_iconst 1 eX4_lot_1 rfl ?_
  refine n_bipush 9 eX4_lot_2 rfl ?_
  refine r_callSi3 eX4_lot_4 lX4_44 (s4_within_k (nI_le (by omega) (by omega)) (nI_le (by omega) (by omega))) (by omega) (Nat.le_of_ble_eq_true rfl) (fun r1 h1 hq => ?_)
  obtain ⟨rfl, rfl⟩ := hq
  refine r_istore eX4_lot_7 (by decide) ?_
  refine r_iload eX4_lot_9 rfl ?_
  refine n_if_ne eX4_lot_11 (by first | omega | exact zlt (hs _) | exact hou _ | exact hop _) (fun hc11 => absurd hc11 (by decide)) (fun hc11 => ?_)
  refine r_iload_n eX4_lot_14 rfl rfl ?_
  refine n_iconst 2 eX4_lot_15 rfl ?_
  refine r_callSi2 eX4_lot_16 lX4_40 (s4_isIn_y hx (by decide)) (by omega) (Nat.le_of_ble_eq_true rfl) (fun r1 h1 hq => ?_)
  obtain ⟨rfl, rfl⟩ := hq
  refine n_if_eq eX4_lot_19 (by first | omega | exact zlt (hs _) | exact hou _ | exact hop _) (fun hc19 => absurd hc19 (by decide)) (fun hc19 => ?_)
  refine r_iload_n eX4_lot_22 rfl rfl ?_
  refine n_iconst 2 eX4_lot_23 rfl ?_
  refine r_callSi2 eX4_lot_24 lX4_40 (s4_isIn_n hy) (by omega) (Nat.le_of_ble_eq_true rfl) (fun r1 h1 hq => ?_)
  obtain ⟨rfl, rfl⟩ := hq
  refine n_if_ne eX4_lot_27 (by first | omega | exact zlt (hs _) | exact hou _ | exact hop _) (fun hc27 => absurd hc27 (by decide)) (fun hc27 => ?_)
  refine r_bipush (v := (-2)) eX4_lot_30 rfl ?_
  refine r_istore eX4_lot_32 (by decide) ?_
  refine r_iload eX4_lot_34 rfl ?_
  refine r_if_eq eX4_lot_36 (fun hc36 => absurd hc36 (by decide)) (fun hc36 => ?_)
  refine r_aload_n eX4_lot_39 rfl rfl ?_
  refine r_iload eX4_lot_40 rfl ?_
  refine r_callVi1 eX4_lot_42 lX4_52 (Or.inl ⟨_, _, _, rfl, rfl, rfl⟩) (s4_refuse (t := t) (u := u) (x := (-2)) (c := 2) (by decide) (by decide)) (by omega) (Nat.le_of_ble_eq_true rfl) (fun r1 h1 hq => ?_)
  obtain ⟨rfl, rfl⟩ := (show r1 = (-2) ∧ h1 = hA ((va_up (mg_re t) 2 ((mg_re t) 2 + 1)), mg_s t, mg_im t, mg_rd t, mg_ii t, mg_tp t, mg_tl t, mg_ta t, mg_at t, mg_ou t, mg_op t, mg_br t, mg_nw t, mg_fs t, mg_bc t, mg_kr t, mg_rw t, mg_rc t) u from hq)
  exact z_iret eX4_lot_45 rfl rfl ⟨_, rfl, rfl, rfl⟩
set_option maxHeartbeats 1000000 in
set_option maxRecDepth 100000 in
theorem s4_lot_00 {t : zMod} {u : zCls} {n : Nat} (hn1 : 1 ≤ n) (hn : n ≤ 9) : Mi mX4_lot 60 [.ref 0, .int (nI (n)), .int (nI (0)), .int (nI (0))] (hA t u) (fun r h' => r = nI 1 ∧ h' = hA t u) := by
  refine Mi.of (by decide) rfl (Nat.le_of_ble_eq_true rfl) ?_
  refine r_iload_n eX4_lot_0 rfl rfl ?_
  refine n_iconst 1 eX4_lot_1 rfl ?_
  refine n_bipush 9 eX4_lot_2 rfl ?_
  refine r_callSi3 eX4_lot_4 lX4_44 (s4_within_k (nI_le (by omega) (by omega)) (nI_le (by omega) (by omega))) (by omega) (Nat.le_of_ble_eq_true rfl) (fun r1 h1 hq => ?_)
  obtain ⟨rfl, rfl⟩ := hq
  refine r_istore eX4_lot_7 (by decide) ?_
  refine r_iload eX4_lot_9 rfl ?_
  refine n_if_ne eX4_lot_11 (by first | omega | exact zlt (hs _) | exact hou _ | exact hop _) (fun hc11 => absurd hc11 (by decide)) (fun hc11 => ?_)
  refine r_iload_n eX4_lot_14 rfl rfl ?_
  refine n_iconst 2 eX4_lot_15 rfl ?_
  refine r_callSi2 eX4_lot_16 lX4_40 (s4_isIn_y (by decide) (by decide)) (by omega) (Nat.le_of_ble_eq_true rfl) (fun r1 h1 hq => ?_)
  obtain ⟨rfl, rfl⟩ := hq
  refine n_if_eq eX4_lot_19 (by first | omega | exact zlt (hs _) | exact hou _ | exact hop _) (fun hc19 => absurd hc19 (by decide)) (fun hc19 => ?_)
  refine r_iload_n eX4_lot_22 rfl rfl ?_
  refine n_iconst 2 eX4_lot_23 rfl ?_
  refine r_callSi2 eX4_lot_24 lX4_40 (s4_isIn_y (by decide) (by decide)) (by omega) (Nat.le_of_ble_eq_true rfl) (fun r1 h1 hq => ?_)
  obtain ⟨rfl, rfl⟩ := hq
  refine n_if_ne eX4_lot_27 (by first | omega | exact zlt (hs _) | exact hou _ | exact hop _) (fun hc27 => ?_) (fun hc27 => absurd hc27 (by decide))
  refine r_iload eX4_lot_34 rfl ?_
  refine n_if_eq eX4_lot_36 (by first | omega | exact zlt (hs _) | exact hou _ | exact hop _) (fun hc36 => ?_) (fun hc36 => absurd hc36 (by decide))
  refine n_iconst 1 eX4_lot_46 rfl ?_
  refine r_istore eX4_lot_47 (by decide) ?_
  refine r_iload_n eX4_lot_49 rfl rfl ?_
  refine r_istore eX4_lot_50 (by decide) ?_
  refine r_iload_n eX4_lot_52 rfl rfl ?_
  refine n_iconst 1 eX4_lot_53 rfl ?_
  refine n_sub eX4_lot_54 (by first | omega | exact zlt (hs _) | exact hou _ | exact hop _) ?_
  refine r_istore eX4_lot_55 (by decide) ?_
  refine r_iload eX4_lot_57 rfl ?_
  refine n_if_le eX4_lot_59 (by first | omega | exact zlt (hs _) | exact hou _ | exact hop _) (fun hc59 => ?_) (fun hc59 => ?_)
  · refine r_iload_n eX4_lot_113 rfl rfl ?_
    refine n_if_ne eX4_lot_114 (by first | omega | exact zlt (hs _) | exact hou _ | exact hop _) (fun hc114 => absurd hc114 (by decide)) (fun hc114 => ?_)
    refine r_iload eX4_lot_117 rfl ?_
    refine r_goto eX4_lot_119 ?_
    exact z_iret eX4_lot_124 rfl rfl ⟨_, rfl, rfl, rfl⟩
  · refine r_iload_n eX4_lot_62 rfl rfl ?_
    refine n_iconst 1 eX4_lot_63 rfl ?_
    refine n_icmp_ne eX4_lot_64 (by first | omega | exact zlt (hs _) | exact hou _ | exact hop _) (by first | omega | exact zlt (hs _) | exact hou _ | exact hop _) (fun hc64 => ?_) (fun hc64 => absurd hc64 (by decide))
    refine r_iload_n eX4_lot_113 rfl rfl ?_
    refine n_if_ne eX4_lot_114 (by first | omega | exact zlt (hs _) | exact hou _ | exact hop _) (fun hc114 => absurd hc114 (by decide)) (fun hc114 => ?_)
    refine r_iload eX4_lot_117 rfl ?_
    refine r_goto eX4_lot_119 ?_
    exact z_iret eX4_lot_124 rfl rfl ⟨_, rfl, rfl, rfl⟩
set_option maxHeartbeats 1000000 in
set_option maxRecDepth 100000 in
theorem s4_lot_01 {t : zMod} {u : zCls} {n : Nat} (hn1 : 1 ≤ n) (hn : n ≤ 9) : Mi mX4_lot 60 [.ref 0, .int (nI (n)), .int (nI (0)), .int (nI (1))] (hA t u) (fun r h' => r = nI n ∧ h' = hA t u) := by
  refine Mi.of (by decide) rfl (Nat.le_of_ble_eq_true rfl) ?_
  refine r_iload_n eX4_lot_0 rfl rfl ?_
  refine n_iconst 1 eX4_lot_1 rfl ?_
  refine n_bipush 9 eX4_lot_2 rfl ?_
  refine r_callSi3 eX4_lot_4 lX4_44 (s4_within_k (nI_le (by omega) (by omega)) (nI_le (by omega) (by omega))) (by omega) (Nat.le_of_ble_eq_true rfl) (fun r1 h1 hq => ?_)
  obtain ⟨rfl, rfl⟩ := hq
  refine r_istore eX4_lot_7 (by decide) ?_
  refine r_iload eX4_lot_9 rfl ?_
  refine n_if_ne eX4_lot_11 (by first | omega | exact zlt (hs _) | exact hou _ | exact hop _) (fun hc11 => absurd hc11 (by decide)) (fun hc11 => ?_)
  refine r_iload_n eX4_lot_14 rfl rfl ?_
  refine n_iconst 2 eX4_lot_15 rfl ?_
  refine r_callSi2 eX4_lot_16 lX4_40 (s4_isIn_y (by decide) (by decide)) (by omega) (Nat.le_of_ble_eq_true rfl) (fun r1 h1 hq => ?_)
  obtain ⟨rfl, rfl⟩ := hq
  refine n_if_eq eX4_lot_19 (by first | omega | exact zlt (hs _) | exact hou _ | exact hop _) (fun hc19 => absurd hc19 (by decide)) (fun hc19 => ?_)
  refine r_iload_n eX4_lot_22 rfl rfl ?_
  refine n_iconst 2 eX4_lot_23 rfl ?_
  refine r_callSi2 eX4_lot_24 lX4_40 (s4_isIn_y (by decide) (by decide)) (by omega) (Nat.le_of_ble_eq_true rfl) (fun r1 h1 hq => ?_)
  obtain ⟨rfl, rfl⟩ := hq
  refine n_if_ne eX4_lot_27 (by first | omega | exact zlt (hs _) | exact hou _ | exact hop _) (fun hc27 => ?_) (fun hc27 => absurd hc27 (by decide))
  refine r_iload eX4_lot_34 rfl ?_
  refine n_if_eq eX4_lot_36 (by first | omega | exact zlt (hs _) | exact hou _ | exact hop _) (fun hc36 => ?_) (fun hc36 => absurd hc36 (by decide))
  refine n_iconst 1 eX4_lot_46 rfl ?_
  refine r_istore eX4_lot_47 (by decide) ?_
  refine r_iload_n eX4_lot_49 rfl rfl ?_
  refine r_istore eX4_lot_50 (by decide) ?_
  refine r_iload_n eX4_lot_52 rfl rfl ?_
  refine n_iconst 1 eX4_lot_53 rfl ?_
  refine n_sub eX4_lot_54 (by first | omega | exact zlt (hs _) | exact hou _ | exact hop _) ?_
  refine r_istore eX4_lot_55 (by decide) ?_
  refine r_iload eX4_lot_57 rfl ?_
  refine n_if_le eX4_lot_59 (by first | omega | exact zlt (hs _) | exact hou _ | exact hop _) (fun hc59 => ?_) (fun hc59 => ?_)
  · refine r_iload_n eX4_lot_113 rfl rfl ?_
    refine n_if_ne eX4_lot_114 (by first | omega | exact zlt (hs _) | exact hou _ | exact hop _) (fun hc114 => ?_) (fun hc114 => absurd hc114 (by decide))
    refine r_iload eX4_lot_122 rfl ?_
    exact z_iret eX4_lot_124 rfl rfl ⟨_, rfl, rfl, rfl⟩
  · refine r_iload_n eX4_lot_62 rfl rfl ?_
    refine n_iconst 1 eX4_lot_63 rfl ?_
    refine n_icmp_ne eX4_lot_64 (by first | omega | exact zlt (hs _) | exact hou _ | exact hop _) (by first | omega | exact zlt (hs _) | exact hou _ | exact hop _) (fun hc64 => ?_) (fun hc64 => absurd hc64 (by decide))
    refine r_iload_n eX4_lot_113 rfl rfl ?_
    refine n_if_ne eX4_lot_114 (by first | omega | exact zlt (hs _) | exact hou _ | exact hop _) (fun hc114 => ?_) (fun hc114 => absurd hc114 (by decide))
    refine r_iload eX4_lot_122 rfl ?_
    exact z_iret eX4_lot_124 rfl rfl ⟨_, rfl, rfl, rfl⟩
/-- the mean number of rings, in least terms -/
def zlot : Nat → Nat × Nat
  | 1 => (1, 1)
  | 2 => (3, 2)
  | 3 => (11, 6)
  | 4 => (25, 12)
  | 5 => (137, 60)
  | 6 => (49, 20)
  | 7 => (363, 140)
  | 8 => (761, 280)
  | 9 => (7129, 2520)
  | _ => (0, 0)
set_option maxHeartbeats 1000000 in
set_option maxRecDepth 100000 in
theorem s4_lot_1_0 {t : zMod} {u : zCls} : Mi mX4_lot 60 [.ref 0, .int (nI (1)), .int (nI (1)), .int (nI (0))] (hA t u) (fun r h' => r = nI 1 ∧ h' = hA t u) := by
  refine Mi.of (by decide) rfl (Nat.le_of_ble_eq_true rfl) ?_
  refine r_iload_n eX4_lot_0 rfl rfl ?_
  refine n_iconst 1 eX4_lot_1 rfl ?_
  refine n_bipush 9 eX4_lot_2 rfl ?_
  refine r_callSi3 eX4_lot_4 lX4_44 (s4_within_k (by decide) (by decide)) (by omega) (Nat.le_of_ble_eq_true rfl) (fun r1 h1 hq => ?_)
  obtain ⟨rfl, rfl⟩ := hq
  refine r_istore eX4_lot_7 (by decide) ?_
  refine r_iload eX4_lot_9 rfl ?_
  refine n_if_ne eX4_lot_11 (by decide) (fun hc11 => absurd hc11 (by decide)) (fun hc11 => ?_)
  refine r_iload_n eX4_lot_14 rfl rfl ?_
  refine n_iconst 2 eX4_lot_15 rfl ?_
  refine r_callSi2 eX4_lot_16 lX4_40 (s4_isIn_y (by decide) (by decide)) (by omega) (Nat.le_of_ble_eq_true rfl) (fun r1 h1 hq => ?_)
  obtain ⟨rfl, rfl⟩ := hq
  refine n_if_eq eX4_lot_19 (by decide) (fun hc19 => absurd hc19 (by decide)) (fun hc19 => ?_)
  refine r_iload_n eX4_lot_22 rfl rfl ?_
  refine n_iconst 2 eX4_lot_23 rfl ?_
  refine r_callSi2 eX4_lot_24 lX4_40 (s4_isIn_y (by decide) (by decide)) (by omega) (Nat.le_of_ble_eq_true rfl) (fun r1 h1 hq => ?_)
  obtain ⟨rfl, rfl⟩ := hq
  refine n_if_ne eX4_lot_27 (by decide) (fun hc27 => ?_) (fun hc27 => absurd hc27 (by decide))
  refine r_iload eX4_lot_34 rfl ?_
  refine n_if_eq eX4_lot_36 (by decide) (fun hc36 => ?_) (fun hc36 => absurd hc36 (by decide))
  refine n_iconst 1 eX4_lot_46 rfl ?_
  refine r_istore eX4_lot_47 (by decide) ?_
  refine r_iload_n eX4_lot_49 rfl rfl ?_
  refine r_istore eX4_lot_50 (by decide) ?_
  refine r_iload_n eX4_lot_52 rfl rfl ?_
  refine n_iconst 1 eX4_lot_53 rfl ?_
  refine n_sub eX4_lot_54 (by decide) ?_
  refine z_top (y := nI 0) (by decide +kernel) ?_
  refine r_istore eX4_lot_55 (by decide) ?_
  refine r_iload eX4_lot_57 rfl ?_
  refine n_if_le eX4_lot_59 (by decide) (fun hc59 => ?_) (fun hc59 => absurd hc59 (by decide))
  refine r_iload_n eX4_lot_113 rfl rfl ?_
  refine n_if_ne eX4_lot_114 (by decide) (fun hc114 => absurd hc114 (by decide)) (fun hc114 => ?_)
  refine r_iload eX4_lot_117 rfl ?_
  refine r_goto eX4_lot_119 ?_
  exact z_iret eX4_lot_124 rfl rfl ⟨_, rfl, rfl, rfl⟩
set_option maxHeartbeats 1000000 in
set_option maxRecDepth 100000 in
theorem s4_lot_1_1 {t : zMod} {u : zCls} : Mi mX4_lot 60 [.ref 0, .int (nI (1)), .int (nI (1)), .int (nI (1))] (hA t u) (fun r h' => r = nI 1 ∧ h' = hA t u) := by
  refine Mi.of (by decide) rfl (Nat.le_of_ble_eq_true rfl) ?_
  refine r_iload_n eX4_lot_0 rfl rfl ?_
  refine n_iconst 1 eX4_lot_1 rfl ?_
  refine n_bipush 9 eX4_lot_2 rfl ?_
  refine r_callSi3 eX4_lot_4 lX4_44 (s4_within_k (by decide) (by decide)) (by omega) (Nat.le_of_ble_eq_true rfl) (fun r1 h1 hq => ?_)
  obtain ⟨rfl, rfl⟩ := hq
  refine r_istore eX4_lot_7 (by decide) ?_
  refine r_iload eX4_lot_9 rfl ?_
  refine n_if_ne eX4_lot_11 (by decide) (fun hc11 => absurd hc11 (by decide)) (fun hc11 => ?_)
  refine r_iload_n eX4_lot_14 rfl rfl ?_
  refine n_iconst 2 eX4_lot_15 rfl ?_
  refine r_callSi2 eX4_lot_16 lX4_40 (s4_isIn_y (by decide) (by decide)) (by omega) (Nat.le_of_ble_eq_true rfl) (fun r1 h1 hq => ?_)
  obtain ⟨rfl, rfl⟩ := hq
  refine n_if_eq eX4_lot_19 (by decide) (fun hc19 => absurd hc19 (by decide)) (fun hc19 => ?_)
  refine r_iload_n eX4_lot_22 rfl rfl ?_
  refine n_iconst 2 eX4_lot_23 rfl ?_
  refine r_callSi2 eX4_lot_24 lX4_40 (s4_isIn_y (by decide) (by decide)) (by omega) (Nat.le_of_ble_eq_true rfl) (fun r1 h1 hq => ?_)
  obtain ⟨rfl, rfl⟩ := hq
  refine n_if_ne eX4_lot_27 (by decide) (fun hc27 => ?_) (fun hc27 => absurd hc27 (by decide))
  refine r_iload eX4_lot_34 rfl ?_
  refine n_if_eq eX4_lot_36 (by decide) (fun hc36 => ?_) (fun hc36 => absurd hc36 (by decide))
  refine n_iconst 1 eX4_lot_46 rfl ?_
  refine r_istore eX4_lot_47 (by decide) ?_
  refine r_iload_n eX4_lot_49 rfl rfl ?_
  refine r_istore eX4_lot_50 (by decide) ?_
  refine r_iload_n eX4_lot_52 rfl rfl ?_
  refine n_iconst 1 eX4_lot_53 rfl ?_
  refine n_sub eX4_lot_54 (by decide) ?_
  refine z_top (y := nI 0) (by decide +kernel) ?_
  refine r_istore eX4_lot_55 (by decide) ?_
  refine r_iload eX4_lot_57 rfl ?_
  refine n_if_le eX4_lot_59 (by decide) (fun hc59 => ?_) (fun hc59 => absurd hc59 (by decide))
  refine r_iload_n eX4_lot_113 rfl rfl ?_
  refine n_if_ne eX4_lot_114 (by decide) (fun hc114 => ?_) (fun hc114 => absurd hc114 (by decide))
  refine r_iload eX4_lot_122 rfl ?_
  exact z_iret eX4_lot_124 rfl rfl ⟨_, rfl, rfl, rfl⟩
set_option maxHeartbeats 1000000 in
set_option maxRecDepth 100000 in
theorem s4_lot_2_0 {t : zMod} {u : zCls} : Mi mX4_lot 60 [.ref 0, .int (nI (2)), .int (nI (1)), .int (nI (0))] (hA t u) (fun r h' => r = nI 3 ∧ h' = hA t u) := by
  refine Mi.of (by decide) rfl (Nat.le_of_ble_eq_true rfl) ?_
  refine r_iload_n eX4_lot_0 rfl rfl ?_
  refine n_iconst 1 eX4_lot_1 rfl ?_
  refine n_bipush 9 eX4_lot_2 rfl ?_
  refine r_callSi3 eX4_lot_4 lX4_44 (s4_within_k (by decide) (by decide)) (by omega) (Nat.le_of_ble_eq_true rfl) (fun r1 h1 hq => ?_)
  obtain ⟨rfl, rfl⟩ := hq
  refine r_istore eX4_lot_7 (by decide) ?_
  refine r_iload eX4_lot_9 rfl ?_
  refine n_if_ne eX4_lot_11 (by decide) (fun hc11 => absurd hc11 (by decide)) (fun hc11 => ?_)
  refine r_iload_n eX4_lot_14 rfl rfl ?_
  refine n_iconst 2 eX4_lot_15 rfl ?_
  refine r_callSi2 eX4_lot_16 lX4_40 (s4_isIn_y (by decide) (by decide)) (by omega) (Nat.le_of_ble_eq_true rfl) (fun r1 h1 hq => ?_)
  obtain ⟨rfl, rfl⟩ := hq
  refine n_if_eq eX4_lot_19 (by decide) (fun hc19 => absurd hc19 (by decide)) (fun hc19 => ?_)
  refine r_iload_n eX4_lot_22 rfl rfl ?_
  refine n_iconst 2 eX4_lot_23 rfl ?_
  refine r_callSi2 eX4_lot_24 lX4_40 (s4_isIn_y (by decide) (by decide)) (by omega) (Nat.le_of_ble_eq_true rfl) (fun r1 h1 hq => ?_)
  obtain ⟨rfl, rfl⟩ := hq
  refine n_if_ne eX4_lot_27 (by decide) (fun hc27 => ?_) (fun hc27 => absurd hc27 (by decide))
  refine r_iload eX4_lot_34 rfl ?_
  refine n_if_eq eX4_lot_36 (by decide) (fun hc36 => ?_) (fun hc36 => absurd hc36 (by decide))
  refine n_iconst 1 eX4_lot_46 rfl ?_
  refine r_istore eX4_lot_47 (by decide) ?_
  refine r_iload_n eX4_lot_49 rfl rfl ?_
  refine r_istore eX4_lot_50 (by decide) ?_
  refine r_iload_n eX4_lot_52 rfl rfl ?_
  refine n_iconst 1 eX4_lot_53 rfl ?_
  refine n_sub eX4_lot_54 (by decide) ?_
  refine z_top (y := nI 1) (by decide +kernel) ?_
  refine r_istore eX4_lot_55 (by decide) ?_
  refine r_iload eX4_lot_57 rfl ?_
  refine n_if_le eX4_lot_59 (by decide) (fun hc59 => absurd hc59 (by decide)) (fun hc59 => ?_)
  refine r_iload_n eX4_lot_62 rfl rfl ?_
  refine n_iconst 1 eX4_lot_63 rfl ?_
  refine n_icmp_ne eX4_lot_64 (by decide) (by decide) (fun hc64 => absurd hc64 (by decide)) (fun hc64 => ?_)
  refine r_iload eX4_lot_67 rfl ?_
  refine r_iload eX4_lot_69 rfl ?_
  refine n_mul eX4_lot_71 ?_
  refine z_top (y := nI 1) (by decide +kernel) ?_
  refine r_iload eX4_lot_72 rfl ?_
  refine n_add eX4_lot_74 ?_
  refine z_top (y := nI 3) (by decide +kernel) ?_
  refine r_istore eX4_lot_75 (by decide) ?_
  refine r_iload eX4_lot_77 rfl ?_
  refine r_iload eX4_lot_79 rfl ?_
  refine n_mul eX4_lot_81 ?_
  refine z_top (y := nI 2) (by decide +kernel) ?_
  refine r_istore eX4_lot_82 (by decide) ?_
  refine r_iload eX4_lot_84 rfl ?_
  refine r_iload eX4_lot_86 rfl ?_
  refine r_callSi2 eX4_lot_88 lX4_192 (s4_common 20 3 2 (by decide) (by decide) (by decide)) (by omega) (Nat.le_of_ble_eq_true rfl) (fun r1 h1 hq => ?_)
  obtain ⟨hq1, rfl⟩ := hq
  obtain rfl : r1 = nI (1) := by rw [hq1]; decide +kernel
  refine r_istore eX4_lot_91 (by decide) ?_
  refine r_iload eX4_lot_93 rfl ?_
  refine r_iload eX4_lot_95 rfl ?_
  refine n_div eX4_lot_97 (by decide) (by decide) (by decide) ?_
  refine z_top (y := nI 3) (by decide +kernel) ?_
  refine r_istore eX4_lot_98 (by decide) ?_
  refine r_iload eX4_lot_100 rfl ?_
  refine r_iload eX4_lot_102 rfl ?_
  refine n_div eX4_lot_104 (by decide) (by decide) (by decide) ?_
  refine z_top (y := nI 2) (by decide +kernel) ?_
  refine r_istore eX4_lot_105 (by decide) ?_
  refine n_dec (a := 0) eX4_lot_107 rfl (by decide) ?_
  refine r_goto eX4_lot_110 ?_
  refine r_iload eX4_lot_57 rfl ?_
  refine n_if_le eX4_lot_59 (by decide) (fun hc59 => ?_) (fun hc59 => absurd hc59 (by decide))
  refine r_iload_n eX4_lot_113 rfl rfl ?_
  refine n_if_ne eX4_lot_114 (by decide) (fun hc114 => absurd hc114 (by decide)) (fun hc114 => ?_)
  refine r_iload eX4_lot_117 rfl ?_
  refine r_goto eX4_lot_119 ?_
  exact z_iret eX4_lot_124 rfl rfl ⟨_, rfl, rfl, rfl⟩
set_option maxHeartbeats 1000000 in
set_option maxRecDepth 100000 in
theorem s4_lot_2_1 {t : zMod} {u : zCls} : Mi mX4_lot 60 [.ref 0, .int (nI (2)), .int (nI (1)), .int (nI (1))] (hA t u) (fun r h' => r = nI 2 ∧ h' = hA t u) := by
  refine Mi.of (by decide) rfl (Nat.le_of_ble_eq_true rfl) ?_
  refine r_iload_n eX4_lot_0 rfl rfl ?_
  refine n_iconst 1 eX4_lot_1 rfl ?_
  refine n_bipush 9 eX4_lot_2 rfl ?_
  refine r_callSi3 eX4_lot_4 lX4_44 (s4_within_k (by decide) (by decide)) (by omega) (Nat.le_of_ble_eq_true rfl) (fun r1 h1 hq => ?_)
  obtain ⟨rfl, rfl⟩ := hq
  refine r_istore eX4_lot_7 (by decide) ?_
  refine r_iload eX4_lot_9 rfl ?_
  refine n_if_ne eX4_lot_11 (by decide) (fun hc11 => absurd hc11 (by decide)) (fun hc11 => ?_)
  refine r_iload_n eX4_lot_14 rfl rfl ?_
  refine n_iconst 2 eX4_lot_15 rfl ?_
  refine r_callSi2 eX4_lot_16 lX4_40 (s4_isIn_y (by decide) (by decide)) (by omega) (Nat.le_of_ble_eq_true rfl) (fun r1 h1 hq => ?_)
  obtain ⟨rfl, rfl⟩ := hq
  refine n_if_eq eX4_lot_19 (by decide) (fun hc19 => absurd hc19 (by decide)) (fun hc19 => ?_)
  refine r_iload_n eX4_lot_22 rfl rfl ?_
  refine n_iconst 2 eX4_lot_23 rfl ?_
  refine r_callSi2 eX4_lot_24 lX4_40 (s4_isIn_y (by decide) (by decide)) (by omega) (Nat.le_of_ble_eq_true rfl) (fun r1 h1 hq => ?_)
  obtain ⟨rfl, rfl⟩ := hq
  refine n_if_ne eX4_lot_27 (by decide) (fun hc27 => ?_) (fun hc27 => absurd hc27 (by decide))
  refine r_iload eX4_lot_34 rfl ?_
  refine n_if_eq eX4_lot_36 (by decide) (fun hc36 => ?_) (fun hc36 => absurd hc36 (by decide))
  refine n_iconst 1 eX4_lot_46 rfl ?_
  refine r_istore eX4_lot_47 (by decide) ?_
  refine r_iload_n eX4_lot_49 rfl rfl ?_
  refine r_istore eX4_lot_50 (by decide) ?_
  refine r_iload_n eX4_lot_52 rfl rfl ?_
  refine n_iconst 1 eX4_lot_53 rfl ?_
  refine n_sub eX4_lot_54 (by decide) ?_
  refine z_top (y := nI 1) (by decide +kernel) ?_
  refine r_istore eX4_lot_55 (by decide) ?_
  refine r_iload eX4_lot_57 rfl ?_
  refine n_if_le eX4_lot_59 (by decide) (fun hc59 => absurd hc59 (by decide)) (fun hc59 => ?_)
  refine r_iload_n eX4_lot_62 rfl rfl ?_
  refine n_iconst 1 eX4_lot_63 rfl ?_
  refine n_icmp_ne eX4_lot_64 (by decide) (by decide) (fun hc64 => absurd hc64 (by decide)) (fun hc64 => ?_)
  refine r_iload eX4_lot_67 rfl ?_
  refine r_iload eX4_lot_69 rfl ?_
  refine n_mul eX4_lot_71 ?_
  refine z_top (y := nI 1) (by decide +kernel) ?_
  refine r_iload eX4_lot_72 rfl ?_
  refine n_add eX4_lot_74 ?_
  refine z_top (y := nI 3) (by decide +kernel) ?_
  refine r_istore eX4_lot_75 (by decide) ?_
  refine r_iload eX4_lot_77 rfl ?_
  refine r_iload eX4_lot_79 rfl ?_
  refine n_mul eX4_lot_81 ?_
  refine z_top (y := nI 2) (by decide +kernel) ?_
  refine r_istore eX4_lot_82 (by decide) ?_
  refine r_iload eX4_lot_84 rfl ?_
  refine r_iload eX4_lot_86 rfl ?_
  refine r_callSi2 eX4_lot_88 lX4_192 (s4_common 20 3 2 (by decide) (by decide) (by decide)) (by omega) (Nat.le_of_ble_eq_true rfl) (fun r1 h1 hq => ?_)
  obtain ⟨hq1, rfl⟩ := hq
  obtain rfl : r1 = nI (1) := by rw [hq1]; decide +kernel
  refine r_istore eX4_lot_91 (by decide) ?_
  refine r_iload eX4_lot_93 rfl ?_
  refine r_iload eX4_lot_95 rfl ?_
  refine n_div eX4_lot_97 (by decide) (by decide) (by decide) ?_
  refine z_top (y := nI 3) (by decide +kernel) ?_
  refine r_istore eX4_lot_98 (by decide) ?_
  refine r_iload eX4_lot_100 rfl ?_
  refine r_iload eX4_lot_102 rfl ?_
  refine n_div eX4_lot_104 (by decide) (by decide) (by decide) ?_
  refine z_top (y := nI 2) (by decide +kernel) ?_
  refine r_istore eX4_lot_105 (by decide) ?_
  refine n_dec (a := 0) eX4_lot_107 rfl (by decide) ?_
  refine r_goto eX4_lot_110 ?_
  refine r_iload eX4_lot_57 rfl ?_
  refine n_if_le eX4_lot_59 (by decide) (fun hc59 => ?_) (fun hc59 => absurd hc59 (by decide))
  refine r_iload_n eX4_lot_113 rfl rfl ?_
  refine n_if_ne eX4_lot_114 (by decide) (fun hc114 => ?_) (fun hc114 => absurd hc114 (by decide))
  refine r_iload eX4_lot_122 rfl ?_
  exact z_iret eX4_lot_124 rfl rfl ⟨_, rfl, rfl, rfl⟩
set_option maxHeartbeats 1000000 in
set_option maxRecDepth 100000 in
theorem s4_lot_3_0 {t : zMod} {u : zCls} : Mi mX4_lot 60 [.ref 0, .int (nI (3)), .int (nI (1)), .int (nI (0))] (hA t u) (fun r h' => r = nI 11 ∧ h' = hA t u) := by
  refine Mi.of (by decide) rfl (Nat.le_of_ble_eq_true rfl) ?_
  refine r_iload_n eX4_lot_0 rfl rfl ?_
  refine n_iconst 1 eX4_lot_1 rfl ?_
  refine n_bipush 9 eX4_lot_2 rfl ?_
  refine r_callSi3 eX4_lot_4 lX4_44 (s4_within_k (by decide) (by decide)) (by omega) (Nat.le_of_ble_eq_true rfl) (fun r1 h1 hq => ?_)
  obtain ⟨rfl, rfl⟩ := hq
  refine r_istore eX4_lot_7 (by decide) ?_
  refine r_iload eX4_lot_9 rfl ?_
  refine n_if_ne eX4_lot_11 (by decide) (fun hc11 => absurd hc11 (by decide)) (fun hc11 => ?_)
  refine r_iload_n eX4_lot_14 rfl rfl ?_
  refine n_iconst 2 eX4_lot_15 rfl ?_
  refine r_callSi2 eX4_lot_16 lX4_40 (s4_isIn_y (by decide) (by decide)) (by omega) (Nat.le_of_ble_eq_true rfl) (fun r1 h1 hq => ?_)
  obtain ⟨rfl, rfl⟩ := hq
  refine n_if_eq eX4_lot_19 (by decide) (fun hc19 => absurd hc19 (by decide)) (fun hc19 => ?_)
  refine r_iload_n eX4_lot_22 rfl rfl ?_
  refine n_iconst 2 eX4_lot_23 rfl ?_
  refine r_callSi2 eX4_lot_24 lX4_40 (s4_isIn_y (by decide) (by decide)) (by omega) (Nat.le_of_ble_eq_true rfl) (fun r1 h1 hq => ?_)
  obtain ⟨rfl, rfl⟩ := hq
  refine n_if_ne eX4_lot_27 (by decide) (fun hc27 => ?_) (fun hc27 => absurd hc27 (by decide))
  refine r_iload eX4_lot_34 rfl ?_
  refine n_if_eq eX4_lot_36 (by decide) (fun hc36 => ?_) (fun hc36 => absurd hc36 (by decide))
  refine n_iconst 1 eX4_lot_46 rfl ?_
  refine r_istore eX4_lot_47 (by decide) ?_
  refine r_iload_n eX4_lot_49 rfl rfl ?_
  refine r_istore eX4_lot_50 (by decide) ?_
  refine r_iload_n eX4_lot_52 rfl rfl ?_
  refine n_iconst 1 eX4_lot_53 rfl ?_
  refine n_sub eX4_lot_54 (by decide) ?_
  refine z_top (y := nI 2) (by decide +kernel) ?_
  refine r_istore eX4_lot_55 (by decide) ?_
  refine r_iload eX4_lot_57 rfl ?_
  refine n_if_le eX4_lot_59 (by decide) (fun hc59 => absurd hc59 (by decide)) (fun hc59 => ?_)
  refine r_iload_n eX4_lot_62 rfl rfl ?_
  refine n_iconst 1 eX4_lot_63 rfl ?_
  refine n_icmp_ne eX4_lot_64 (by decide) (by decide) (fun hc64 => absurd hc64 (by decide)) (fun hc64 => ?_)
  refine r_iload eX4_lot_67 rfl ?_
  refine r_iload eX4_lot_69 rfl ?_
  refine n_mul eX4_lot_71 ?_
  refine z_top (y := nI 2) (by decide +kernel) ?_
  refine r_iload eX4_lot_72 rfl ?_
  refine n_add eX4_lot_74 ?_
  refine z_top (y := nI 5) (by decide +kernel) ?_
  refine r_istore eX4_lot_75 (by decide) ?_
  refine r_iload eX4_lot_77 rfl ?_
  refine r_iload eX4_lot_79 rfl ?_
  refine n_mul eX4_lot_81 ?_
  refine z_top (y := nI 6) (by decide +kernel) ?_
  refine r_istore eX4_lot_82 (by decide) ?_
  refine r_iload eX4_lot_84 rfl ?_
  refine r_iload eX4_lot_86 rfl ?_
  refine r_callSi2 eX4_lot_88 lX4_192 (s4_common 20 5 6 (by decide) (by decide) (by decide)) (by omega) (Nat.le_of_ble_eq_true rfl) (fun r1 h1 hq => ?_)
  obtain ⟨hq1, rfl⟩ := hq
  obtain rfl : r1 = nI (1) := by rw [hq1]; decide +kernel
  refine r_istore eX4_lot_91 (by decide) ?_
  refine r_iload eX4_lot_93 rfl ?_
  refine r_iload eX4_lot_95 rfl ?_
  refine n_div eX4_lot_97 (by decide) (by decide) (by decide) ?_
  refine z_top (y := nI 5) (by decide +kernel) ?_
  refine r_istore eX4_lot_98 (by decide) ?_
  refine r_iload eX4_lot_100 rfl ?_
  refine r_iload eX4_lot_102 rfl ?_
  refine n_div eX4_lot_104 (by decide) (by decide) (by decide) ?_
  refine z_top (y := nI 6) (by decide +kernel) ?_
  refine r_istore eX4_lot_105 (by decide) ?_
  refine n_dec (a := 1) eX4_lot_107 rfl (by decide) ?_
  refine r_goto eX4_lot_110 ?_
  refine r_iload eX4_lot_57 rfl ?_
  refine n_if_le eX4_lot_59 (by decide) (fun hc59 => absurd hc59 (by decide)) (fun hc59 => ?_)
  refine r_iload_n eX4_lot_62 rfl rfl ?_
  refine n_iconst 1 eX4_lot_63 rfl ?_
  refine n_icmp_ne eX4_lot_64 (by decide) (by decide) (fun hc64 => absurd hc64 (by decide)) (fun hc64 => ?_)
  refine r_iload eX4_lot_67 rfl ?_
  refine r_iload eX4_lot_69 rfl ?_
  refine n_mul eX4_lot_71 ?_
  refine z_top (y := nI 5) (by decide +kernel) ?_
  refine r_iload eX4_lot_72 rfl ?_
  refine n_add eX4_lot_74 ?_
  refine z_top (y := nI 11) (by decide +kernel) ?_
  refine r_istore eX4_lot_75 (by decide) ?_
  refine r_iload eX4_lot_77 rfl ?_
  refine r_iload eX4_lot_79 rfl ?_
  refine n_mul eX4_lot_81 ?_
  refine z_top (y := nI 6) (by decide +kernel) ?_
  refine r_istore eX4_lot_82 (by decide) ?_
  refine r_iload eX4_lot_84 rfl ?_
  refine r_iload eX4_lot_86 rfl ?_
  refine r_callSi2 eX4_lot_88 lX4_192 (s4_common 20 11 6 (by decide) (by decide) (by decide)) (by omega) (Nat.le_of_ble_eq_true rfl) (fun r1 h1 hq => ?_)
  obtain ⟨hq1, rfl⟩ := hq
  obtain rfl : r1 = nI (1) := by rw [hq1]; decide +kernel
  refine r_istore eX4_lot_91 (by decide) ?_
  refine r_iload eX4_lot_93 rfl ?_
  refine r_iload eX4_lot_95 rfl ?_
  refine n_div eX4_lot_97 (by decide) (by decide) (by decide) ?_
  refine z_top (y := nI 11) (by decide +kernel) ?_
  refine r_istore eX4_lot_98 (by decide) ?_
  refine r_iload eX4_lot_100 rfl ?_
  refine r_iload eX4_lot_102 rfl ?_
  refine n_div eX4_lot_104 (by decide) (by decide) (by decide) ?_
  refine z_top (y := nI 6) (by decide +kernel) ?_
  refine r_istore eX4_lot_105 (by decide) ?_
  refine n_dec (a := 0) eX4_lot_107 rfl (by decide) ?_
  refine r_goto eX4_lot_110 ?_
  refine r_iload eX4_lot_57 rfl ?_
  refine n_if_le eX4_lot_59 (by decide) (fun hc59 => ?_) (fun hc59 => absurd hc59 (by decide))
  refine r_iload_n eX4_lot_113 rfl rfl ?_
  refine n_if_ne eX4_lot_114 (by decide) (fun hc114 => absurd hc114 (by decide)) (fun hc114 => ?_)
  refine r_iload eX4_lot_117 rfl ?_
  refine r_goto eX4_lot_119 ?_
  exact z_iret eX4_lot_124 rfl rfl ⟨_, rfl, rfl, rfl⟩
set_option maxHeartbeats 1000000 in
set_option maxRecDepth 100000 in
theorem s4_lot_3_1 {t : zMod} {u : zCls} : Mi mX4_lot 60 [.ref 0, .int (nI (3)), .int (nI (1)), .int (nI (1))] (hA t u) (fun r h' => r = nI 6 ∧ h' = hA t u) := by
  refine Mi.of (by decide) rfl (Nat.le_of_ble_eq_true rfl) ?_
  refine r_iload_n eX4_lot_0 rfl rfl ?_
  refine n_iconst 1 eX4_lot_1 rfl ?_
  refine n_bipush 9 eX4_lot_2 rfl ?_
  refine r_callSi3 eX4_lot_4 lX4_44 (s4_within_k (by decide) (by decide)) (by omega) (Nat.le_of_ble_eq_true rfl) (fun r1 h1 hq => ?_)
  obtain ⟨rfl, rfl⟩ := hq
  refine r_istore eX4_lot_7 (by decide) ?_
  refine r_iload eX4_lot_9 rfl ?_
  refine n_if_ne eX4_lot_11 (by decide) (fun hc11 => absurd hc11 (by decide)) (fun hc11 => ?_)
  refine r_iload_n eX4_lot_14 rfl rfl ?_
  refine n_iconst 2 eX4_lot_15 rfl ?_
  refine r_callSi2 eX4_lot_16 lX4_40 (s4_isIn_y (by decide) (by decide)) (by omega) (Nat.le_of_ble_eq_true rfl) (fun r1 h1 hq => ?_)
  obtain ⟨rfl, rfl⟩ := hq
  refine n_if_eq eX4_lot_19 (by decide) (fun hc19 => absurd hc19 (by decide)) (fun hc19 => ?_)
  refine r_iload_n eX4_lot_22 rfl rfl ?_
  refine n_iconst 2 eX4_lot_23 rfl ?_
  refine r_callSi2 eX4_lot_24 lX4_40 (s4_isIn_y (by decide) (by decide)) (by omega) (Nat.le_of_ble_eq_true rfl) (fun r1 h1 hq => ?_)
  obtain ⟨rfl, rfl⟩ := hq
  refine n_if_ne eX4_lot_27 (by decide) (fun hc27 => ?_) (fun hc27 => absurd hc27 (by decide))
  refine r_iload eX4_lot_34 rfl ?_
  refine n_if_eq eX4_lot_36 (by decide) (fun hc36 => ?_) (fun hc36 => absurd hc36 (by decide))
  refine n_iconst 1 eX4_lot_46 rfl ?_
  refine r_istore eX4_lot_47 (by decide) ?_
  refine r_iload_n eX4_lot_49 rfl rfl ?_
  refine r_istore eX4_lot_50 (by decide) ?_
  refine r_iload_n eX4_lot_52 rfl rfl ?_
  refine n_iconst 1 eX4_lot_53 rfl ?_
  refine n_sub eX4_lot_54 (by decide) ?_
  refine z_top (y := nI 2) (by decide +kernel) ?_
  refine r_istore eX4_lot_55 (by decide) ?_
  refine r_iload eX4_lot_57 rfl ?_
  refine n_if_le eX4_lot_59 (by decide) (fun hc59 => absurd hc59 (by decide)) (fun hc59 => ?_)
  refine r_iload_n eX4_lot_62 rfl rfl ?_
  refine n_iconst 1 eX4_lot_63 rfl ?_
  refine n_icmp_ne eX4_lot_64 (by decide) (by decide) (fun hc64 => absurd hc64 (by decide)) (fun hc64 => ?_)
  refine r_iload eX4_lot_67 rfl ?_
  refine r_iload eX4_lot_69 rfl ?_
  refine n_mul eX4_lot_71 ?_
  refine z_top (y := nI 2) (by decide +kernel) ?_
  refine r_iload eX4_lot_72 rfl ?_
  refine n_add eX4_lot_74 ?_
  refine z_top (y := nI 5) (by decide +kernel) ?_
  refine r_istore eX4_lot_75 (by decide) ?_
  refine r_iload eX4_lot_77 rfl ?_
  refine r_iload eX4_lot_79 rfl ?_
  refine n_mul eX4_lot_81 ?_
  refine z_top (y := nI 6) (by decide +kernel) ?_
  refine r_istore eX4_lot_82 (by decide) ?_
  refine r_iload eX4_lot_84 rfl ?_
  refine r_iload eX4_lot_86 rfl ?_
  refine r_callSi2 eX4_lot_88 lX4_192 (s4_common 20 5 6 (by decide) (by decide) (by decide)) (by omega) (Nat.le_of_ble_eq_true rfl) (fun r1 h1 hq => ?_)
  obtain ⟨hq1, rfl⟩ := hq
  obtain rfl : r1 = nI (1) := by rw [hq1]; decide +kernel
  refine r_istore eX4_lot_91 (by decide) ?_
  refine r_iload eX4_lot_93 rfl ?_
  refine r_iload eX4_lot_95 rfl ?_
  refine n_div eX4_lot_97 (by decide) (by decide) (by decide) ?_
  refine z_top (y := nI 5) (by decide +kernel) ?_
  refine r_istore eX4_lot_98 (by decide) ?_
  refine r_iload eX4_lot_100 rfl ?_
  refine r_iload eX4_lot_102 rfl ?_
  refine n_div eX4_lot_104 (by decide) (by decide) (by decide) ?_
  refine z_top (y := nI 6) (by decide +kernel) ?_
  refine r_istore eX4_lot_105 (by decide) ?_
  refine n_dec (a := 1) eX4_lot_107 rfl (by decide) ?_
  refine r_goto eX4_lot_110 ?_
  refine r_iload eX4_lot_57 rfl ?_
  refine n_if_le eX4_lot_59 (by decide) (fun hc59 => absurd hc59 (by decide)) (fun hc59 => ?_)
  refine r_iload_n eX4_lot_62 rfl rfl ?_
  refine n_iconst 1 eX4_lot_63 rfl ?_
  refine n_icmp_ne eX4_lot_64 (by decide) (by decide) (fun hc64 => absurd hc64 (by decide)) (fun hc64 => ?_)
  refine r_iload eX4_lot_67 rfl ?_
  refine r_iload eX4_lot_69 rfl ?_
  refine n_mul eX4_lot_71 ?_
  refine z_top (y := nI 5) (by decide +kernel) ?_
  refine r_iload eX4_lot_72 rfl ?_
  refine n_add eX4_lot_74 ?_
  refine z_top (y := nI 11) (by decide +kernel) ?_
  refine r_istore eX4_lot_75 (by decide) ?_
  refine r_iload eX4_lot_77 rfl ?_
  refine r_iload eX4_lot_79 rfl ?_
  refine n_mul eX4_lot_81 ?_
  refine z_top (y := nI 6) (by decide +kernel) ?_
  refine r_istore eX4_lot_82 (by decide) ?_
  refine r_iload eX4_lot_84 rfl ?_
  refine r_iload eX4_lot_86 rfl ?_
  refine r_callSi2 eX4_lot_88 lX4_192 (s4_common 20 11 6 (by decide) (by decide) (by decide)) (by omega) (Nat.le_of_ble_eq_true rfl) (fun r1 h1 hq => ?_)
  obtain ⟨hq1, rfl⟩ := hq
  obtain rfl : r1 = nI (1) := by rw [hq1]; decide +kernel
  refine r_istore eX4_lot_91 (by decide) ?_
  refine r_iload eX4_lot_93 rfl ?_
  refine r_iload eX4_lot_95 rfl ?_
  refine n_div eX4_lot_97 (by decide) (by decide) (by decide) ?_
  refine z_top (y := nI 11) (by decide +kernel) ?_
  refine r_istore eX4_lot_98 (by decide) ?_
  refine r_iload eX4_lot_100 rfl ?_
  refine r_iload eX4_lot_102 rfl ?_
  refine n_div eX4_lot_104 (by decide) (by decide) (by decide) ?_
  refine z_top (y := nI 6) (by decide +kernel) ?_
  refine r_istore eX4_lot_105 (by decide) ?_
  refine n_dec (a := 0) eX4_lot_107 rfl (by decide) ?_
  refine r_goto eX4_lot_110 ?_
  refine r_iload eX4_lot_57 rfl ?_
  refine n_if_le eX4_lot_59 (by decide) (fun hc59 => ?_) (fun hc59 => absurd hc59 (by decide))
  refine r_iload_n eX4_lot_113 rfl rfl ?_
  refine n_if_ne eX4_lot_114 (by decide) (fun hc114 => ?_) (fun hc114 => absurd hc114 (by decide))
  refine r_iload eX4_lot_122 rfl ?_
  exact z_iret eX4_lot_124 rfl rfl ⟨_, rfl, rfl, rfl⟩
set_option maxHeartbeats 1000000 in
set_option maxRecDepth 100000 in
theorem s4_lot_4_0 {t : zMod} {u : zCls} : Mi mX4_lot 60 [.ref 0, .int (nI (4)), .int (nI (1)), .int (nI (0))] (hA t u) (fun r h' => r = nI 25 ∧ h' = hA t u) := by
  refine Mi.of (by decide) rfl (Nat.le_of_ble_eq_true rfl) ?_
  refine r_iload_n eX4_lot_0 rfl rfl ?_
  refine n_iconst 1 eX4_lot_1 rfl ?_
  refine n_bipush 9 eX4_lot_2 rfl ?_
  refine r_callSi3 eX4_lot_4 lX4_44 (s4_within_k (by decide) (by decide)) (by omega) (Nat.le_of_ble_eq_true rfl) (fun r1 h1 hq => ?_)
  obtain ⟨rfl, rfl⟩ := hq
  refine r_istore eX4_lot_7 (by decide) ?_
  refine r_iload eX4_lot_9 rfl ?_
  refine n_if_ne eX4_lot_11 (by decide) (fun hc11 => absurd hc11 (by decide)) (fun hc11 => ?_)
  refine r_iload_n eX4_lot_14 rfl rfl ?_
  refine n_iconst 2 eX4_lot_15 rfl ?_
  refine r_callSi2 eX4_lot_16 lX4_40 (s4_isIn_y (by decide) (by decide)) (by omega) (Nat.le_of_ble_eq_true rfl) (fun r1 h1 hq => ?_)
  obtain ⟨rfl, rfl⟩ := hq
  refine n_if_eq eX4_lot_19 (by decide) (fun hc19 => absurd hc19 (by decide)) (fun hc19 => ?_)
  refine r_iload_n eX4_lot_22 rfl rfl ?_
  refine n_iconst 2 eX4_lot_23 rfl ?_
  refine r_callSi2 eX4_lot_24 lX4_40 (s4_isIn_y (by decide) (by decide)) (by omega) (Nat.le_of_ble_eq_true rfl) (fun r1 h1 hq => ?_)
  obtain ⟨rfl, rfl⟩ := hq
  refine n_if_ne eX4_lot_27 (by decide) (fun hc27 => ?_) (fun hc27 => absurd hc27 (by decide))
  refine r_iload eX4_lot_34 rfl ?_
  refine n_if_eq eX4_lot_36 (by decide) (fun hc36 => ?_) (fun hc36 => absurd hc36 (by decide))
  refine n_iconst 1 eX4_lot_46 rfl ?_
  refine r_istore eX4_lot_47 (by decide) ?_
  refine r_iload_n eX4_lot_49 rfl rfl ?_
  refine r_istore eX4_lot_50 (by decide) ?_
  refine r_iload_n eX4_lot_52 rfl rfl ?_
  refine n_iconst 1 eX4_lot_53 rfl ?_
  refine n_sub eX4_lot_54 (by decide) ?_
  refine z_top (y := nI 3) (by decide +kernel) ?_
  refine r_istore eX4_lot_55 (by decide) ?_
  refine r_iload eX4_lot_57 rfl ?_
  refine n_if_le eX4_lot_59 (by decide) (fun hc59 => absurd hc59 (by decide)) (fun hc59 => ?_)
  refine r_iload_n eX4_lot_62 rfl rfl ?_
  refine n_iconst 1 eX4_lot_63 rfl ?_
  refine n_icmp_ne eX4_lot_64 (by decide) (by decide) (fun hc64 => absurd hc64 (by decide)) (fun hc64 => ?_)
  refine r_iload eX4_lot_67 rfl ?_
  refine r_iload eX4_lot_69 rfl ?_
  refine n_mul eX4_lot_71 ?_
  refine z_top (y := nI 3) (by decide +kernel) ?_
  refine r_iload eX4_lot_72 rfl ?_
  refine n_add eX4_lot_74 ?_
  refine z_top (y := nI 7) (by decide +kernel) ?_
  refine r_istore eX4_lot_75 (by decide) ?_
  refine r_iload eX4_lot_77 rfl ?_
  refine r_iload eX4_lot_79 rfl ?_
  refine n_mul eX4_lot_81 ?_
  refine z_top (y := nI 12) (by decide +kernel) ?_
  refine r_istore eX4_lot_82 (by decide) ?_
  refine r_iload eX4_lot_84 rfl ?_
  refine r_iload eX4_lot_86 rfl ?_
  refine r_callSi2 eX4_lot_88 lX4_192 (s4_common 20 7 12 (by decide) (by decide) (by decide)) (by omega) (Nat.le_of_ble_eq_true rfl) (fun r1 h1 hq => ?_)
  obtain ⟨hq1, rfl⟩ := hq
  obtain rfl : r1 = nI (1) := by rw [hq1]; decide +kernel
  refine r_istore eX4_lot_91 (by decide) ?_
  refine r_iload eX4_lot_93 rfl ?_
  refine r_iload eX4_lot_95 rfl ?_
  refine n_div eX4_lot_97 (by decide) (by decide) (by decide) ?_
  refine z_top (y := nI 7) (by decide +kernel) ?_
  refine r_istore eX4_lot_98 (by decide) ?_
  refine r_iload eX4_lot_100 rfl ?_
  refine r_iload eX4_lot_102 rfl ?_
  refine n_div eX4_lot_104 (by decide) (by decide) (by decide) ?_
  refine z_top (y := nI 12) (by decide +kernel) ?_
  refine r_istore eX4_lot_105 (by decide) ?_
  refine n_dec (a := 2) eX4_lot_107 rfl (by decide) ?_
  refine r_goto eX4_lot_110 ?_
  refine r_iload eX4_lot_57 rfl ?_
  refine n_if_le eX4_lot_59 (by decide) (fun hc59 => absurd hc59 (by decide)) (fun hc59 => ?_)
  refine r_iload_n eX4_lot_62 rfl rfl ?_
  refine n_iconst 1 eX4_lot_63 rfl ?_
  refine n_icmp_ne eX4_lot_64 (by decide) (by decide) (fun hc64 => absurd hc64 (by decide)) (fun hc64 => ?_)
  refine r_iload eX4_lot_67 rfl ?_
  refine r_iload eX4_lot_69 rfl ?_
  refine n_mul eX4_lot_71 ?_
  refine z_top (y := nI 14) (by decide +kernel) ?_
  refine r_iload eX4_lot_72 rfl ?_
  refine n_add eX4_lot_74 ?_
  refine z_top (y := nI 26) (by decide +kernel) ?_
  refine r_istore eX4_lot_75 (by decide) ?_
  refine r_iload eX4_lot_77 rfl ?_
  refine r_iload eX4_lot_79 rfl ?_
  refine n_mul eX4_lot_81 ?_
  refine z_top (y := nI 24) (by decide +kernel) ?_
  refine r_istore eX4_lot_82 (by decide) ?_
  refine r_iload eX4_lot_84 rfl ?_
  refine r_iload eX4_lot_86 rfl ?_
  refine r_callSi2 eX4_lot_88 lX4_192 (s4_common 20 26 24 (by decide) (by decide) (by decide)) (by omega) (Nat.le_of_ble_eq_true rfl) (fun r1 h1 hq => ?_)
  obtain ⟨hq1, rfl⟩ := hq
  obtain rfl : r1 = nI (2) := by rw [hq1]; decide +kernel
  refine r_istore eX4_lot_91 (by decide) ?_
  refine r_iload eX4_lot_93 rfl ?_
  refine r_iload eX4_lot_95 rfl ?_
  refine n_div eX4_lot_97 (by decide) (by decide) (by decide) ?_
  refine z_top (y := nI 13) (by decide +kernel) ?_
  refine r_istore eX4_lot_98 (by decide) ?_
  refine r_iload eX4_lot_100 rfl ?_
  refine r_iload eX4_lot_102 rfl ?_
  refine n_div eX4_lot_104 (by decide) (by decide) (by decide) ?_
  refine z_top (y := nI 12) (by decide +kernel) ?_
  refine r_istore eX4_lot_105 (by decide) ?_
  refine n_dec (a := 1) eX4_lot_107 rfl (by decide) ?_
  refine r_goto eX4_lot_110 ?_
  refine r_iload eX4_lot_57 rfl ?_
  refine n_if_le eX4_lot_59 (by decide) (fun hc59 => absurd hc59 (by decide)) (fun hc59 => ?_)
  refine r_iload_n eX4_lot_62 rfl rfl ?_
  refine n_iconst 1 eX4_lot_63 rfl ?_
  refine n_icmp_ne eX4_lot_64 (by decide) (by decide) (fun hc64 => absurd hc64 (by decide)) (fun hc64 => ?_)
  refine r_iload eX4_lot_67 rfl ?_
  refine r_iload eX4_lot_69 rfl ?_
  refine n_mul eX4_lot_71 ?_
  refine z_top (y := nI 13) (by decide +kernel) ?_
  refine r_iload eX4_lot_72 rfl ?_
  refine n_add eX4_lot_74 ?_
  refine z_top (y := nI 25) (by decide +kernel) ?_
  refine r_istore eX4_lot_75 (by decide) ?_
  refine r_iload eX4_lot_77 rfl ?_
  refine r_iload eX4_lot_79 rfl ?_
  refine n_mul eX4_lot_81 ?_
  refine z_top (y := nI 12) (by decide +kernel) ?_
  refine r_istore eX4_lot_82 (by decide) ?_
  refine r_iload eX4_lot_84 rfl ?_
  refine r_iload eX4_lot_86 rfl ?_
  refine r_callSi2 eX4_lot_88 lX4_192 (s4_common 20 25 12 (by decide) (by decide) (by decide)) (by omega) (Nat.le_of_ble_eq_true rfl) (fun r1 h1 hq => ?_)
  obtain ⟨hq1, rfl⟩ := hq
  obtain rfl : r1 = nI (1) := by rw [hq1]; decide +kernel
  refine r_istore eX4_lot_91 (by decide) ?_
  refine r_iload eX4_lot_93 rfl ?_
  refine r_iload eX4_lot_95 rfl ?_
  refine n_div eX4_lot_97 (by decide) (by decide) (by decide) ?_
  refine z_top (y := nI 25) (by decide +kernel) ?_
  refine r_istore eX4_lot_98 (by decide) ?_
  refine r_iload eX4_lot_100 rfl ?_
  refine r_iload eX4_lot_102 rfl ?_
  refine n_div eX4_lot_104 (by decide) (by decide) (by decide) ?_
  refine z_top (y := nI 12) (by decide +kernel) ?_
  refine r_istore eX4_lot_105 (by decide) ?_
  refine n_dec (a := 0) eX4_lot_107 rfl (by decide) ?_
  refine r_goto eX4_lot_110 ?_
  refine r_iload eX4_lot_57 rfl ?_
  refine n_if_le eX4_lot_59 (by decide) (fun hc59 => ?_) (fun hc59 => absurd hc59 (by decide))
  refine r_iload_n eX4_lot_113 rfl rfl ?_
  refine n_if_ne eX4_lot_114 (by decide) (fun hc114 => absurd hc114 (by decide)) (fun hc114 => ?_)
  refine r_iload eX4_lot_117 rfl ?_
  refine r_goto eX4_lot_119 ?_
  exact z_iret eX4_lot_124 rfl rfl ⟨_, rfl, rfl, rfl⟩
set_option maxHeartbeats 1000000 in
set_option maxRecDepth 100000 in
theorem s4_lot_4_1 {t : zMod} {u : zCls} : Mi mX4_lot 60 [.ref 0, .int (nI (4)), .int (nI (1)), .int (nI (1))] (hA t u) (fun r h' => r = nI 12 ∧ h' = hA t u) := by
  refine Mi.of (by decide) rfl (Nat.le_of_ble_eq_true rfl) ?_
  refine r_iload_n eX4_lot_0 rfl rfl ?_
  refine n_iconst 1 eX4_lot_1 rfl ?_
  refine n_bipush 9 eX4_lot_2 rfl ?_
  refine r_callSi3 eX4_lot_4 lX4_44 (s4_within_k (by decide) (by decide)) (by omega) (Nat.le_of_ble_eq_true rfl) (fun r1 h1 hq => ?_)
  obtain ⟨rfl, rfl⟩ := hq
  refine r_istore eX4_lot_7 (by decide) ?_
  refine r_iload eX4_lot_9 rfl ?_
  refine n_if_ne eX4_lot_11 (by decide) (fun hc11 => absurd hc11 (by decide)) (fun hc11 => ?_)
  refine r_iload_n eX4_lot_14 rfl rfl ?_
  refine n_iconst 2 eX4_lot_15 rfl ?_
  refine r_callSi2 eX4_lot_16 lX4_40 (s4_isIn_y (by decide) (by decide)) (by omega) (Nat.le_of_ble_eq_true rfl) (fun r1 h1 hq => ?_)
  obtain ⟨rfl, rfl⟩ := hq
  refine n_if_eq eX4_lot_19 (by decide) (fun hc19 => absurd hc19 (by decide)) (fun hc19 => ?_)
  refine r_iload_n eX4_lot_22 rfl rfl ?_
  refine n_iconst 2 eX4_lot_23 rfl ?_
  refine r_callSi2 eX4_lot_24 lX4_40 (s4_isIn_y (by decide) (by decide)) (by omega) (Nat.le_of_ble_eq_true rfl) (fun r1 h1 hq => ?_)
  obtain ⟨rfl, rfl⟩ := hq
  refine n_if_ne eX4_lot_27 (by decide) (fun hc27 => ?_) (fun hc27 => absurd hc27 (by decide))
  refine r_iload eX4_lot_34 rfl ?_
  refine n_if_eq eX4_lot_36 (by decide) (fun hc36 => ?_) (fun hc36 => absurd hc36 (by decide))
  refine n_iconst 1 eX4_lot_46 rfl ?_
  refine r_istore eX4_lot_47 (by decide) ?_
  refine r_iload_n eX4_lot_49 rfl rfl ?_
  refine r_istore eX4_lot_50 (by decide) ?_
  refine r_iload_n eX4_lot_52 rfl rfl ?_
  refine n_iconst 1 eX4_lot_53 rfl ?_
  refine n_sub eX4_lot_54 (by decide) ?_
  refine z_top (y := nI 3) (by decide +kernel) ?_
  refine r_istore eX4_lot_55 (by decide) ?_
  refine r_iload eX4_lot_57 rfl ?_
  refine n_if_le eX4_lot_59 (by decide) (fun hc59 => absurd hc59 (by decide)) (fun hc59 => ?_)
  refine r_iload_n eX4_lot_62 rfl rfl ?_
  refine n_iconst 1 eX4_lot_63 rfl ?_
  refine n_icmp_ne eX4_lot_64 (by decide) (by decide) (fun hc64 => absurd hc64 (by decide)) (fun hc64 => ?_)
  refine r_iload eX4_lot_67 rfl ?_
  refine r_iload eX4_lot_69 rfl ?_
  refine n_mul eX4_lot_71 ?_
  refine z_top (y := nI 3) (by decide +kernel) ?_
  refine r_iload eX4_lot_72 rfl ?_
  refine n_add eX4_lot_74 ?_
  refine z_top (y := nI 7) (by decide +kernel) ?_
  refine r_istore eX4_lot_75 (by decide) ?_
  refine r_iload eX4_lot_77 rfl ?_
  refine r_iload eX4_lot_79 rfl ?_
  refine n_mul eX4_lot_81 ?_
  refine z_top (y := nI 12) (by decide +kernel) ?_
  refine r_istore eX4_lot_82 (by decide) ?_
  refine r_iload eX4_lot_84 rfl ?_
  refine r_iload eX4_lot_86 rfl ?_
  refine r_callSi2 eX4_lot_88 lX4_192 (s4_common 20 7 12 (by decide) (by decide) (by decide)) (by omega) (Nat.le_of_ble_eq_true rfl) (fun r1 h1 hq => ?_)
  obtain ⟨hq1, rfl⟩ := hq
  obtain rfl : r1 = nI (1) := by rw [hq1]; decide +kernel
  refine r_istore eX4_lot_91 (by decide) ?_
  refine r_iload eX4_lot_93 rfl ?_
  refine r_iload eX4_lot_95 rfl ?_
  refine n_div eX4_lot_97 (by decide) (by decide) (by decide) ?_
  refine z_top (y := nI 7) (by decide +kernel) ?_
  refine r_istore eX4_lot_98 (by decide) ?_
  refine r_iload eX4_lot_100 rfl ?_
  refine r_iload eX4_lot_102 rfl ?_
  refine n_div eX4_lot_104 (by decide) (by decide) (by decide) ?_
  refine z_top (y := nI 12) (by decide +kernel) ?_
  refine r_istore eX4_lot_105 (by decide) ?_
  refine n_dec (a := 2) eX4_lot_107 rfl (by decide) ?_
  refine r_goto eX4_lot_110 ?_
  refine r_iload eX4_lot_57 rfl ?_
  refine n_if_le eX4_lot_59 (by decide) (fun hc59 => absurd hc59 (by decide)) (fun hc59 => ?_)
  refine r_iload_n eX4_lot_62 rfl rfl ?_
  refine n_iconst 1 eX4_lot_63 rfl ?_
  refine n_icmp_ne eX4_lot_64 (by decide) (by decide) (fun hc64 => absurd hc64 (by decide)) (fun hc64 => ?_)
  refine r_iload eX4_lot_67 rfl ?_
  refine r_iload eX4_lot_69 rfl ?_
  refine n_mul eX4_lot_71 ?_
  refine z_top (y := nI 14) (by decide +kernel) ?_
  refine r_iload eX4_lot_72 rfl ?_
  refine n_add eX4_lot_74 ?_
  refine z_top (y := nI 26) (by decide +kernel) ?_
  refine r_istore eX4_lot_75 (by decide) ?_
  refine r_iload eX4_lot_77 rfl ?_
  refine r_iload eX4_lot_79 rfl ?_
  refine n_mul eX4_lot_81 ?_
  refine z_top (y := nI 24) (by decide +kernel) ?_
  refine r_istore eX4_lot_82 (by decide) ?_
  refine r_iload eX4_lot_84 rfl ?_
  refine r_iload eX4_lot_86 rfl ?_
  refine r_callSi2 eX4_lot_88 lX4_192 (s4_common 20 26 24 (by decide) (by decide) (by decide)) (by omega) (Nat.le_of_ble_eq_true rfl) (fun r1 h1 hq => ?_)
  obtain ⟨hq1, rfl⟩ := hq
  obtain rfl : r1 = nI (2) := by rw [hq1]; decide +kernel
  refine r_istore eX4_lot_91 (by decide) ?_
  refine r_iload eX4_lot_93 rfl ?_
  refine r_iload eX4_lot_95 rfl ?_
  refine n_div eX4_lot_97 (by decide) (by decide) (by decide) ?_
  refine z_top (y := nI 13) (by decide +kernel) ?_
  refine r_istore eX4_lot_98 (by decide) ?_
  refine r_iload eX4_lot_100 rfl ?_
  refine r_iload eX4_lot_102 rfl ?_
  refine n_div eX4_lot_104 (by decide) (by decide) (by decide) ?_
  refine z_top (y := nI 12) (by decide +kernel) ?_
  refine r_istore eX4_lot_105 (by decide) ?_
  refine n_dec (a := 1) eX4_lot_107 rfl (by decide) ?_
  refine r_goto eX4_lot_110 ?_
  refine r_iload eX4_lot_57 rfl ?_
  refine n_if_le eX4_lot_59 (by decide) (fun hc59 => absurd hc59 (by decide)) (fun hc59 => ?_)
  refine r_iload_n eX4_lot_62 rfl rfl ?_
  refine n_iconst 1 eX4_lot_63 rfl ?_
  refine n_icmp_ne eX4_lot_64 (by decide) (by decide) (fun hc64 => absurd hc64 (by decide)) (fun hc64 => ?_)
  refine r_iload eX4_lot_67 rfl ?_
  refine r_iload eX4_lot_69 rfl ?_
  refine n_mul eX4_lot_71 ?_
  refine z_top (y := nI 13) (by decide +kernel) ?_
  refine r_iload eX4_lot_72 rfl ?_
  refine n_add eX4_lot_74 ?_
  refine z_top (y := nI 25) (by decide +kernel) ?_
  refine r_istore eX4_lot_75 (by decide) ?_
  refine r_iload eX4_lot_77 rfl ?_
  refine r_iload eX4_lot_79 rfl ?_
  refine n_mul eX4_lot_81 ?_
  refine z_top (y := nI 12) (by decide +kernel) ?_
  refine r_istore eX4_lot_82 (by decide) ?_
  refine r_iload eX4_lot_84 rfl ?_
  refine r_iload eX4_lot_86 rfl ?_
  refine r_callSi2 eX4_lot_88 lX4_192 (s4_common 20 25 12 (by decide) (by decide) (by decide)) (by omega) (Nat.le_of_ble_eq_true rfl) (fun r1 h1 hq => ?_)
  obtain ⟨hq1, rfl⟩ := hq
  obtain rfl : r1 = nI (1) := by rw [hq1]; decide +kernel
  refine r_istore eX4_lot_91 (by decide) ?_
  refine r_iload eX4_lot_93 rfl ?_
  refine r_iload eX4_lot_95 rfl ?_
  refine n_div eX4_lot_97 (by decide) (by decide) (by decide) ?_
  refine z_top (y := nI 25) (by decide +kernel) ?_
  refine r_istore eX4_lot_98 (by decide) ?_
  refine r_iload eX4_lot_100 rfl ?_
  refine r_iload eX4_lot_102 rfl ?_
  refine n_div eX4_lot_104 (by decide) (by decide) (by decide) ?_
  refine z_top (y := nI 12) (by decide +kernel) ?_
  refine r_istore eX4_lot_105 (by decide) ?_
  refine n_dec (a := 0) eX4_lot_107 rfl (by decide) ?_
  refine r_goto eX4_lot_110 ?_
  refine r_iload eX4_lot_57 rfl ?_
  refine n_if_le eX4_lot_59 (by decide) (fun hc59 => ?_) (fun hc59 => absurd hc59 (by decide))
  refine r_iload_n eX4_lot_113 rfl rfl ?_
  refine n_if_ne eX4_lot_114 (by decide) (fun hc114 => ?_) (fun hc114 => absurd hc114 (by decide))
  refine r_iload eX4_lot_122 rfl ?_
  exact z_iret eX4_lot_124 rfl rfl ⟨_, rfl, rfl, rfl⟩
set_option maxHeartbeats 1000000 in
set_option maxRecDepth 100000 in
theorem s4_lot_5_0 {t : zMod} {u : zCls} : Mi mX4_lot 60 [.ref 0, .int (nI (5)), .int (nI (1)), .int (nI (0))] (hA t u) (fun r h' => r = nI 137 ∧ h' = hA t u) := by
  refine Mi.of (by decide) rfl (Nat.le_of_ble_eq_true rfl) ?_
  refine r_iload_n eX4_lot_0 rfl rfl ?_
  refine n_iconst 1 eX4_lot_1 rfl ?_
  refine n_bipush 9 eX4_lot_2 rfl ?_
  refine r_callSi3 eX4_lot_4 lX4_44 (s4_within_k (by decide) (by decide)) (by omega) (Nat.le_of_ble_eq_true rfl) (fun r1 h1 hq => ?_)
  obtain ⟨rfl, rfl⟩ := hq
  refine r_istore eX4_lot_7 (by decide) ?_
  refine r_iload eX4_lot_9 rfl ?_
  refine n_if_ne eX4_lot_11 (by decide) (fun hc11 => absurd hc11 (by decide)) (fun hc11 => ?_)
  refine r_iload_n eX4_lot_14 rfl rfl ?_
  refine n_iconst 2 eX4_lot_15 rfl ?_
  refine r_callSi2 eX4_lot_16 lX4_40 (s4_isIn_y (by decide) (by decide)) (by omega) (Nat.le_of_ble_eq_true rfl) (fun r1 h1 hq => ?_)
  obtain ⟨rfl, rfl⟩ := hq
  refine n_if_eq eX4_lot_19 (by decide) (fun hc19 => absurd hc19 (by decide)) (fun hc19 => ?_)
  refine r_iload_n eX4_lot_22 rfl rfl ?_
  refine n_iconst 2 eX4_lot_23 rfl ?_
  refine r_callSi2 eX4_lot_24 lX4_40 (s4_isIn_y (by decide) (by decide)) (by omega) (Nat.le_of_ble_eq_true rfl) (fun r1 h1 hq => ?_)
  obtain ⟨rfl, rfl⟩ := hq
  refine n_if_ne eX4_lot_27 (by decide) (fun hc27 => ?_) (fun hc27 => absurd hc27 (by decide))
  refine r_iload eX4_lot_34 rfl ?_
  refine n_if_eq eX4_lot_36 (by decide) (fun hc36 => ?_) (fun hc36 => absurd hc36 (by decide))
  refine n_iconst 1 eX4_lot_46 rfl ?_
  refine r_istore eX4_lot_47 (by decide) ?_
  refine r_iload_n eX4_lot_49 rfl rfl ?_
  refine r_istore eX4_lot_50 (by decide) ?_
  refine r_iload_n eX4_lot_52 rfl rfl ?_
  refine n_iconst 1 eX4_lot_53 rfl ?_
  refine n_sub eX4_lot_54 (by decide) ?_
  refine z_top (y := nI 4) (by decide +kernel) ?_
  refine r_istore eX4_lot_55 (by decide) ?_
  refine r_iload eX4_lot_57 rfl ?_
  refine n_if_le eX4_lot_59 (by decide) (fun hc59 => absurd hc59 (by decide)) (fun hc59 => ?_)
  refine r_iload_n eX4_lot_62 rfl rfl ?_
  refine n_iconst 1 eX4_lot_63 rfl ?_
  refine n_icmp_ne eX4_lot_64 (by decide) (by decide) (fun hc64 => absurd hc64 (by decide)) (fun hc64 => ?_)
  refine r_iload eX4_lot_67 rfl ?_
  refine r_iload eX4_lot_69 rfl ?_
  refine n_mul eX4_lot_71 ?_
  refine z_top (y := nI 4) (by decide +kernel) ?_
  refine r_iload eX4_lot_72 rfl ?_
  refine n_add eX4_lot_74 ?_
  refine z_top (y := nI 9) (by decide +kernel) ?_
  refine r_istore eX4_lot_75 (by decide) ?_
  refine r_iload eX4_lot_77 rfl ?_
  refine r_iload eX4_lot_79 rfl ?_
  refine n_mul eX4_lot_81 ?_
  refine z_top (y := nI 20) (by decide +kernel) ?_
  refine r_istore eX4_lot_82 (by decide) ?_
  refine r_iload eX4_lot_84 rfl ?_
  refine r_iload eX4_lot_86 rfl ?_
  refine r_callSi2 eX4_lot_88 lX4_192 (s4_common 20 9 20 (by decide) (by decide) (by decide)) (by omega) (Nat.le_of_ble_eq_true rfl) (fun r1 h1 hq => ?_)
  obtain ⟨hq1, rfl⟩ := hq
  obtain rfl : r1 = nI (1) := by rw [hq1]; decide +kernel
  refine r_istore eX4_lot_91 (by decide) ?_
  refine r_iload eX4_lot_93 rfl ?_
  refine r_iload eX4_lot_95 rfl ?_
  refine n_div eX4_lot_97 (by decide) (by decide) (by decide) ?_
  refine z_top (y := nI 9) (by decide +kernel) ?_
  refine r_istore eX4_lot_98 (by decide) ?_
  refine r_iload eX4_lot_100 rfl ?_
  refine r_iload eX4_lot_102 rfl ?_
  refine n_div eX4_lot_104 (by decide) (by decide) (by decide) ?_
  refine z_top (y := nI 20) (by decide +kernel) ?_
  refine r_istore eX4_lot_105 (by decide) ?_
  refine n_dec (a := 3) eX4_lot_107 rfl (by decide) ?_
  refine r_goto eX4_lot_110 ?_
  refine r_iload eX4_lot_57 rfl ?_
  refine n_if_le eX4_lot_59 (by decide) (fun hc59 => absurd hc59 (by decide)) (fun hc59 => ?_)
  refine r_iload_n eX4_lot_62 rfl rfl ?_
  refine n_iconst 1 eX4_lot_63 rfl ?_
  refine n_icmp_ne eX4_lot_64 (by decide) (by decide) (fun hc64 => absurd hc64 (by decide)) (fun hc64 => ?_)
  refine r_iload eX4_lot_67 rfl ?_
  refine r_iload eX4_lot_69 rfl ?_
  refine n_mul eX4_lot_71 ?_
  refine z_top (y := nI 27) (by decide +kernel) ?_
  refine r_iload eX4_lot_72 rfl ?_
  refine n_add eX4_lot_74 ?_
  refine z_top (y := nI 47) (by decide +kernel) ?_
  refine r_istore eX4_lot_75 (by decide) ?_
  refine r_iload eX4_lot_77 rfl ?_
  refine r_iload eX4_lot_79 rfl ?_
  refine n_mul eX4_lot_81 ?_
  refine z_top (y := nI 60) (by decide +kernel) ?_
  refine r_istore eX4_lot_82 (by decide) ?_
  refine r_iload eX4_lot_84 rfl ?_
  refine r_iload eX4_lot_86 rfl ?_
  refine r_callSi2 eX4_lot_88 lX4_192 (s4_common 20 47 60 (by decide) (by decide) (by decide)) (by omega) (Nat.le_of_ble_eq_true rfl) (fun r1 h1 hq => ?_)
  obtain ⟨hq1, rfl⟩ := hq
  obtain rfl : r1 = nI (1) := by rw [hq1]; decide +kernel
  refine r_istore eX4_lot_91 (by decide) ?_
  refine r_iload eX4_lot_93 rfl ?_
  refine r_iload eX4_lot_95 rfl ?_
  refine n_div eX4_lot_97 (by decide) (by decide) (by decide) ?_
  refine z_top (y := nI 47) (by decide +kernel) ?_
  refine r_istore eX4_lot_98 (by decide) ?_
  refine r_iload eX4_lot_100 rfl ?_
  refine r_iload eX4_lot_102 rfl ?_
  refine n_div eX4_lot_104 (by decide) (by decide) (by decide) ?_
  refine z_top (y := nI 60) (by decide +kernel) ?_
  refine r_istore eX4_lot_105 (by decide) ?_
  refine n_dec (a := 2) eX4_lot_107 rfl (by decide) ?_
  refine r_goto eX4_lot_110 ?_
  refine r_iload eX4_lot_57 rfl ?_
  refine n_if_le eX4_lot_59 (by decide) (fun hc59 => absurd hc59 (by decide)) (fun hc59 => ?_)
  refine r_iload_n eX4_lot_62 rfl rfl ?_
  refine n_iconst 1 eX4_lot_63 rfl ?_
  refine n_icmp_ne eX4_lot_64 (by decide) (by decide) (fun hc64 => absurd hc64 (by decide)) (fun hc64 => ?_)
  refine r_iload eX4_lot_67 rfl ?_
  refine r_iload eX4_lot_69 rfl ?_
  refine n_mul eX4_lot_71 ?_
  refine z_top (y := nI 94) (by decide +kernel) ?_
  refine r_iload eX4_lot_72 rfl ?_
  refine n_add eX4_lot_74 ?_
  refine z_top (y := nI 154) (by decide +kernel) ?_
  refine r_istore eX4_lot_75 (by decide) ?_
  refine r_iload eX4_lot_77 rfl ?_
  refine r_iload eX4_lot_79 rfl ?_
  refine n_mul eX4_lot_81 ?_
  refine z_top (y := nI 120) (by decide +kernel) ?_
  refine r_istore eX4_lot_82 (by decide) ?_
  refine r_iload eX4_lot_84 rfl ?_
  refine r_iload eX4_lot_86 rfl ?_
  refine r_callSi2 eX4_lot_88 lX4_192 (s4_common 20 154 120 (by decide) (by decide) (by decide)) (by omega) (Nat.le_of_ble_eq_true rfl) (fun r1 h1 hq => ?_)
  obtain ⟨hq1, rfl⟩ := hq
  obtain rfl : r1 = nI (2) := by rw [hq1]; decide +kernel
  refine r_istore eX4_lot_91 (by decide) ?_
  refine r_iload eX4_lot_93 rfl ?_
  refine r_iload eX4_lot_95 rfl ?_
  refine n_div eX4_lot_97 (by decide) (by decide) (by decide) ?_
  refine z_top (y := nI 77) (by decide +kernel) ?_
  refine r_istore eX4_lot_98 (by decide) ?_
  refine r_iload eX4_lot_100 rfl ?_
  refine r_iload eX4_lot_102 rfl ?_
  refine n_div eX4_lot_104 (by decide) (by decide) (by decide) ?_
  refine z_top (y := nI 60) (by decide +kernel) ?_
  refine r_istore eX4_lot_105 (by decide) ?_
  refine n_dec (a := 1) eX4_lot_107 rfl (by decide) ?_
  refine r_goto eX4_lot_110 ?_
  refine r_iload eX4_lot_57 rfl ?_
  refine n_if_le eX4_lot_59 (by decide) (fun hc59 => absurd hc59 (by decide)) (fun hc59 => ?_)
  refine r_iload_n eX4_lot_62 rfl rfl ?_
  refine n_iconst 1 eX4_lot_63 rfl ?_
  refine n_icmp_ne eX4_lot_64 (by decide) (by decide) (fun hc64 => absurd hc64 (by decide)) (fun hc64 => ?_)
  refine r_iload eX4_lot_67 rfl ?_
  refine r_iload eX4_lot_69 rfl ?_
  refine n_mul eX4_lot_71 ?_
  refine z_top (y := nI 77) (by decide +kernel) ?_
  refine r_iload eX4_lot_72 rfl ?_
  refine n_add eX4_lot_74 ?_
  refine z_top (y := nI 137) (by decide +kernel) ?_
  refine r_istore eX4_lot_75 (by decide) ?_
  refine r_iload eX4_lot_77 rfl ?_
  refine r_iload eX4_lot_79 rfl ?_
  refine n_mul eX4_lot_81 ?_
  refine z_top (y := nI 60) (by decide +kernel) ?_
  refine r_istore eX4_lot_82 (by decide) ?_
  refine r_iload eX4_lot_84 rfl ?_
  refine r_iload eX4_lot_86 rfl ?_
  refine r_callSi2 eX4_lot_88 lX4_192 (s4_common 20 137 60 (by decide) (by decide) (by decide)) (by omega) (Nat.le_of_ble_eq_true rfl) (fun r1 h1 hq => ?_)
  obtain ⟨hq1, rfl⟩ := hq
  obtain rfl : r1 = nI (1) := by rw [hq1]; decide +kernel
  refine r_istore eX4_lot_91 (by decide) ?_
  refine r_iload eX4_lot_93 rfl ?_
  refine r_iload eX4_lot_95 rfl ?_
  refine n_div eX4_lot_97 (by decide) (by decide) (by decide) ?_
  refine z_top (y := nI 137) (by decide +kernel) ?_
  refine r_istore eX4_lot_98 (by decide) ?_
  refine r_iload eX4_lot_100 rfl ?_
  refine r_iload eX4_lot_102 rfl ?_
  refine n_div eX4_lot_104 (by decide) (by decide) (by decide) ?_
  refine z_top (y := nI 60) (by decide +kernel) ?_
  refine r_istore eX4_lot_105 (by decide) ?_
  refine n_dec (a := 0) eX4_lot_107 rfl (by decide) ?_
  refine r_goto eX4_lot_110 ?_
  refine r_iload eX4_lot_57 rfl ?_
  refine n_if_le eX4_lot_59 (by decide) (fun hc59 => ?_) (fun hc59 => absurd hc59 (by decide))
  refine r_iload_n eX4_lot_113 rfl rfl ?_
  refine n_if_ne eX4_lot_114 (by decide) (fun hc114 => absurd hc114 (by decide)) (fun hc114 => ?_)
  refine r_iload eX4_lot_117 rfl ?_
  refine r_goto eX4_lot_119 ?_
  exact z_iret eX4_lot_124 rfl rfl ⟨_, rfl, rfl, rfl⟩
set_option maxHeartbeats 1000000 in
set_option maxRecDepth 100000 in
theorem s4_lot_5_1 {t : zMod} {u : zCls} : Mi mX4_lot 60 [.ref 0, .int (nI (5)), .int (nI (1)), .int (nI (1))] (hA t u) (fun r h' => r = nI 60 ∧ h' = hA t u) := by
  refine Mi.of (by decide) rfl (Nat.le_of_ble_eq_true rfl) ?_
  refine r_iload_n eX4_lot_0 rfl rfl ?_
  refine n_iconst 1 eX4_lot_1 rfl ?_
  refine n_bipush 9 eX4_lot_2 rfl ?_
  refine r_callSi3 eX4_lot_4 lX4_44 (s4_within_k (by decide) (by decide)) (by omega) (Nat.le_of_ble_eq_true rfl) (fun r1 h1 hq => ?_)
  obtain ⟨rfl, rfl⟩ := hq
  refine r_istore eX4_lot_7 (by decide) ?_
  refine r_iload eX4_lot_9 rfl ?_
  refine n_if_ne eX4_lot_11 (by decide) (fun hc11 => absurd hc11 (by decide)) (fun hc11 => ?_)
  refine r_iload_n eX4_lot_14 rfl rfl ?_
  refine n_iconst 2 eX4_lot_15 rfl ?_
  refine r_callSi2 eX4_lot_16 lX4_40 (s4_isIn_y (by decide) (by decide)) (by omega) (Nat.le_of_ble_eq_true rfl) (fun r1 h1 hq => ?_)
  obtain ⟨rfl, rfl⟩ := hq
  refine n_if_eq eX4_lot_19 (by decide) (fun hc19 => absurd hc19 (by decide)) (fun hc19 => ?_)
  refine r_iload_n eX4_lot_22 rfl rfl ?_
  refine n_iconst 2 eX4_lot_23 rfl ?_
  refine r_callSi2 eX4_lot_24 lX4_40 (s4_isIn_y (by decide) (by decide)) (by omega) (Nat.le_of_ble_eq_true rfl) (fun r1 h1 hq => ?_)
  obtain ⟨rfl, rfl⟩ := hq
  refine n_if_ne eX4_lot_27 (by decide) (fun hc27 => ?_) (fun hc27 => absurd hc27 (by decide))
  refine r_iload eX4_lot_34 rfl ?_
  refine n_if_eq eX4_lot_36 (by decide) (fun hc36 => ?_) (fun hc36 => absurd hc36 (by decide))
  refine n_iconst 1 eX4_lot_46 rfl ?_
  refine r_istore eX4_lot_47 (by decide) ?_
  refine r_iload_n eX4_lot_49 rfl rfl ?_
  refine r_istore eX4_lot_50 (by decide) ?_
  refine r_iload_n eX4_lot_52 rfl rfl ?_
  refine n_iconst 1 eX4_lot_53 rfl ?_
  refine n_sub eX4_lot_54 (by decide) ?_
  refine z_top (y := nI 4) (by decide +kernel) ?_
  refine r_istore eX4_lot_55 (by decide) ?_
  refine r_iload eX4_lot_57 rfl ?_
  refine n_if_le eX4_lot_59 (by decide) (fun hc59 => absurd hc59 (by decide)) (fun hc59 => ?_)
  refine r_iload_n eX4_lot_62 rfl rfl ?_
  refine n_iconst 1 eX4_lot_63 rfl ?_
  refine n_icmp_ne eX4_lot_64 (by decide) (by decide) (fun hc64 => absurd hc64 (by decide)) (fun hc64 => ?_)
  refine r_iload eX4_lot_67 rfl ?_
  refine r_iload eX4_lot_69 rfl ?_
  refine n_mul eX4_lot_71 ?_
  refine z_top (y := nI 4) (by decide +kernel) ?_
  refine r_iload eX4_lot_72 rfl ?_
  refine n_add eX4_lot_74 ?_
  refine z_top (y := nI 9) (by decide +kernel) ?_
  refine r_istore eX4_lot_75 (by decide) ?_
  refine r_iload eX4_lot_77 rfl ?_
  refine r_iload eX4_lot_79 rfl ?_
  refine n_mul eX4_lot_81 ?_
  refine z_top (y := nI 20) (by decide +kernel) ?_
  refine r_istore eX4_lot_82 (by decide) ?_
  refine r_iload eX4_lot_84 rfl ?_
  refine r_iload eX4_lot_86 rfl ?_
  refine r_callSi2 eX4_lot_88 lX4_192 (s4_common 20 9 20 (by decide) (by decide) (by decide)) (by omega) (Nat.le_of_ble_eq_true rfl) (fun r1 h1 hq => ?_)
  obtain ⟨hq1, rfl⟩ := hq
  obtain rfl : r1 = nI (1) := by rw [hq1]; decide +kernel
  refine r_istore eX4_lot_91 (by decide) ?_
  refine r_iload eX4_lot_93 rfl ?_
  refine r_iload eX4_lot_95 rfl ?_
  refine n_div eX4_lot_97 (by decide) (by decide) (by decide) ?_
  refine z_top (y := nI 9) (by decide +kernel) ?_
  refine r_istore eX4_lot_98 (by decide) ?_
  refine r_iload eX4_lot_100 rfl ?_
  refine r_iload eX4_lot_102 rfl ?_
  refine n_div eX4_lot_104 (by decide) (by decide) (by decide) ?_
  refine z_top (y := nI 20) (by decide +kernel) ?_
  refine r_istore eX4_lot_105 (by decide) ?_
  refine n_dec (a := 3) eX4_lot_107 rfl (by decide) ?_
  refine r_goto eX4_lot_110 ?_
  refine r_iload eX4_lot_57 rfl ?_
  refine n_if_le eX4_lot_59 (by decide) (fun hc59 => absurd hc59 (by decide)) (fun hc59 => ?_)
  refine r_iload_n eX4_lot_62 rfl rfl ?_
  refine n_iconst 1 eX4_lot_63 rfl ?_
  refine n_icmp_ne eX4_lot_64 (by decide) (by decide) (fun hc64 => absurd hc64 (by decide)) (fun hc64 => ?_)
  refine r_iload eX4_lot_67 rfl ?_
  refine r_iload eX4_lot_69 rfl ?_
  refine n_mul eX4_lot_71 ?_
  refine z_top (y := nI 27) (by decide +kernel) ?_
  refine r_iload eX4_lot_72 rfl ?_
  refine n_add eX4_lot_74 ?_
  refine z_top (y := nI 47) (by decide +kernel) ?_
  refine r_istore eX4_lot_75 (by decide) ?_
  refine r_iload eX4_lot_77 rfl ?_
  refine r_iload eX4_lot_79 rfl ?_
  refine n_mul eX4_lot_81 ?_
  refine z_top (y := nI 60) (by decide +kernel) ?_
  refine r_istore eX4_lot_82 (by decide) ?_
  refine r_iload eX4_lot_84 rfl ?_
  refine r_iload eX4_lot_86 rfl ?_
  refine r_callSi2 eX4_lot_88 lX4_192 (s4_common 20 47 60 (by decide) (by decide) (by decide)) (by omega) (Nat.le_of_ble_eq_true rfl) (fun r1 h1 hq => ?_)
  obtain ⟨hq1, rfl⟩ := hq
  obtain rfl : r1 = nI (1) := by rw [hq1]; decide +kernel
  refine r_istore eX4_lot_91 (by decide) ?_
  refine r_iload eX4_lot_93 rfl ?_
  refine r_iload eX4_lot_95 rfl ?_
  refine n_div eX4_lot_97 (by decide) (by decide) (by decide) ?_
  refine z_top (y := nI 47) (by decide +kernel) ?_
  refine r_istore eX4_lot_98 (by decide) ?_
  refine r_iload eX4_lot_100 rfl ?_
  refine r_iload eX4_lot_102 rfl ?_
  refine n_div eX4_lot_104 (by decide) (by decide) (by decide) ?_
  refine z_top (y := nI 60) (by decide +kernel) ?_
  refine r_istore eX4_lot_105 (by decide) ?_
  refine n_dec (a := 2) eX4_lot_107 rfl (by decide) ?_
  refine r_goto eX4_lot_110 ?_
  refine r_iload eX4_lot_57 rfl ?_
  refine n_if_le eX4_lot_59 (by decide) (fun hc59 => absurd hc59 (by decide)) (fun hc59 => ?_)
  refine r_iload_n eX4_lot_62 rfl rfl ?_
  refine n_iconst 1 eX4_lot_63 rfl ?_
  refine n_icmp_ne eX4_lot_64 (by decide) (by decide) (fun hc64 => absurd hc64 (by decide)) (fun hc64 => ?_)
  refine r_iload eX4_lot_67 rfl ?_
  refine r_iload eX4_lot_69 rfl ?_
  refine n_mul eX4_lot_71 ?_
  refine z_top (y := nI 94) (by decide +kernel) ?_
  refine r_iload eX4_lot_72 rfl ?_
  refine n_add eX4_lot_74 ?_
  refine z_top (y := nI 154) (by decide +kernel) ?_
  refine r_istore eX4_lot_75 (by decide) ?_
  refine r_iload eX4_lot_77 rfl ?_
  refine r_iload eX4_lot_79 rfl ?_
  refine n_mul eX4_lot_81 ?_
  refine z_top (y := nI 120) (by decide +kernel) ?_
  refine r_istore eX4_lot_82 (by decide) ?_
  refine r_iload eX4_lot_84 rfl ?_
  refine r_iload eX4_lot_86 rfl ?_
  refine r_callSi2 eX4_lot_88 lX4_192 (s4_common 20 154 120 (by decide) (by decide) (by decide)) (by omega) (Nat.le_of_ble_eq_true rfl) (fun r1 h1 hq => ?_)
  obtain ⟨hq1, rfl⟩ := hq
  obtain rfl : r1 = nI (2) := by rw [hq1]; decide +kernel
  refine r_istore eX4_lot_91 (by decide) ?_
  refine r_iload eX4_lot_93 rfl ?_
  refine r_iload eX4_lot_95 rfl ?_
  refine n_div eX4_lot_97 (by decide) (by decide) (by decide) ?_
  refine z_top (y := nI 77) (by decide +kernel) ?_
  refine r_istore eX4_lot_98 (by decide) ?_
  refine r_iload eX4_lot_100 rfl ?_
  refine r_iload eX4_lot_102 rfl ?_
  refine n_div eX4_lot_104 (by decide) (by decide) (by decide) ?_
  refine z_top (y := nI 60) (by decide +kernel) ?_
  refine r_istore eX4_lot_105 (by decide) ?_
  refine n_dec (a := 1) eX4_lot_107 rfl (by decide) ?_
  refine r_goto eX4_lot_110 ?_
  refine r_iload eX4_lot_57 rfl ?_
  refine n_if_le eX4_lot_59 (by decide) (fun hc59 => absurd hc59 (by decide)) (fun hc59 => ?_)
  refine r_iload_n eX4_lot_62 rfl rfl ?_
  refine n_iconst 1 eX4_lot_63 rfl ?_
  refine n_icmp_ne eX4_lot_64 (by decide) (by decide) (fun hc64 => absurd hc64 (by decide)) (fun hc64 => ?_)
  refine r_iload eX4_lot_67 rfl ?_
  refine r_iload eX4_lot_69 rfl ?_
  refine n_mul eX4_lot_71 ?_
  refine z_top (y := nI 77) (by decide +kernel) ?_
  refine r_iload eX4_lot_72 rfl ?_
  refine n_add eX4_lot_74 ?_
  refine z_top (y := nI 137) (by decide +kernel) ?_
  refine r_istore eX4_lot_75 (by decide) ?_
  refine r_iload eX4_lot_77 rfl ?_
  refine r_iload eX4_lot_79 rfl ?_
  refine n_mul eX4_lot_81 ?_
  refine z_top (y := nI 60) (by decide +kernel) ?_
  refine r_istore eX4_lot_82 (by decide) ?_
  refine r_iload eX4_lot_84 rfl ?_
  refine r_iload eX4_lot_86 rfl ?_
  refine r_callSi2 eX4_lot_88 lX4_192 (s4_common 20 137 60 (by decide) (by decide) (by decide)) (by omega) (Nat.le_of_ble_eq_true rfl) (fun r1 h1 hq => ?_)
  obtain ⟨hq1, rfl⟩ := hq
  obtain rfl : r1 = nI (1) := by rw [hq1]; decide +kernel
  refine r_istore eX4_lot_91 (by decide) ?_
  refine r_iload eX4_lot_93 rfl ?_
  refine r_iload eX4_lot_95 rfl ?_
  refine n_div eX4_lot_97 (by decide) (by decide) (by decide) ?_
  refine z_top (y := nI 137) (by decide +kernel) ?_
  refine r_istore eX4_lot_98 (by decide) ?_
  refine r_iload eX4_lot_100 rfl ?_
  refine r_iload eX4_lot_102 rfl ?_
  refine n_div eX4_lot_104 (by decide) (by decide) (by decide) ?_
  refine z_top (y := nI 60) (by decide +kernel) ?_
  refine r_istore eX4_lot_105 (by decide) ?_
  refine n_dec (a := 0) eX4_lot_107 rfl (by decide) ?_
  refine r_goto eX4_lot_110 ?_
  refine r_iload eX4_lot_57 rfl ?_
  refine n_if_le eX4_lot_59 (by decide) (fun hc59 => ?_) (fun hc59 => absurd hc59 (by decide))
  refine r_iload_n eX4_lot_113 rfl rfl ?_
  refine n_if_ne eX4_lot_114 (by decide) (fun hc114 => ?_) (fun hc114 => absurd hc114 (by decide))
  refine r_iload eX4_lot_122 rfl ?_
  exact z_iret eX4_lot_124 rfl rfl ⟨_, rfl, rfl, rfl⟩
set_option maxHeartbeats 1000000 in
set_option maxRecDepth 100000 in
theorem s4_lot_6_0 {t : zMod} {u : zCls} : Mi mX4_lot 60 [.ref 0, .int (nI (6)), .int (nI (1)), .int (nI (0))] (hA t u) (fun r h' => r = nI 49 ∧ h' = hA t u) := by
  refine Mi.of (by decide) rfl (Nat.le_of_ble_eq_true rfl) ?_
  refine r_iload_n eX4_lot_0 rfl rfl ?_
  refine n_iconst 1 eX4_lot_1 rfl ?_
  refine n_bipush 9 eX4_lot_2 rfl ?_
  refine r_callSi3 eX4_lot_4 lX4_44 (s4_within_k (by decide) (by decide)) (by omega) (Nat.le_of_ble_eq_true rfl) (fun r1 h1 hq => ?_)
  obtain ⟨rfl, rfl⟩ := hq
  refine r_istore eX4_lot_7 (by decide) ?_
  refine r_iload eX4_lot_9 rfl ?_
  refine n_if_ne eX4_lot_11 (by decide) (fun hc11 => absurd hc11 (by decide)) (fun hc11 => ?_)
  refine r_iload_n eX4_lot_14 rfl rfl ?_
  refine n_iconst 2 eX4_lot_15 rfl ?_
  refine r_callSi2 eX4_lot_16 lX4_40 (s4_isIn_y (by decide) (by decide)) (by omega) (Nat.le_of_ble_eq_true rfl) (fun r1 h1 hq => ?_)
  obtain ⟨rfl, rfl⟩ := hq
  refine n_if_eq eX4_lot_19 (by decide) (fun hc19 => absurd hc19 (by decide)) (fun hc19 => ?_)
  refine r_iload_n eX4_lot_22 rfl rfl ?_
  refine n_iconst 2 eX4_lot_23 rfl ?_
  refine r_callSi2 eX4_lot_24 lX4_40 (s4_isIn_y (by decide) (by decide)) (by omega) (Nat.le_of_ble_eq_true rfl) (fun r1 h1 hq => ?_)
  obtain ⟨rfl, rfl⟩ := hq
  refine n_if_ne eX4_lot_27 (by decide) (fun hc27 => ?_) (fun hc27 => absurd hc27 (by decide))
  refine r_iload eX4_lot_34 rfl ?_
  refine n_if_eq eX4_lot_36 (by decide) (fun hc36 => ?_) (fun hc36 => absurd hc36 (by decide))
  refine n_iconst 1 eX4_lot_46 rfl ?_
  refine r_istore eX4_lot_47 (by decide) ?_
  refine r_iload_n eX4_lot_49 rfl rfl ?_
  refine r_istore eX4_lot_50 (by decide) ?_
  refine r_iload_n eX4_lot_52 rfl rfl ?_
  refine n_iconst 1 eX4_lot_53 rfl ?_
  refine n_sub eX4_lot_54 (by decide) ?_
  refine z_top (y := nI 5) (by decide +kernel) ?_
  refine r_istore eX4_lot_55 (by decide) ?_
  refine r_iload eX4_lot_57 rfl ?_
  refine n_if_le eX4_lot_59 (by decide) (fun hc59 => absurd hc59 (by decide)) (fun hc59 => ?_)
  refine r_iload_n eX4_lot_62 rfl rfl ?_
  refine n_iconst 1 eX4_lot_63 rfl ?_
  refine n_icmp_ne eX4_lot_64 (by decide) (by decide) (fun hc64 => absurd hc64 (by decide)) (fun hc64 => ?_)
  refine r_iload eX4_lot_67 rfl ?_
  refine r_iload eX4_lot_69 rfl ?_
  refine n_mul eX4_lot_71 ?_
  refine z_top (y := nI 5) (by decide +kernel) ?_
  refine r_iload eX4_lot_72 rfl ?_
  refine n_add eX4_lot_74 ?_
  refine z_top (y := nI 11) (by decide +kernel) ?_
  refine r_istore eX4_lot_75 (by decide) ?_
  refine r_iload eX4_lot_77 rfl ?_
  refine r_iload eX4_lot_79 rfl ?_
  refine n_mul eX4_lot_81 ?_
  refine z_top (y := nI 30) (by decide +kernel) ?_
  refine r_istore eX4_lot_82 (by decide) ?_
  refine r_iload eX4_lot_84 rfl ?_
  refine r_iload eX4_lot_86 rfl ?_
  refine r_callSi2 eX4_lot_88 lX4_192 (s4_common 20 11 30 (by decide) (by decide) (by decide)) (by omega) (Nat.le_of_ble_eq_true rfl) (fun r1 h1 hq => ?_)
  obtain ⟨hq1, rfl⟩ := hq
  obtain rfl : r1 = nI (1) := by rw [hq1]; decide +kernel
  refine r_istore eX4_lot_91 (by decide) ?_
  refine r_iload eX4_lot_93 rfl ?_
  refine r_iload eX4_lot_95 rfl ?_
  refine n_div eX4_lot_97 (by decide) (by decide) (by decide) ?_
  refine z_top (y := nI 11) (by decide +kernel) ?_
  refine r_istore eX4_lot_98 (by decide) ?_
  refine r_iload eX4_lot_100 rfl ?_
  refine r_iload eX4_lot_102 rfl ?_
  refine n_div eX4_lot_104 (by decide) (by decide) (by decide) ?_
  refine z_top (y := nI 30) (by decide +kernel) ?_
  refine r_istore eX4_lot_105 (by decide) ?_
  refine n_dec (a := 4) eX4_lot_107 rfl (by decide) ?_
  refine r_goto eX4_lot_110 ?_
  refine r_iload eX4_lot_57 rfl ?_
  refine n_if_le eX4_lot_59 (by decide) (fun hc59 => absurd hc59 (by decide)) (fun hc59 => ?_)
  refine r_iload_n eX4_lot_62 rfl rfl ?_
  refine n_iconst 1 eX4_lot_63 rfl ?_
  refine n_icmp_ne eX4_lot_64 (by decide) (by decide) (fun hc64 => absurd hc64 (by decide)) (fun hc64 => ?_)
  refine r_iload eX4_lot_67 rfl ?_
  refine r_iload eX4_lot_69 rfl ?_
  refine n_mul eX4_lot_71 ?_
  refine z_top (y := nI 44) (by decide +kernel) ?_
  refine r_iload eX4_lot_72 rfl ?_
  refine n_add eX4_lot_74 ?_
  refine z_top (y := nI 74) (by decide +kernel) ?_
  refine r_istore eX4_lot_75 (by decide) ?_
  refine r_iload eX4_lot_77 rfl ?_
  refine r_iload eX4_lot_79 rfl ?_
  refine n_mul eX4_lot_81 ?_
  refine z_top (y := nI 120) (by decide +kernel) ?_
  refine r_istore eX4_lot_82 (by decide) ?_
  refine r_iload eX4_lot_84 rfl ?_
  refine r_iload eX4_lot_86 rfl ?_
  refine r_callSi2 eX4_lot_88 lX4_192 (s4_common 20 74 120 (by decide) (by decide) (by decide)) (by omega) (Nat.le_of_ble_eq_true rfl) (fun r1 h1 hq => ?_)
  obtain ⟨hq1, rfl⟩ := hq
  obtain rfl : r1 = nI (2) := by rw [hq1]; decide +kernel
  refine r_istore eX4_lot_91 (by decide) ?_
  refine r_iload eX4_lot_93 rfl ?_
  refine r_iload eX4_lot_95 rfl ?_
  refine n_div eX4_lot_97 (by decide) (by decide) (by decide) ?_
  refine z_top (y := nI 37) (by decide +kernel) ?_
  refine r_istore eX4_lot_98 (by decide) ?_
  refine r_iload eX4_lot_100 rfl ?_
  refine r_iload eX4_lot_102 rfl ?_
  refine n_div eX4_lot_104 (by decide) (by decide) (by decide) ?_
  refine z_top (y := nI 60) (by decide +kernel) ?_
  refine r_istore eX4_lot_105 (by decide) ?_
  refine n_dec (a := 3) eX4_lot_107 rfl (by decide) ?_
  refine r_goto eX4_lot_110 ?_
  refine r_iload eX4_lot_57 rfl ?_
  refine n_if_le eX4_lot_59 (by decide) (fun hc59 => absurd hc59 (by decide)) (fun hc59 => ?_)
  refine r_iload_n eX4_lot_62 rfl rfl ?_
  refine n_iconst 1 eX4_lot_63 rfl ?_
  refine n_icmp_ne eX4_lot_64 (by decide) (by decide) (fun hc64 => absurd hc64 (by decide)) (fun hc64 => ?_)
  refine r_iload eX4_lot_67 rfl ?_
  refine r_iload eX4_lot_69 rfl ?_
  refine n_mul eX4_lot_71 ?_
  refine z_top (y := nI 111) (by decide +kernel) ?_
  refine r_iload eX4_lot_72 rfl ?_
  refine n_add eX4_lot_74 ?_
  refine z_top (y := nI 171) (by decide +kernel) ?_
  refine r_istore eX4_lot_75 (by decide) ?_
  refine r_iload eX4_lot_77 rfl ?_
  refine r_iload eX4_lot_79 rfl ?_
  refine n_mul eX4_lot_81 ?_
  refine z_top (y := nI 180) (by decide +kernel) ?_
  refine r_istore eX4_lot_82 (by decide) ?_
  refine r_iload eX4_lot_84 rfl ?_
  refine r_iload eX4_lot_86 rfl ?_
  refine r_callSi2 eX4_lot_88 lX4_192 (s4_common 20 171 180 (by decide) (by decide) (by decide)) (by omega) (Nat.le_of_ble_eq_true rfl) (fun r1 h1 hq => ?_)
  obtain ⟨hq1, rfl⟩ := hq
  obtain rfl : r1 = nI (9) := by rw [hq1]; decide +kernel
  refine r_istore eX4_lot_91 (by decide) ?_
  refine r_iload eX4_lot_93 rfl ?_
  refine r_iload eX4_lot_95 rfl ?_
  refine n_div eX4_lot_97 (by decide) (by decide) (by decide) ?_
  refine z_top (y := nI 19) (by decide +kernel) ?_
  refine r_istore eX4_lot_98 (by decide) ?_
  refine r_iload eX4_lot_100 rfl ?_
  refine r_iload eX4_lot_102 rfl ?_
  refine n_div eX4_lot_104 (by decide) (by decide) (by decide) ?_
  refine z_top (y := nI 20) (by decide +kernel) ?_
  refine r_istore eX4_lot_105 (by decide) ?_
  refine n_dec (a := 2) eX4_lot_107 rfl (by decide) ?_
  refine r_goto eX4_lot_110 ?_
  refine r_iload eX4_lot_57 rfl ?_
  refine n_if_le eX4_lot_59 (by decide) (fun hc59 => absurd hc59 (by decide)) (fun hc59 => ?_)
  refine r_iload_n eX4_lot_62 rfl rfl ?_
  refine n_iconst 1 eX4_lot_63 rfl ?_
  refine n_icmp_ne eX4_lot_64 (by decide) (by decide) (fun hc64 => absurd hc64 (by decide)) (fun hc64 => ?_)
  refine r_iload eX4_lot_67 rfl ?_
  refine r_iload eX4_lot_69 rfl ?_
  refine n_mul eX4_lot_71 ?_
  refine z_top (y := nI 38) (by decide +kernel) ?_
  refine r_iload eX4_lot_72 rfl ?_
  refine n_add eX4_lot_74 ?_
  refine z_top (y := nI 58) (by decide +kernel) ?_
  refine r_istore eX4_lot_75 (by decide) ?_
  refine r_iload eX4_lot_77 rfl ?_
  refine r_iload eX4_lot_79 rfl ?_
  refine n_mul eX4_lot_81 ?_
  refine z_top (y := nI 40) (by decide +kernel) ?_
  refine r_istore eX4_lot_82 (by decide) ?_
  refine r_iload eX4_lot_84 rfl ?_
  refine r_iload eX4_lot_86 rfl ?_
  refine r_callSi2 eX4_lot_88 lX4_192 (s4_common 20 58 40 (by decide) (by decide) (by decide)) (by omega) (Nat.le_of_ble_eq_true rfl) (fun r1 h1 hq => ?_)
  obtain ⟨hq1, rfl⟩ := hq
  obtain rfl : r1 = nI (2) := by rw [hq1]; decide +kernel
  refine r_istore eX4_lot_91 (by decide) ?_
  refine r_iload eX4_lot_93 rfl ?_
  refine r_iload eX4_lot_95 rfl ?_
  refine n_div eX4_lot_97 (by decide) (by decide) (by decide) ?_
  refine z_top (y := nI 29) (by decide +kernel) ?_
  refine r_istore eX4_lot_98 (by decide) ?_
  refine r_iload eX4_lot_100 rfl ?_
  refine r_iload eX4_lot_102 rfl ?_
  refine n_div eX4_lot_104 (by decide) (by decide) (by decide) ?_
  refine z_top (y := nI 20) (by decide +kernel) ?_
  refine r_istore eX4_lot_105 (by decide) ?_
  refine n_dec (a := 1) eX4_lot_107 rfl (by decide) ?_
  refine r_goto eX4_lot_110 ?_
  refine r_iload eX4_lot_57 rfl ?_
  refine n_if_le eX4_lot_59 (by decide) (fun hc59 => absurd hc59 (by decide)) (fun hc59 => ?_)
  refine r_iload_n eX4_lot_62 rfl rfl ?_
  refine n_iconst 1 eX4_lot_63 rfl ?_
  refine n_icmp_ne eX4_lot_64 (by decide) (by decide) (fun hc64 => absurd hc64 (by decide)) (fun hc64 => ?_)
  refine r_iload eX4_lot_67 rfl ?_
  refine r_iload eX4_lot_69 rfl ?_
  refine n_mul eX4_lot_71 ?_
  refine z_top (y := nI 29) (by decide +kernel) ?_
  refine r_iload eX4_lot_72 rfl ?_
  refine n_add eX4_lot_74 ?_
  refine z_top (y := nI 49) (by decide +kernel) ?_
  refine r_istore eX4_lot_75 (by decide) ?_
  refine r_iload eX4_lot_77 rfl ?_
  refine r_iload eX4_lot_79 rfl ?_
  refine n_mul eX4_lot_81 ?_
  refine z_top (y := nI 20) (by decide +kernel) ?_
  refine r_istore eX4_lot_82 (by decide) ?_
  refine r_iload eX4_lot_84 rfl ?_
  refine r_iload eX4_lot_86 rfl ?_
  refine r_callSi2 eX4_lot_88 lX4_192 (s4_common 20 49 20 (by decide) (by decide) (by decide)) (by omega) (Nat.le_of_ble_eq_true rfl) (fun r1 h1 hq => ?_)
  obtain ⟨hq1, rfl⟩ := hq
  obtain rfl : r1 = nI (1) := by rw [hq1]; decide +kernel
  refine r_istore eX4_lot_91 (by decide) ?_
  refine r_iload eX4_lot_93 rfl ?_
  refine r_iload eX4_lot_95 rfl ?_
  refine n_div eX4_lot_97 (by decide) (by decide) (by decide) ?_
  refine z_top (y := nI 49) (by decide +kernel) ?_
  refine r_istore eX4_lot_98 (by decide) ?_
  refine r_iload eX4_lot_100 rfl ?_
  refine r_iload eX4_lot_102 rfl ?_
  refine n_div eX4_lot_104 (by decide) (by decide) (by decide) ?_
  refine z_top (y := nI 20) (by decide +kernel) ?_
  refine r_istore eX4_lot_105 (by decide) ?_
  refine n_dec (a := 0) eX4_lot_107 rfl (by decide) ?_
  refine r_goto eX4_lot_110 ?_
  refine r_iload eX4_lot_57 rfl ?_
  refine n_if_le eX4_lot_59 (by decide) (fun hc59 => ?_) (fun hc59 => absurd hc59 (by decide))
  refine r_iload_n eX4_lot_113 rfl rfl ?_
  refine n_if_ne eX4_lot_114 (by decide) (fun hc114 => absurd hc114 (by decide)) (fun hc114 => ?_)
  refine r_iload eX4_lot_117 rfl ?_
  refine r_goto eX4_lot_119 ?_
  exact z_iret eX4_lot_124 rfl rfl ⟨_, rfl, rfl, rfl⟩
set_option maxHeartbeats 1000000 in
set_option maxRecDepth 100000 in
theorem s4_lot_6_1 {t : zMod} {u : zCls} : Mi mX4_lot 60 [.ref 0, .int (nI (6)), .int (nI (1)), .int (nI (1))] (hA t u) (fun r h' => r = nI 20 ∧ h' = hA t u) := by
  refine Mi.of (by decide) rfl (Nat.le_of_ble_eq_true rfl) ?_
  refine r_iload_n eX4_lot_0 rfl rfl ?_
  refine n_iconst 1 eX4_lot_1 rfl ?_
  refine n_bipush 9 eX4_lot_2 rfl ?_
  refine r_callSi3 eX4_lot_4 lX4_44 (s4_within_k (by decide) (by decide)) (by omega) (Nat.le_of_ble_eq_true rfl) (fun r1 h1 hq => ?_)
  obtain ⟨rfl, rfl⟩ := hq
  refine r_istore eX4_lot_7 (by decide) ?_
  refine r_iload eX4_lot_9 rfl ?_
  refine n_if_ne eX4_lot_11 (by decide) (fun hc11 => absurd hc11 (by decide)) (fun hc11 => ?_)
  refine r_iload_n eX4_lot_14 rfl rfl ?_
  refine n_iconst 2 eX4_lot_15 rfl ?_
  refine r_callSi2 eX4_lot_16 lX4_40 (s4_isIn_y (by decide) (by decide)) (by omega) (Nat.le_of_ble_eq_true rfl) (fun r1 h1 hq => ?_)
  obtain ⟨rfl, rfl⟩ := hq
  refine n_if_eq eX4_lot_19 (by decide) (fun hc19 => absurd hc19 (by decide)) (fun hc19 => ?_)
  refine r_iload_n eX4_lot_22 rfl rfl ?_
  refine n_iconst 2 eX4_lot_23 rfl ?_
  refine r_callSi2 eX4_lot_24 lX4_40 (s4_isIn_y (by decide) (by decide)) (by omega) (Nat.le_of_ble_eq_true rfl) (fun r1 h1 hq => ?_)
  obtain ⟨rfl, rfl⟩ := hq
  refine n_if_ne eX4_lot_27 (by decide) (fun hc27 => ?_) (fun hc27 => absurd hc27 (by decide))
  refine r_iload eX4_lot_34 rfl ?_
  refine n_if_eq eX4_lot_36 (by decide) (fun hc36 => ?_) (fun hc36 => absurd hc36 (by decide))
  refine n_iconst 1 eX4_lot_46 rfl ?_
  refine r_istore eX4_lot_47 (by decide) ?_
  refine r_iload_n eX4_lot_49 rfl rfl ?_
  refine r_istore eX4_lot_50 (by decide) ?_
  refine r_iload_n eX4_lot_52 rfl rfl ?_
  refine n_iconst 1 eX4_lot_53 rfl ?_
  refine n_sub eX4_lot_54 (by decide) ?_
  refine z_top (y := nI 5) (by decide +kernel) ?_
  refine r_istore eX4_lot_55 (by decide) ?_
  refine r_iload eX4_lot_57 rfl ?_
  refine n_if_le eX4_lot_59 (by decide) (fun hc59 => absurd hc59 (by decide)) (fun hc59 => ?_)
  refine r_iload_n eX4_lot_62 rfl rfl ?_
  refine n_iconst 1 eX4_lot_63 rfl ?_
  refine n_icmp_ne eX4_lot_64 (by decide) (by decide) (fun hc64 => absurd hc64 (by decide)) (fun hc64 => ?_)
  refine r_iload eX4_lot_67 rfl ?_
  refine r_iload eX4_lot_69 rfl ?_
  refine n_mul eX4_lot_71 ?_
  refine z_top (y := nI 5) (by decide +kernel) ?_
  refine r_iload eX4_lot_72 rfl ?_
  refine n_add eX4_lot_74 ?_
  refine z_top (y := nI 11) (by decide +kernel) ?_
  refine r_istore eX4_lot_75 (by decide) ?_
  refine r_iload eX4_lot_77 rfl ?_
  refine r_iload eX4_lot_79 rfl ?_
  refine n_mul eX4_lot_81 ?_
  refine z_top (y := nI 30) (by decide +kernel) ?_
  refine r_istore eX4_lot_82 (by decide) ?_
  refine r_iload eX4_lot_84 rfl ?_
  refine r_iload eX4_lot_86 rfl ?_
  refine r_callSi2 eX4_lot_88 lX4_192 (s4_common 20 11 30 (by decide) (by decide) (by decide)) (by omega) (Nat.le_of_ble_eq_true rfl) (fun r1 h1 hq => ?_)
  obtain ⟨hq1, rfl⟩ := hq
  obtain rfl : r1 = nI (1) := by rw [hq1]; decide +kernel
  refine r_istore eX4_lot_91 (by decide) ?_
  refine r_iload eX4_lot_93 rfl ?_
  refine r_iload eX4_lot_95 rfl ?_
  refine n_div eX4_lot_97 (by decide) (by decide) (by decide) ?_
  refine z_top (y := nI 11) (by decide +kernel) ?_
  refine r_istore eX4_lot_98 (by decide) ?_
  refine r_iload eX4_lot_100 rfl ?_
  refine r_iload eX4_lot_102 rfl ?_
  refine n_div eX4_lot_104 (by decide) (by decide) (by decide) ?_
  refine z_top (y := nI 30) (by decide +kernel) ?_
  refine r_istore eX4_lot_105 (by decide) ?_
  refine n_dec (a := 4) eX4_lot_107 rfl (by decide) ?_
  refine r_goto eX4_lot_110 ?_
  refine r_iload eX4_lot_57 rfl ?_
  refine n_if_le eX4_lot_59 (by decide) (fun hc59 => absurd hc59 (by decide)) (fun hc59 => ?_)
  refine r_iload_n eX4_lot_62 rfl rfl ?_
  refine n_iconst 1 eX4_lot_63 rfl ?_
  refine n_icmp_ne eX4_lot_64 (by decide) (by decide) (fun hc64 => absurd hc64 (by decide)) (fun hc64 => ?_)
  refine r_iload eX4_lot_67 rfl ?_
  refine r_iload eX4_lot_69 rfl ?_
  refine n_mul eX4_lot_71 ?_
  refine z_top (y := nI 44) (by decide +kernel) ?_
  refine r_iload eX4_lot_72 rfl ?_
  refine n_add eX4_lot_74 ?_
  refine z_top (y := nI 74) (by decide +kernel) ?_
  refine r_istore eX4_lot_75 (by decide) ?_
  refine r_iload eX4_lot_77 rfl ?_
  refine r_iload eX4_lot_79 rfl ?_
  refine n_mul eX4_lot_81 ?_
  refine z_top (y := nI 120) (by decide +kernel) ?_
  refine r_istore eX4_lot_82 (by decide) ?_
  refine r_iload eX4_lot_84 rfl ?_
  refine r_iload eX4_lot_86 rfl ?_
  refine r_callSi2 eX4_lot_88 lX4_192 (s4_common 20 74 120 (by decide) (by decide) (by decide)) (by omega) (Nat.le_of_ble_eq_true rfl) (fun r1 h1 hq => ?_)
  obtain ⟨hq1, rfl⟩ := hq
  obtain rfl : r1 = nI (2) := by rw [hq1]; decide +kernel
  refine r_istore eX4_lot_91 (by decide) ?_
  refine r_iload eX4_lot_93 rfl ?_
  refine r_iload eX4_lot_95 rfl ?_
  refine n_div eX4_lot_97 (by decide) (by decide) (by decide) ?_
  refine z_top (y := nI 37) (by decide +kernel) ?_
  refine r_istore eX4_lot_98 (by decide) ?_
  refine r_iload eX4_lot_100 rfl ?_
  refine r_iload eX4_lot_102 rfl ?_
  refine n_div eX4_lot_104 (by decide) (by decide) (by decide) ?_
  refine z_top (y := nI 60) (by decide +kernel) ?_
  refine r_istore eX4_lot_105 (by decide) ?_
  refine n_dec (a := 3) eX4_lot_107 rfl (by decide) ?_
  refine r_goto eX4_lot_110 ?_
  refine r_iload eX4_lot_57 rfl ?_
  refine n_if_le eX4_lot_59 (by decide) (fun hc59 => absurd hc59 (by decide)) (fun hc59 => ?_)
  refine r_iload_n eX4_lot_62 rfl rfl ?_
  refine n_iconst 1 eX4_lot_63 rfl ?_
  refine n_icmp_ne eX4_lot_64 (by decide) (by decide) (fun hc64 => absurd hc64 (by decide)) (fun hc64 => ?_)
  refine r_iload eX4_lot_67 rfl ?_
  refine r_iload eX4_lot_69 rfl ?_
  refine n_mul eX4_lot_71 ?_
  refine z_top (y := nI 111) (by decide +kernel) ?_
  refine r_iload eX4_lot_72 rfl ?_
  refine n_add eX4_lot_74 ?_
  refine z_top (y := nI 171) (by decide +kernel) ?_
  refine r_istore eX4_lot_75 (by decide) ?_
  refine r_iload eX4_lot_77 rfl ?_
  refine r_iload eX4_lot_79 rfl ?_
  refine n_mul eX4_lot_81 ?_
  refine z_top (y := nI 180) (by decide +kernel) ?_
  refine r_istore eX4_lot_82 (by decide) ?_
  refine r_iload eX4_lot_84 rfl ?_
  refine r_iload eX4_lot_86 rfl ?_
  refine r_callSi2 eX4_lot_88 lX4_192 (s4_common 20 171 180 (by decide) (by decide) (by decide)) (by omega) (Nat.le_of_ble_eq_true rfl) (fun r1 h1 hq => ?_)
  obtain ⟨hq1, rfl⟩ := hq
  obtain rfl : r1 = nI (9) := by rw [hq1]; decide +kernel
  refine r_istore eX4_lot_91 (by decide) ?_
  refine r_iload eX4_lot_93 rfl ?_
  refine r_iload eX4_lot_95 rfl ?_
  refine n_div eX4_lot_97 (by decide) (by decide) (by decide) ?_
  refine z_top (y := nI 19) (by decide +kernel) ?_
  refine r_istore eX4_lot_98 (by decide) ?_
  refine r_iload eX4_lot_100 rfl ?_
  refine r_iload eX4_lot_102 rfl ?_
  refine n_div eX4_lot_104 (by decide) (by decide) (by decide) ?_
  refine z_top (y := nI 20) (by decide +kernel) ?_
  refine r_istore eX4_lot_105 (by decide) ?_
  refine n_dec (a := 2) eX4_lot_107 rfl (by decide) ?_
  refine r_goto eX4_lot_110 ?_
  refine r_iload eX4_lot_57 rfl ?_
  refine n_if_le eX4_lot_59 (by decide) (fun hc59 => absurd hc59 (by decide)) (fun hc59 => ?_)
  refine r_iload_n eX4_lot_62 rfl rfl ?_
  refine n_iconst 1 eX4_lot_63 rfl ?_
  refine n_icmp_ne eX4_lot_64 (by decide) (by decide) (fun hc64 => absurd hc64 (by decide)) (fun hc64 => ?_)
  refine r_iload eX4_lot_67 rfl ?_
  refine r_iload eX4_lot_69 rfl ?_
  refine n_mul eX4_lot_71 ?_
  refine z_top (y := nI 38) (by decide +kernel) ?_
  refine r_iload eX4_lot_72 rfl ?_
  refine n_add eX4_lot_74 ?_
  refine z_top (y := nI 58) (by decide +kernel) ?_
  refine r_istore eX4_lot_75 (by decide) ?_
  refine r_iload eX4_lot_77 rfl ?_
  refine r_iload eX4_lot_79 rfl ?_
  refine n_mul eX4_lot_81 ?_
  refine z_top (y := nI 40) (by decide +kernel) ?_
  refine r_istore eX4_lot_82 (by decide) ?_
  refine r_iload eX4_lot_84 rfl ?_
  refine r_iload eX4_lot_86 rfl ?_
  refine r_callSi2 eX4_lot_88 lX4_192 (s4_common 20 58 40 (by decide) (by decide) (by decide)) (by omega) (Nat.le_of_ble_eq_true rfl) (fun r1 h1 hq => ?_)
  obtain ⟨hq1, rfl⟩ := hq
  obtain rfl : r1 = nI (2) := by rw [hq1]; decide +kernel
  refine r_istore eX4_lot_91 (by decide) ?_
  refine r_iload eX4_lot_93 rfl ?_
  refine r_iload eX4_lot_95 rfl ?_
  refine n_div eX4_lot_97 (by decide) (by decide) (by decide) ?_
  refine z_top (y := nI 29) (by decide +kernel) ?_
  refine r_istore eX4_lot_98 (by decide) ?_
  refine r_iload eX4_lot_100 rfl ?_
  refine r_iload eX4_lot_102 rfl ?_
  refine n_div eX4_lot_104 (by decide) (by decide) (by decide) ?_
  refine z_top (y := nI 20) (by decide +kernel) ?_
  refine r_istore eX4_lot_105 (by decide) ?_
  refine n_dec (a := 1) eX4_lot_107 rfl (by decide) ?_
  refine r_goto eX4_lot_110 ?_
  refine r_iload eX4_lot_57 rfl ?_
  refine n_if_le eX4_lot_59 (by decide) (fun hc59 => absurd hc59 (by decide)) (fun hc59 => ?_)
  refine r_iload_n eX4_lot_62 rfl rfl ?_
  refine n_iconst 1 eX4_lot_63 rfl ?_
  refine n_icmp_ne eX4_lot_64 (by decide) (by decide) (fun hc64 => absurd hc64 (by decide)) (fun hc64 => ?_)
  refine r_iload eX4_lot_67 rfl ?_
  refine r_iload eX4_lot_69 rfl ?_
  refine n_mul eX4_lot_71 ?_
  refine z_top (y := nI 29) (by decide +kernel) ?_
  refine r_iload eX4_lot_72 rfl ?_
  refine n_add eX4_lot_74 ?_
  refine z_top (y := nI 49) (by decide +kernel) ?_
  refine r_istore eX4_lot_75 (by decide) ?_
  refine r_iload eX4_lot_77 rfl ?_
  refine r_iload eX4_lot_79 rfl ?_
  refine n_mul eX4_lot_81 ?_
  refine z_top (y := nI 20) (by decide +kernel) ?_
  refine r_istore eX4_lot_82 (by decide) ?_
  refine r_iload eX4_lot_84 rfl ?_
  refine r_iload eX4_lot_86 rfl ?_
  refine r_callSi2 eX4_lot_88 lX4_192 (s4_common 20 49 20 (by decide) (by decide) (by decide)) (by omega) (Nat.le_of_ble_eq_true rfl) (fun r1 h1 hq => ?_)
  obtain ⟨hq1, rfl⟩ := hq
  obtain rfl : r1 = nI (1) := by rw [hq1]; decide +kernel
  refine r_istore eX4_lot_91 (by decide) ?_
  refine r_iload eX4_lot_93 rfl ?_
  refine r_iload eX4_lot_95 rfl ?_
  refine n_div eX4_lot_97 (by decide) (by decide) (by decide) ?_
  refine z_top (y := nI 49) (by decide +kernel) ?_
  refine r_istore eX4_lot_98 (by decide) ?_
  refine r_iload eX4_lot_100 rfl ?_
  refine r_iload eX4_lot_102 rfl ?_
  refine n_div eX4_lot_104 (by decide) (by decide) (by decide) ?_
  refine z_top (y := nI 20) (by decide +kernel) ?_
  refine r_istore eX4_lot_105 (by decide) ?_
  refine n_dec (a := 0) eX4_lot_107 rfl (by decide) ?_
  refine r_goto eX4_lot_110 ?_
  refine r_iload eX4_lot_57 rfl ?_
  refine n_if_le eX4_lot_59 (by decide) (fun hc59 => ?_) (fun hc59 => absurd hc59 (by decide))
  refine r_iload_n eX4_lot_113 rfl rfl ?_
  refine n_if_ne eX4_lot_114 (by decide) (fun hc114 => ?_) (fun hc114 => absurd hc114 (by decide))
  refine r_iload eX4_lot_122 rfl ?_
  exact z_iret eX4_lot_124 rfl rfl ⟨_, rfl, rfl, rfl⟩
set_option maxHeartbeats 1000000 in
set_option maxRecDepth 100000 in
theorem s4_lot_7_0 {t : zMod} {u : zCls} : Mi mX4_lot 60 [.ref 0, .int (nI (7)), .int (nI (1)), .int (nI (0))] (hA t u) (fun r h' => r = nI 363 ∧ h' = hA t u) := by
  refine Mi.of (by decide) rfl (Nat.le_of_ble_eq_true rfl) ?_
  refine r_iload_n eX4_lot_0 rfl rfl ?_
  refine n_iconst 1 eX4_lot_1 rfl ?_
  refine n_bipush 9 eX4_lot_2 rfl ?_
  refine r_callSi3 eX4_lot_4 lX4_44 (s4_within_k (by decide) (by decide)) (by omega) (Nat.le_of_ble_eq_true rfl) (fun r1 h1 hq => ?_)
  obtain ⟨rfl, rfl⟩ := hq
  refine r_istore eX4_lot_7 (by decide) ?_
  refine r_iload eX4_lot_9 rfl ?_
  refine n_if_ne eX4_lot_11 (by decide) (fun hc11 => absurd hc11 (by decide)) (fun hc11 => ?_)
  refine r_iload_n eX4_lot_14 rfl rfl ?_
  refine n_iconst 2 eX4_lot_15 rfl ?_
  refine r_callSi2 eX4_lot_16 lX4_40 (s4_isIn_y (by decide) (by decide)) (by omega) (Nat.le_of_ble_eq_true rfl) (fun r1 h1 hq => ?_)
  obtain ⟨rfl, rfl⟩ := hq
  refine n_if_eq eX4_lot_19 (by decide) (fun hc19 => absurd hc19 (by decide)) (fun hc19 => ?_)
  refine r_iload_n eX4_lot_22 rfl rfl ?_
  refine n_iconst 2 eX4_lot_23 rfl ?_
  refine r_callSi2 eX4_lot_24 lX4_40 (s4_isIn_y (by decide) (by decide)) (by omega) (Nat.le_of_ble_eq_true rfl) (fun r1 h1 hq => ?_)
  obtain ⟨rfl, rfl⟩ := hq
  refine n_if_ne eX4_lot_27 (by decide) (fun hc27 => ?_) (fun hc27 => absurd hc27 (by decide))
  refine r_iload eX4_lot_34 rfl ?_
  refine n_if_eq eX4_lot_36 (by decide) (fun hc36 => ?_) (fun hc36 => absurd hc36 (by decide))
  refine n_iconst 1 eX4_lot_46 rfl ?_
  refine r_istore eX4_lot_47 (by decide) ?_
  refine r_iload_n eX4_lot_49 rfl rfl ?_
  refine r_istore eX4_lot_50 (by decide) ?_
  refine r_iload_n eX4_lot_52 rfl rfl ?_
  refine n_iconst 1 eX4_lot_53 rfl ?_
  refine n_sub eX4_lot_54 (by decide) ?_
  refine z_top (y := nI 6) (by decide +kernel) ?_
  refine r_istore eX4_lot_55 (by decide) ?_
  refine r_iload eX4_lot_57 rfl ?_
  refine n_if_le eX4_lot_59 (by decide) (fun hc59 => absurd hc59 (by decide)) (fun hc59 => ?_)
  refine r_iload_n eX4_lot_62 rfl rfl ?_
  refine n_iconst 1 eX4_lot_63 rfl ?_
  refine n_icmp_ne eX4_lot_64 (by decide) (by decide) (fun hc64 => absurd hc64 (by decide)) (fun hc64 => ?_)
  refine r_iload eX4_lot_67 rfl ?_
  refine r_iload eX4_lot_69 rfl ?_
  refine n_mul eX4_lot_71 ?_
  refine z_top (y := nI 6) (by decide +kernel) ?_
  refine r_iload eX4_lot_72 rfl ?_
  refine n_add eX4_lot_74 ?_
  refine z_top (y := nI 13) (by decide +kernel) ?_
  refine r_istore eX4_lot_75 (by decide) ?_
  refine r_iload eX4_lot_77 rfl ?_
  refine r_iload eX4_lot_79 rfl ?_
  refine n_mul eX4_lot_81 ?_
  refine z_top (y := nI 42) (by decide +kernel) ?_
  refine r_istore eX4_lot_82 (by decide) ?_
  refine r_iload eX4_lot_84 rfl ?_
  refine r_iload eX4_lot_86 rfl ?_
  refine r_callSi2 eX4_lot_88 lX4_192 (s4_common 20 13 42 (by decide) (by decide) (by decide)) (by omega) (Nat.le_of_ble_eq_true rfl) (fun r1 h1 hq => ?_)
  obtain ⟨hq1, rfl⟩ := hq
  obtain rfl : r1 = nI (1) := by rw [hq1]; decide +kernel
  refine r_istore eX4_lot_91 (by decide) ?_
  refine r_iload eX4_lot_93 rfl ?_
  refine r_iload eX4_lot_95 rfl ?_
  refine n_div eX4_lot_97 (by decide) (by decide) (by decide) ?_
  refine z_top (y := nI 13) (by decide +kernel) ?_
  refine r_istore eX4_lot_98 (by decide) ?_
  refine r_iload eX4_lot_100 rfl ?_
  refine r_iload eX4_lot_102 rfl ?_
  refine n_div eX4_lot_104 (by decide) (by decide) (by decide) ?_
  refine z_top (y := nI 42) (by decide +kernel) ?_
  refine r_istore eX4_lot_105 (by decide) ?_
  refine n_dec (a := 5) eX4_lot_107 rfl (by decide) ?_
  refine r_goto eX4_lot_110 ?_
  refine r_iload eX4_lot_57 rfl ?_
  refine n_if_le eX4_lot_59 (by decide) (fun hc59 => absurd hc59 (by decide)) (fun hc59 => ?_)
  refine r_iload_n eX4_lot_62 rfl rfl ?_
  refine n_iconst 1 eX4_lot_63 rfl ?_
  refine n_icmp_ne eX4_lot_64 (by decide) (by decide) (fun hc64 => absurd hc64 (by decide)) (fun hc64 => ?_)
  refine r_iload eX4_lot_67 rfl ?_
  refine r_iload eX4_lot_69 rfl ?_
  refine n_mul eX4_lot_71 ?_
  refine z_top (y := nI 65) (by decide +kernel) ?_
  refine r_iload eX4_lot_72 rfl ?_
  refine n_add eX4_lot_74 ?_
  refine z_top (y := nI 107) (by decide +kernel) ?_
  refine r_istore eX4_lot_75 (by decide) ?_
  refine r_iload eX4_lot_77 rfl ?_
  refine r_iload eX4_lot_79 rfl ?_
  refine n_mul eX4_lot_81 ?_
  refine z_top (y := nI 210) (by decide +kernel) ?_
  refine r_istore eX4_lot_82 (by decide) ?_
  refine r_iload eX4_lot_84 rfl ?_
  refine r_iload eX4_lot_86 rfl ?_
  refine r_callSi2 eX4_lot_88 lX4_192 (s4_common 20 107 210 (by decide) (by decide) (by decide)) (by omega) (Nat.le_of_ble_eq_true rfl) (fun r1 h1 hq => ?_)
  obtain ⟨hq1, rfl⟩ := hq
  obtain rfl : r1 = nI (1) := by rw [hq1]; decide +kernel
  refine r_istore eX4_lot_91 (by decide) ?_
  refine r_iload eX4_lot_93 rfl ?_
  refine r_iload eX4_lot_95 rfl ?_
  refine n_div eX4_lot_97 (by decide) (by decide) (by decide) ?_
  refine z_top (y := nI 107) (by decide +kernel) ?_
  refine r_istore eX4_lot_98 (by decide) ?_
  refine r_iload eX4_lot_100 rfl ?_
  refine r_iload eX4_lot_102 rfl ?_
  refine n_div eX4_lot_104 (by decide) (by decide) (by decide) ?_
  refine z_top (y := nI 210) (by decide +kernel) ?_
  refine r_istore eX4_lot_105 (by decide) ?_
  refine n_dec (a := 4) eX4_lot_107 rfl (by decide) ?_
  refine r_goto eX4_lot_110 ?_
  refine r_iload eX4_lot_57 rfl ?_
  refine n_if_le eX4_lot_59 (by decide) (fun hc59 => absurd hc59 (by decide)) (fun hc59 => ?_)
  refine r_iload_n eX4_lot_62 rfl rfl ?_
  refine n_iconst 1 eX4_lot_63 rfl ?_
  refine n_icmp_ne eX4_lot_64 (by decide) (by decide) (fun hc64 => absurd hc64 (by decide)) (fun hc64 => ?_)
  refine r_iload eX4_lot_67 rfl ?_
  refine r_iload eX4_lot_69 rfl ?_
  refine n_mul eX4_lot_71 ?_
  refine z_top (y := nI 428) (by decide +kernel) ?_
  refine r_iload eX4_lot_72 rfl ?_
  refine n_add eX4_lot_74 ?_
  refine z_top (y := nI 638) (by decide +kernel) ?_
  refine r_istore eX4_lot_75 (by decide) ?_
  refine r_iload eX4_lot_77 rfl ?_
  refine r_iload eX4_lot_79 rfl ?_
  refine n_mul eX4_lot_81 ?_
  refine z_top (y := nI 840) (by decide +kernel) ?_
  refine r_istore eX4_lot_82 (by decide) ?_
  refine r_iload eX4_lot_84 rfl ?_
  refine r_iload eX4_lot_86 rfl ?_
  refine r_callSi2 eX4_lot_88 lX4_192 (s4_common 20 638 840 (by decide) (by decide) (by decide)) (by omega) (Nat.le_of_ble_eq_true rfl) (fun r1 h1 hq => ?_)
  obtain ⟨hq1, rfl⟩ := hq
  obtain rfl : r1 = nI (2) := by rw [hq1]; decide +kernel
  refine r_istore eX4_lot_91 (by decide) ?_
  refine r_iload eX4_lot_93 rfl ?_
  refine r_iload eX4_lot_95 rfl ?_
  refine n_div eX4_lot_97 (by decide) (by decide) (by decide) ?_
  refine z_top (y := nI 319) (by decide +kernel) ?_
  refine r_istore eX4_lot_98 (by decide) ?_
  refine r_iload eX4_lot_100 rfl ?_
  refine r_iload eX4_lot_102 rfl ?_
  refine n_div eX4_lot_104 (by decide) (by decide) (by decide) ?_
  refine z_top (y := nI 420) (by decide +kernel) ?_
  refine r_istore eX4_lot_105 (by decide) ?_
  refine n_dec (a := 3) eX4_lot_107 rfl (by decide) ?_
  refine r_goto eX4_lot_110 ?_
  refine r_iload eX4_lot_57 rfl ?_
  refine n_if_le eX4_lot_59 (by decide) (fun hc59 => absurd hc59 (by decide)) (fun hc59 => ?_)
  refine r_iload_n eX4_lot_62 rfl rfl ?_
  refine n_iconst 1 eX4_lot_63 rfl ?_
  refine n_icmp_ne eX4_lot_64 (by decide) (by decide) (fun hc64 => absurd hc64 (by decide)) (fun hc64 => ?_)
  refine r_iload eX4_lot_67 rfl ?_
  refine r_iload eX4_lot_69 rfl ?_
  refine n_mul eX4_lot_71 ?_
  refine z_top (y := nI 957) (by decide +kernel) ?_
  refine r_iload eX4_lot_72 rfl ?_
  refine n_add eX4_lot_74 ?_
  refine z_top (y := nI 1377) (by decide +kernel) ?_
  refine r_istore eX4_lot_75 (by decide) ?_
  refine r_iload eX4_lot_77 rfl ?_
  refine r_iload eX4_lot_79 rfl ?_
  refine n_mul eX4_lot_81 ?_
  refine z_top (y := nI 1260) (by decide +kernel) ?_
  refine r_istore eX4_lot_82 (by decide) ?_
  refine r_iload eX4_lot_84 rfl ?_
  refine r_iload eX4_lot_86 rfl ?_
  refine r_callSi2 eX4_lot_88 lX4_192 (s4_common 20 1377 1260 (by decide) (by decide) (by decide)) (by omega) (Nat.le_of_ble_eq_true rfl) (fun r1 h1 hq => ?_)
  obtain ⟨hq1, rfl⟩ := hq
  obtain rfl : r1 = nI (9) := by rw [hq1]; decide +kernel
  refine r_istore eX4_lot_91 (by decide) ?_
  refine r_iload eX4_lot_93 rfl ?_
  refine r_iload eX4_lot_95 rfl ?_
  refine n_div eX4_lot_97 (by decide) (by decide) (by decide) ?_
  refine z_top (y := nI 153) (by decide +kernel) ?_
  refine r_istore eX4_lot_98 (by decide) ?_
  refine r_iload eX4_lot_100 rfl ?_
  refine r_iload eX4_lot_102 rfl ?_
  refine n_div eX4_lot_104 (by decide) (by decide) (by decide) ?_
  refine z_top (y := nI 140) (by decide +kernel) ?_
  refine r_istore eX4_lot_105 (by decide) ?_
  refine n_dec (a := 2) eX4_lot_107 rfl (by decide) ?_
  refine r_goto eX4_lot_110 ?_
  refine r_iload eX4_lot_57 rfl ?_
  refine n_if_le eX4_lot_59 (by decide) (fun hc59 => absurd hc59 (by decide)) (fun hc59 => ?_)
  refine r_iload_n eX4_lot_62 rfl rfl ?_
  refine n_iconst 1 eX4_lot_63 rfl ?_
  refine n_icmp_ne eX4_lot_64 (by decide) (by decide) (fun hc64 => absurd hc64 (by decide)) (fun hc64 => ?_)
  refine r_iload eX4_lot_67 rfl ?_
  refine r_iload eX4_lot_69 rfl ?_
  refine n_mul eX4_lot_71 ?_
  refine z_top (y := nI 306) (by decide +kernel) ?_
  refine r_iload eX4_lot_72 rfl ?_
  refine n_add eX4_lot_74 ?_
  refine z_top (y := nI 446) (by decide +kernel) ?_
  refine r_istore eX4_lot_75 (by decide) ?_
  refine r_iload eX4_lot_77 rfl ?_
  refine r_iload eX4_lot_79 rfl ?_
  refine n_mul eX4_lot_81 ?_
  refine z_top (y := nI 280) (by decide +kernel) ?_
  refine r_istore eX4_lot_82 (by decide) ?_
  refine r_iload eX4_lot_84 rfl ?_
  refine r_iload eX4_lot_86 rfl ?_
  refine r_callSi2 eX4_lot_88 lX4_192 (s4_common 20 446 280 (by decide) (by decide) (by decide)) (by omega) (Nat.le_of_ble_eq_true rfl) (fun r1 h1 hq => ?_)
  obtain ⟨hq1, rfl⟩ := hq
  obtain rfl : r1 = nI (2) := by rw [hq1]; decide +kernel
  refine r_istore eX4_lot_91 (by decide) ?_
  refine r_iload eX4_lot_93 rfl ?_
  refine r_iload eX4_lot_95 rfl ?_
  refine n_div eX4_lot_97 (by decide) (by decide) (by decide) ?_
  refine z_top (y := nI 223) (by decide +kernel) ?_
  refine r_istore eX4_lot_98 (by decide) ?_
  refine r_iload eX4_lot_100 rfl ?_
  refine r_iload eX4_lot_102 rfl ?_
  refine n_div eX4_lot_104 (by decide) (by decide) (by decide) ?_
  refine z_top (y := nI 140) (by decide +kernel) ?_
  refine r_istore eX4_lot_105 (by decide) ?_
  refine n_dec (a := 1) eX4_lot_107 rfl (by decide) ?_
  refine r_goto eX4_lot_110 ?_
  refine r_iload eX4_lot_57 rfl ?_
  refine n_if_le eX4_lot_59 (by decide) (fun hc59 => absurd hc59 (by decide)) (fun hc59 => ?_)
  refine r_iload_n eX4_lot_62 rfl rfl ?_
  refine n_iconst 1 eX4_lot_63 rfl ?_
  refine n_icmp_ne eX4_lot_64 (by decide) (by decide) (fun hc64 => absurd hc64 (by decide)) (fun hc64 => ?_)
  refine r_iload eX4_lot_67 rfl ?_
  refine r_iload eX4_lot_69 rfl ?_
  refine n_mul eX4_lot_71 ?_
  refine z_top (y := nI 223) (by decide +kernel) ?_
  refine r_iload eX4_lot_72 rfl ?_
  refine n_add eX4_lot_74 ?_
  refine z_top (y := nI 363) (by decide +kernel) ?_
  refine r_istore eX4_lot_75 (by decide) ?_
  refine r_iload eX4_lot_77 rfl ?_
  refine r_iload eX4_lot_79 rfl ?_
  refine n_mul eX4_lot_81 ?_
  refine z_top (y := nI 140) (by decide +kernel) ?_
  refine r_istore eX4_lot_82 (by decide) ?_
  refine r_iload eX4_lot_84 rfl ?_
  refine r_iload eX4_lot_86 rfl ?_
  refine r_callSi2 eX4_lot_88 lX4_192 (s4_common 20 363 140 (by decide) (by decide) (by decide)) (by omega) (Nat.le_of_ble_eq_true rfl) (fun r1 h1 hq => ?_)
  obtain ⟨hq1, rfl⟩ := hq
  obtain rfl : r1 = nI (1) := by rw [hq1]; decide +kernel
  refine r_istore eX4_lot_91 (by decide) ?_
  refine r_iload eX4_lot_93 rfl ?_
  refine r_iload eX4_lot_95 rfl ?_
  refine n_div eX4_lot_97 (by decide) (by decide) (by decide) ?_
  refine z_top (y := nI 363) (by decide +kernel) ?_
  refine r_istore eX4_lot_98 (by decide) ?_
  refine r_iload eX4_lot_100 rfl ?_
  refine r_iload eX4_lot_102 rfl ?_
  refine n_div eX4_lot_104 (by decide) (by decide) (by decide) ?_
  refine z_top (y := nI 140) (by decide +kernel) ?_
  refine r_istore eX4_lot_105 (by decide) ?_
  refine n_dec (a := 0) eX4_lot_107 rfl (by decide) ?_
  refine r_goto eX4_lot_110 ?_
  refine r_iload eX4_lot_57 rfl ?_
  refine n_if_le eX4_lot_59 (by decide) (fun hc59 => ?_) (fun hc59 => absurd hc59 (by decide))
  refine r_iload_n eX4_lot_113 rfl rfl ?_
  refine n_if_ne eX4_lot_114 (by decide) (fun hc114 => absurd hc114 (by decide)) (fun hc114 => ?_)
  refine r_iload eX4_lot_117 rfl ?_
  refine r_goto eX4_lot_119 ?_
  exact z_iret eX4_lot_124 rfl rfl ⟨_, rfl, rfl, rfl⟩
set_option maxHeartbeats 1000000 in
set_option maxRecDepth 100000 in
theorem s4_lot_7_1 {t : zMod} {u : zCls} : Mi mX4_lot 60 [.ref 0, .int (nI (7)), .int (nI (1)), .int (nI (1))] (hA t u) (fun r h' => r = nI 140 ∧ h' = hA t u) := by
  refine Mi.of (by decide) rfl (Nat.le_of_ble_eq_true rfl) ?_
  refine r_iload_n eX4_lot_0 rfl rfl ?_
  refine n_iconst 1 eX4_lot_1 rfl ?_
  refine n_bipush 9 eX4_lot_2 rfl ?_
  refine r_callSi3 eX4_lot_4 lX4_44 (s4_within_k (by decide) (by decide)) (by omega) (Nat.le_of_ble_eq_true rfl) (fun r1 h1 hq => ?_)
  obtain ⟨rfl, rfl⟩ := hq
  refine r_istore eX4_lot_7 (by decide) ?_
  refine r_iload eX4_lot_9 rfl ?_
  refine n_if_ne eX4_lot_11 (by decide) (fun hc11 => absurd hc11 (by decide)) (fun hc11 => ?_)
  refine r_iload_n eX4_lot_14 rfl rfl ?_
  refine n_iconst 2 eX4_lot_15 rfl ?_
  refine r_callSi2 eX4_lot_16 lX4_40 (s4_isIn_y (by decide) (by decide)) (by omega) (Nat.le_of_ble_eq_true rfl) (fun r1 h1 hq => ?_)
  obtain ⟨rfl, rfl⟩ := hq
  refine n_if_eq eX4_lot_19 (by decide) (fun hc19 => absurd hc19 (by decide)) (fun hc19 => ?_)
  refine r_iload_n eX4_lot_22 rfl rfl ?_
  refine n_iconst 2 eX4_lot_23 rfl ?_
  refine r_callSi2 eX4_lot_24 lX4_40 (s4_isIn_y (by decide) (by decide)) (by omega) (Nat.le_of_ble_eq_true rfl) (fun r1 h1 hq => ?_)
  obtain ⟨rfl, rfl⟩ := hq
  refine n_if_ne eX4_lot_27 (by decide) (fun hc27 => ?_) (fun hc27 => absurd hc27 (by decide))
  refine r_iload eX4_lot_34 rfl ?_
  refine n_if_eq eX4_lot_36 (by decide) (fun hc36 => ?_) (fun hc36 => absurd hc36 (by decide))
  refine n_iconst 1 eX4_lot_46 rfl ?_
  refine r_istore eX4_lot_47 (by decide) ?_
  refine r_iload_n eX4_lot_49 rfl rfl ?_
  refine r_istore eX4_lot_50 (by decide) ?_
  refine r_iload_n eX4_lot_52 rfl rfl ?_
  refine n_iconst 1 eX4_lot_53 rfl ?_
  refine n_sub eX4_lot_54 (by decide) ?_
  refine z_top (y := nI 6) (by decide +kernel) ?_
  refine r_istore eX4_lot_55 (by decide) ?_
  refine r_iload eX4_lot_57 rfl ?_
  refine n_if_le eX4_lot_59 (by decide) (fun hc59 => absurd hc59 (by decide)) (fun hc59 => ?_)
  refine r_iload_n eX4_lot_62 rfl rfl ?_
  refine n_iconst 1 eX4_lot_63 rfl ?_
  refine n_icmp_ne eX4_lot_64 (by decide) (by decide) (fun hc64 => absurd hc64 (by decide)) (fun hc64 => ?_)
  refine r_iload eX4_lot_67 rfl ?_
  refine r_iload eX4_lot_69 rfl ?_
  refine n_mul eX4_lot_71 ?_
  refine z_top (y := nI 6) (by decide +kernel) ?_
  refine r_iload eX4_lot_72 rfl ?_
  refine n_add eX4_lot_74 ?_
  refine z_top (y := nI 13) (by decide +kernel) ?_
  refine r_istore eX4_lot_75 (by decide) ?_
  refine r_iload eX4_lot_77 rfl ?_
  refine r_iload eX4_lot_79 rfl ?_
  refine n_mul eX4_lot_81 ?_
  refine z_top (y := nI 42) (by decide +kernel) ?_
  refine r_istore eX4_lot_82 (by decide) ?_
  refine r_iload eX4_lot_84 rfl ?_
  refine r_iload eX4_lot_86 rfl ?_
  refine r_callSi2 eX4_lot_88 lX4_192 (s4_common 20 13 42 (by decide) (by decide) (by decide)) (by omega) (Nat.le_of_ble_eq_true rfl) (fun r1 h1 hq => ?_)
  obtain ⟨hq1, rfl⟩ := hq
  obtain rfl : r1 = nI (1) := by rw [hq1]; decide +kernel
  refine r_istore eX4_lot_91 (by decide) ?_
  refine r_iload eX4_lot_93 rfl ?_
  refine r_iload eX4_lot_95 rfl ?_
  refine n_div eX4_lot_97 (by decide) (by decide) (by decide) ?_
  refine z_top (y := nI 13) (by decide +kernel) ?_
  refine r_istore eX4_lot_98 (by decide) ?_
  refine r_iload eX4_lot_100 rfl ?_
  refine r_iload eX4_lot_102 rfl ?_
  refine n_div eX4_lot_104 (by decide) (by decide) (by decide) ?_
  refine z_top (y := nI 42) (by decide +kernel) ?_
  refine r_istore eX4_lot_105 (by decide) ?_
  refine n_dec (a := 5) eX4_lot_107 rfl (by decide) ?_
  refine r_goto eX4_lot_110 ?_
  refine r_iload eX4_lot_57 rfl ?_
  refine n_if_le eX4_lot_59 (by decide) (fun hc59 => absurd hc59 (by decide)) (fun hc59 => ?_)
  refine r_iload_n eX4_lot_62 rfl rfl ?_
  refine n_iconst 1 eX4_lot_63 rfl ?_
  refine n_icmp_ne eX4_lot_64 (by decide) (by decide) (fun hc64 => absurd hc64 (by decide)) (fun hc64 => ?_)
  refine r_iload eX4_lot_67 rfl ?_
  refine r_iload eX4_lot_69 rfl ?_
  refine n_mul eX4_lot_71 ?_
  refine z_top (y := nI 65) (by decide +kernel) ?_
  refine r_iload eX4_lot_72 rfl ?_
  refine n_add eX4_lot_74 ?_
  refine z_top (y := nI 107) (by decide +kernel) ?_
  refine r_istore eX4_lot_75 (by decide) ?_
  refine r_iload eX4_lot_77 rfl ?_
  refine r_iload eX4_lot_79 rfl ?_
  refine n_mul eX4_lot_81 ?_
  refine z_top (y := nI 210) (by decide +kernel) ?_
  refine r_istore eX4_lot_82 (by decide) ?_
  refine r_iload eX4_lot_84 rfl ?_
  refine r_iload eX4_lot_86 rfl ?_
  refine r_callSi2 eX4_lot_88 lX4_192 (s4_common 20 107 210 (by decide) (by decide) (by decide)) (by omega) (Nat.le_of_ble_eq_true rfl) (fun r1 h1 hq => ?_)
  obtain ⟨hq1, rfl⟩ := hq
  obtain rfl : r1 = nI (1) := by rw [hq1]; decide +kernel
  refine r_istore eX4_lot_91 (by decide) ?_
  refine r_iload eX4_lot_93 rfl ?_
  refine r_iload eX4_lot_95 rfl ?_
  refine n_div eX4_lot_97 (by decide) (by decide) (by decide) ?_
  refine z_top (y := nI 107) (by decide +kernel) ?_
  refine r_istore eX4_lot_98 (by decide) ?_
  refine r_iload eX4_lot_100 rfl ?_
  refine r_iload eX4_lot_102 rfl ?_
  refine n_div eX4_lot_104 (by decide) (by decide) (by decide) ?_
  refine z_top (y := nI 210) (by decide +kernel) ?_
  refine r_istore eX4_lot_105 (by decide) ?_
  refine n_dec (a := 4) eX4_lot_107 rfl (by decide) ?_
  refine r_goto eX4_lot_110 ?_
  refine r_iload eX4_lot_57 rfl ?_
  refine n_if_le eX4_lot_59 (by decide) (fun hc59 => absurd hc59 (by decide)) (fun hc59 => ?_)
  refine r_iload_n eX4_lot_62 rfl rfl ?_
  refine n_iconst 1 eX4_lot_63 rfl ?_
  refine n_icmp_ne eX4_lot_64 (by decide) (by decide) (fun hc64 => absurd hc64 (by decide)) (fun hc64 => ?_)
  refine r_iload eX4_lot_67 rfl ?_
  refine r_iload eX4_lot_69 rfl ?_
  refine n_mul eX4_lot_71 ?_
  refine z_top (y := nI 428) (by decide +kernel) ?_
  refine r_iload eX4_lot_72 rfl ?_
  refine n_add eX4_lot_74 ?_
  refine z_top (y := nI 638) (by decide +kernel) ?_
  refine r_istore eX4_lot_75 (by decide) ?_
  refine r_iload eX4_lot_77 rfl ?_
  refine r_iload eX4_lot_79 rfl ?_
  refine n_mul eX4_lot_81 ?_
  refine z_top (y := nI 840) (by decide +kernel) ?_
  refine r_istore eX4_lot_82 (by decide) ?_
  refine r_iload eX4_lot_84 rfl ?_
  refine r_iload eX4_lot_86 rfl ?_
  refine r_callSi2 eX4_lot_88 lX4_192 (s4_common 20 638 840 (by decide) (by decide) (by decide)) (by omega) (Nat.le_of_ble_eq_true rfl) (fun r1 h1 hq => ?_)
  obtain ⟨hq1, rfl⟩ := hq
  obtain rfl : r1 = nI (2) := by rw [hq1]; decide +kernel
  refine r_istore eX4_lot_91 (by decide) ?_
  refine r_iload eX4_lot_93 rfl ?_
  refine r_iload eX4_lot_95 rfl ?_
  refine n_div eX4_lot_97 (by decide) (by decide) (by decide) ?_
  refine z_top (y := nI 319) (by decide +kernel) ?_
  refine r_istore eX4_lot_98 (by decide) ?_
  refine r_iload eX4_lot_100 rfl ?_
  refine r_iload eX4_lot_102 rfl ?_
  refine n_div eX4_lot_104 (by decide) (by decide) (by decide) ?_
  refine z_top (y := nI 420) (by decide +kernel) ?_
  refine r_istore eX4_lot_105 (by decide) ?_
  refine n_dec (a := 3) eX4_lot_107 rfl (by decide) ?_
  refine r_goto eX4_lot_110 ?_
  refine r_iload eX4_lot_57 rfl ?_
  refine n_if_le eX4_lot_59 (by decide) (fun hc59 => absurd hc59 (by decide)) (fun hc59 => ?_)
  refine r_iload_n eX4_lot_62 rfl rfl ?_
  refine n_iconst 1 eX4_lot_63 rfl ?_
  refine n_icmp_ne eX4_lot_64 (by decide) (by decide) (fun hc64 => absurd hc64 (by decide)) (fun hc64 => ?_)
  refine r_iload eX4_lot_67 rfl ?_
  refine r_iload eX4_lot_69 rfl ?_
  refine n_mul eX4_lot_71 ?_
  refine z_top (y := nI 957) (by decide +kernel) ?_
  refine r_iload eX4_lot_72 rfl ?_
  refine n_add eX4_lot_74 ?_
  refine z_top (y := nI 1377) (by decide +kernel) ?_
  refine r_istore eX4_lot_75 (by decide) ?_
  refine r_iload eX4_lot_77 rfl ?_
  refine r_iload eX4_lot_79 rfl ?_
  refine n_mul eX4_lot_81 ?_
  refine z_top (y := nI 1260) (by decide +kernel) ?_
  refine r_istore eX4_lot_82 (by decide) ?_
  refine r_iload eX4_lot_84 rfl ?_
  refine r_iload eX4_lot_86 rfl ?_
  refine r_callSi2 eX4_lot_88 lX4_192 (s4_common 20 1377 1260 (by decide) (by decide) (by decide)) (by omega) (Nat.le_of_ble_eq_true rfl) (fun r1 h1 hq => ?_)
  obtain ⟨hq1, rfl⟩ := hq
  obtain rfl : r1 = nI (9) := by rw [hq1]; decide +kernel
  refine r_istore eX4_lot_91 (by decide) ?_
  refine r_iload eX4_lot_93 rfl ?_
  refine r_iload eX4_lot_95 rfl ?_
  refine n_div eX4_lot_97 (by decide) (by decide) (by decide) ?_
  refine z_top (y := nI 153) (by decide +kernel) ?_
  refine r_istore eX4_lot_98 (by decide) ?_
  refine r_iload eX4_lot_100 rfl ?_
  refine r_iload eX4_lot_102 rfl ?_
  refine n_div eX4_lot_104 (by decide) (by decide) (by decide) ?_
  refine z_top (y := nI 140) (by decide +kernel) ?_
  refine r_istore eX4_lot_105 (by decide) ?_
  refine n_dec (a := 2) eX4_lot_107 rfl (by decide) ?_
  refine r_goto eX4_lot_110 ?_
  refine r_iload eX4_lot_57 rfl ?_
  refine n_if_le eX4_lot_59 (by decide) (fun hc59 => absurd hc59 (by decide)) (fun hc59 => ?_)
  refine r_iload_n eX4_lot_62 rfl rfl ?_
  refine n_iconst 1 eX4_lot_63 rfl ?_
  refine n_icmp_ne eX4_lot_64 (by decide) (by decide) (fun hc64 => absurd hc64 (by decide)) (fun hc64 => ?_)
  refine r_iload eX4_lot_67 rfl ?_
  refine r_iload eX4_lot_69 rfl ?_
  refine n_mul eX4_lot_71 ?_
  refine z_top (y := nI 306) (by decide +kernel) ?_
  refine r_iload eX4_lot_72 rfl ?_
  refine n_add eX4_lot_74 ?_
  refine z_top (y := nI 446) (by decide +kernel) ?_
  refine r_istore eX4_lot_75 (by decide) ?_
  refine r_iload eX4_lot_77 rfl ?_
  refine r_iload eX4_lot_79 rfl ?_
  refine n_mul eX4_lot_81 ?_
  refine z_top (y := nI 280) (by decide +kernel) ?_
  refine r_istore eX4_lot_82 (by decide) ?_
  refine r_iload eX4_lot_84 rfl ?_
  refine r_iload eX4_lot_86 rfl ?_
  refine r_callSi2 eX4_lot_88 lX4_192 (s4_common 20 446 280 (by decide) (by decide) (by decide)) (by omega) (Nat.le_of_ble_eq_true rfl) (fun r1 h1 hq => ?_)
  obtain ⟨hq1, rfl⟩ := hq
  obtain rfl : r1 = nI (2) := by rw [hq1]; decide +kernel
  refine r_istore eX4_lot_91 (by decide) ?_
  refine r_iload eX4_lot_93 rfl ?_
  refine r_iload eX4_lot_95 rfl ?_
  refine n_div eX4_lot_97 (by decide) (by decide) (by decide) ?_
  refine z_top (y := nI 223) (by decide +kernel) ?_
  refine r_istore eX4_lot_98 (by decide) ?_
  refine r_iload eX4_lot_100 rfl ?_
  refine r_iload eX4_lot_102 rfl ?_
  refine n_div eX4_lot_104 (by decide) (by decide) (by decide) ?_
  refine z_top (y := nI 140) (by decide +kernel) ?_
  refine r_istore eX4_lot_105 (by decide) ?_
  refine n_dec (a := 1) eX4_lot_107 rfl (by decide) ?_
  refine r_goto eX4_lot_110 ?_
  refine r_iload eX4_lot_57 rfl ?_
  refine n_if_le eX4_lot_59 (by decide) (fun hc59 => absurd hc59 (by decide)) (fun hc59 => ?_)
  refine r_iload_n eX4_lot_62 rfl rfl ?_
  refine n_iconst 1 eX4_lot_63 rfl ?_
  refine n_icmp_ne eX4_lot_64 (by decide) (by decide) (fun hc64 => absurd hc64 (by decide)) (fun hc64 => ?_)
  refine r_iload eX4_lot_67 rfl ?_
  refine r_iload eX4_lot_69 rfl ?_
  refine n_mul eX4_lot_71 ?_
  refine z_top (y := nI 223) (by decide +kernel) ?_
  refine r_iload eX4_lot_72 rfl ?_
  refine n_add eX4_lot_74 ?_
  refine z_top (y := nI 363) (by decide +kernel) ?_
  refine r_istore eX4_lot_75 (by decide) ?_
  refine r_iload eX4_lot_77 rfl ?_
  refine r_iload eX4_lot_79 rfl ?_
  refine n_mul eX4_lot_81 ?_
  refine z_top (y := nI 140) (by decide +kernel) ?_
  refine r_istore eX4_lot_82 (by decide) ?_
  refine r_iload eX4_lot_84 rfl ?_
  refine r_iload eX4_lot_86 rfl ?_
  refine r_callSi2 eX4_lot_88 lX4_192 (s4_common 20 363 140 (by decide) (by decide) (by decide)) (by omega) (Nat.le_of_ble_eq_true rfl) (fun r1 h1 hq => ?_)
  obtain ⟨hq1, rfl⟩ := hq
  obtain rfl : r1 = nI (1) := by rw [hq1]; decide +kernel
  refine r_istore eX4_lot_91 (by decide) ?_
  refine r_iload eX4_lot_93 rfl ?_
  refine r_iload eX4_lot_95 rfl ?_
  refine n_div eX4_lot_97 (by decide) (by decide) (by decide) ?_
  refine z_top (y := nI 363) (by decide +kernel) ?_
  refine r_istore eX4_lot_98 (by decide) ?_
  refine r_iload eX4_lot_100 rfl ?_
  refine r_iload eX4_lot_102 rfl ?_
  refine n_div eX4_lot_104 (by decide) (by decide) (by decide) ?_
  refine z_top (y := nI 140) (by decide +kernel) ?_
  refine r_istore eX4_lot_105 (by decide) ?_
  refine n_dec (a := 0) eX4_lot_107 rfl (by decide) ?_
  refine r_goto eX4_lot_110 ?_
  refine r_iload eX4_lot_57 rfl ?_
  refine n_if_le eX4_lot_59 (by decide) (fun hc59 => ?_) (fun hc59 => absurd hc59 (by decide))
  refine r_iload_n eX4_lot_113 rfl rfl ?_
  refine n_if_ne eX4_lot_114 (by decide) (fun hc114 => ?_) (fun hc114 => absurd hc114 (by decide))
  refine r_iload eX4_lot_122 rfl ?_
  exact z_iret eX4_lot_124 rfl rfl ⟨_, rfl, rfl, rfl⟩
set_option maxHeartbeats 1000000 in
set_option maxRecDepth 100000 in
theorem s4_lot_8_0 {t : zMod} {u : zCls} : Mi mX4_lot 60 [.ref 0, .int (nI (8)), .int (nI (1)), .int (nI (0))] (hA t u) (fun r h' => r = nI 761 ∧ h' = hA t u) := by
  refine Mi.of (by decide) rfl (Nat.le_of_ble_eq_true rfl) ?_
  refine r_iload_n eX4_lot_0 rfl rfl ?_
  refine n_iconst 1 eX4_lot_1 rfl ?_
  refine n_bipush 9 eX4_lot_2 rfl ?_
  refine r_callSi3 eX4_lot_4 lX4_44 (s4_within_k (by decide) (by decide)) (by omega) (Nat.le_of_ble_eq_true rfl) (fun r1 h1 hq => ?_)
  obtain ⟨rfl, rfl⟩ := hq
  refine r_istore eX4_lot_7 (by decide) ?_
  refine r_iload eX4_lot_9 rfl ?_
  refine n_if_ne eX4_lot_11 (by decide) (fun hc11 => absurd hc11 (by decide)) (fun hc11 => ?_)
  refine r_iload_n eX4_lot_14 rfl rfl ?_
  refine n_iconst 2 eX4_lot_15 rfl ?_
  refine r_callSi2 eX4_lot_16 lX4_40 (s4_isIn_y (by decide) (by decide)) (by omega) (Nat.le_of_ble_eq_true rfl) (fun r1 h1 hq => ?_)
  obtain ⟨rfl, rfl⟩ := hq
  refine n_if_eq eX4_lot_19 (by decide) (fun hc19 => absurd hc19 (by decide)) (fun hc19 => ?_)
  refine r_iload_n eX4_lot_22 rfl rfl ?_
  refine n_iconst 2 eX4_lot_23 rfl ?_
  refine r_callSi2 eX4_lot_24 lX4_40 (s4_isIn_y (by decide) (by decide)) (by omega) (Nat.le_of_ble_eq_true rfl) (fun r1 h1 hq => ?_)
  obtain ⟨rfl, rfl⟩ := hq
  refine n_if_ne eX4_lot_27 (by decide) (fun hc27 => ?_) (fun hc27 => absurd hc27 (by decide))
  refine r_iload eX4_lot_34 rfl ?_
  refine n_if_eq eX4_lot_36 (by decide) (fun hc36 => ?_) (fun hc36 => absurd hc36 (by decide))
  refine n_iconst 1 eX4_lot_46 rfl ?_
  refine r_istore eX4_lot_47 (by decide) ?_
  refine r_iload_n eX4_lot_49 rfl rfl ?_
  refine r_istore eX4_lot_50 (by decide) ?_
  refine r_iload_n eX4_lot_52 rfl rfl ?_
  refine n_iconst 1 eX4_lot_53 rfl ?_
  refine n_sub eX4_lot_54 (by decide) ?_
  refine z_top (y := nI 7) (by decide +kernel) ?_
  refine r_istore eX4_lot_55 (by decide) ?_
  refine r_iload eX4_lot_57 rfl ?_
  refine n_if_le eX4_lot_59 (by decide) (fun hc59 => absurd hc59 (by decide)) (fun hc59 => ?_)
  refine r_iload_n eX4_lot_62 rfl rfl ?_
  refine n_iconst 1 eX4_lot_63 rfl ?_
  refine n_icmp_ne eX4_lot_64 (by decide) (by decide) (fun hc64 => absurd hc64 (by decide)) (fun hc64 => ?_)
  refine r_iload eX4_lot_67 rfl ?_
  refine r_iload eX4_lot_69 rfl ?_
  refine n_mul eX4_lot_71 ?_
  refine z_top (y := nI 7) (by decide +kernel) ?_
  refine r_iload eX4_lot_72 rfl ?_
  refine n_add eX4_lot_74 ?_
  refine z_top (y := nI 15) (by decide +kernel) ?_
  refine r_istore eX4_lot_75 (by decide) ?_
  refine r_iload eX4_lot_77 rfl ?_
  refine r_iload eX4_lot_79 rfl ?_
  refine n_mul eX4_lot_81 ?_
  refine z_top (y := nI 56) (by decide +kernel) ?_
  refine r_istore eX4_lot_82 (by decide) ?_
  refine r_iload eX4_lot_84 rfl ?_
  refine r_iload eX4_lot_86 rfl ?_
  refine r_callSi2 eX4_lot_88 lX4_192 (s4_common 20 15 56 (by decide) (by decide) (by decide)) (by omega) (Nat.le_of_ble_eq_true rfl) (fun r1 h1 hq => ?_)
  obtain ⟨hq1, rfl⟩ := hq
  obtain rfl : r1 = nI (1) := by rw [hq1]; decide +kernel
  refine r_istore eX4_lot_91 (by decide) ?_
  refine r_iload eX4_lot_93 rfl ?_
  refine r_iload eX4_lot_95 rfl ?_
  refine n_div eX4_lot_97 (by decide) (by decide) (by decide) ?_
  refine z_top (y := nI 15) (by decide +kernel) ?_
  refine r_istore eX4_lot_98 (by decide) ?_
  refine r_iload eX4_lot_100 rfl ?_
  refine r_iload eX4_lot_102 rfl ?_
  refine n_div eX4_lot_104 (by decide) (by decide) (by decide) ?_
  refine z_top (y := nI 56) (by decide +kernel) ?_
  refine r_istore eX4_lot_105 (by decide) ?_
  refine n_dec (a := 6) eX4_lot_107 rfl (by decide) ?_
  refine r_goto eX4_lot_110 ?_
  refine r_iload eX4_lot_57 rfl ?_
  refine n_if_le eX4_lot_59 (by decide) (fun hc59 => absurd hc59 (by decide)) (fun hc59 => ?_)
  refine r_iload_n eX4_lot_62 rfl rfl ?_
  refine n_iconst 1 eX4_lot_63 rfl ?_
  refine n_icmp_ne eX4_lot_64 (by decide) (by decide) (fun hc64 => absurd hc64 (by decide)) (fun hc64 => ?_)
  refine r_iload eX4_lot_67 rfl ?_
  refine r_iload eX4_lot_69 rfl ?_
  refine n_mul eX4_lot_71 ?_
  refine z_top (y := nI 90) (by decide +kernel) ?_
  refine r_iload eX4_lot_72 rfl ?_
  refine n_add eX4_lot_74 ?_
  refine z_top (y := nI 146) (by decide +kernel) ?_
  refine r_istore eX4_lot_75 (by decide) ?_
  refine r_iload eX4_lot_77 rfl ?_
  refine r_iload eX4_lot_79 rfl ?_
  refine n_mul eX4_lot_81 ?_
  refine z_top (y := nI 336) (by decide +kernel) ?_
  refine r_istore eX4_lot_82 (by decide) ?_
  refine r_iload eX4_lot_84 rfl ?_
  refine r_iload eX4_lot_86 rfl ?_
  refine r_callSi2 eX4_lot_88 lX4_192 (s4_common 20 146 336 (by decide) (by decide) (by decide)) (by omega) (Nat.le_of_ble_eq_true rfl) (fun r1 h1 hq => ?_)
  obtain ⟨hq1, rfl⟩ := hq
  obtain rfl : r1 = nI (2) := by rw [hq1]; decide +kernel
  refine r_istore eX4_lot_91 (by decide) ?_
  refine r_iload eX4_lot_93 rfl ?_
  refine r_iload eX4_lot_95 rfl ?_
  refine n_div eX4_lot_97 (by decide) (by decide) (by decide) ?_
  refine z_top (y := nI 73) (by decide +kernel) ?_
  refine r_istore eX4_lot_98 (by decide) ?_
  refine r_iload eX4_lot_100 rfl ?_
  refine r_iload eX4_lot_102 rfl ?_
  refine n_div eX4_lot_104 (by decide) (by decide) (by decide) ?_
  refine z_top (y := nI 168) (by decide +kernel) ?_
  refine r_istore eX4_lot_105 (by decide) ?_
  refine n_dec (a := 5) eX4_lot_107 rfl (by decide) ?_
  refine r_goto eX4_lot_110 ?_
  refine r_iload eX4_lot_57 rfl ?_
  refine n_if_le eX4_lot_59 (by decide) (fun hc59 => absurd hc59 (by decide)) (fun hc59 => ?_)
  refine r_iload_n eX4_lot_62 rfl rfl ?_
  refine n_iconst 1 eX4_lot_63 rfl ?_
  refine n_icmp_ne eX4_lot_64 (by decide) (by decide) (fun hc64 => absurd hc64 (by decide)) (fun hc64 => ?_)
  refine r_iload eX4_lot_67 rfl ?_
  refine r_iload eX4_lot_69 rfl ?_
  refine n_mul eX4_lot_71 ?_
  refine z_top (y := nI 365) (by decide +kernel) ?_
  refine r_iload eX4_lot_72 rfl ?_
  refine n_add eX4_lot_74 ?_
  refine z_top (y := nI 533) (by decide +kernel) ?_
  refine r_istore eX4_lot_75 (by decide) ?_
  refine r_iload eX4_lot_77 rfl ?_
  refine r_iload eX4_lot_79 rfl ?_
  refine n_mul eX4_lot_81 ?_
  refine z_top (y := nI 840) (by decide +kernel) ?_
  refine r_istore eX4_lot_82 (by decide) ?_
  refine r_iload eX4_lot_84 rfl ?_
  refine r_iload eX4_lot_86 rfl ?_
  refine r_callSi2 eX4_lot_88 lX4_192 (s4_common 20 533 840 (by decide) (by decide) (by decide)) (by omega) (Nat.le_of_ble_eq_true rfl) (fun r1 h1 hq => ?_)
  obtain ⟨hq1, rfl⟩ := hq
  obtain rfl : r1 = nI (1) := by rw [hq1]; decide +kernel
  refine r_istore eX4_lot_91 (by decide) ?_
  refine r_iload eX4_lot_93 rfl ?_
  refine r_iload eX4_lot_95 rfl ?_
  refine n_div eX4_lot_97 (by decide) (by decide) (by decide) ?_
  refine z_top (y := nI 533) (by decide +kernel) ?_
  refine r_istore eX4_lot_98 (by decide) ?_
  refine r_iload eX4_lot_100 rfl ?_
  refine r_iload eX4_lot_102 rfl ?_
  refine n_div eX4_lot_104 (by decide) (by decide) (by decide) ?_
  refine z_top (y := nI 840) (by decide +kernel) ?_
  refine r_istore eX4_lot_105 (by decide) ?_
  refine n_dec (a := 4) eX4_lot_107 rfl (by decide) ?_
  refine r_goto eX4_lot_110 ?_
  refine r_iload eX4_lot_57 rfl ?_
  refine n_if_le eX4_lot_59 (by decide) (fun hc59 => absurd hc59 (by decide)) (fun hc59 => ?_)
  refine r_iload_n eX4_lot_62 rfl rfl ?_
  refine n_iconst 1 eX4_lot_63 rfl ?_
  refine n_icmp_ne eX4_lot_64 (by decide) (by decide) (fun hc64 => absurd hc64 (by decide)) (fun hc64 => ?_)
  refine r_iload eX4_lot_67 rfl ?_
  refine r_iload eX4_lot_69 rfl ?_
  refine n_mul eX4_lot_71 ?_
  refine z_top (y := nI 2132) (by decide +kernel) ?_
  refine r_iload eX4_lot_72 rfl ?_
  refine n_add eX4_lot_74 ?_
  refine z_top (y := nI 2972) (by decide +kernel) ?_
  refine r_istore eX4_lot_75 (by decide) ?_
  refine r_iload eX4_lot_77 rfl ?_
  refine r_iload eX4_lot_79 rfl ?_
  refine n_mul eX4_lot_81 ?_
  refine z_top (y := nI 3360) (by decide +kernel) ?_
  refine r_istore eX4_lot_82 (by decide) ?_
  refine r_iload eX4_lot_84 rfl ?_
  refine r_iload eX4_lot_86 rfl ?_
  refine r_callSi2 eX4_lot_88 lX4_192 (s4_common 20 2972 3360 (by decide) (by decide) (by decide)) (by omega) (Nat.le_of_ble_eq_true rfl) (fun r1 h1 hq => ?_)
  obtain ⟨hq1, rfl⟩ := hq
  obtain rfl : r1 = nI (4) := by rw [hq1]; decide +kernel
  refine r_istore eX4_lot_91 (by decide) ?_
  refine r_iload eX4_lot_93 rfl ?_
  refine r_iload eX4_lot_95 rfl ?_
  refine n_div eX4_lot_97 (by decide) (by decide) (by decide) ?_
  refine z_top (y := nI 743) (by decide +kernel) ?_
  refine r_istore eX4_lot_98 (by decide) ?_
  refine r_iload eX4_lot_100 rfl ?_
  refine r_iload eX4_lot_102 rfl ?_
  refine n_div eX4_lot_104 (by decide) (by decide) (by decide) ?_
  refine z_top (y := nI 840) (by decide +kernel) ?_
  refine r_istore eX4_lot_105 (by decide) ?_
  refine n_dec (a := 3) eX4_lot_107 rfl (by decide) ?_
  refine r_goto eX4_lot_110 ?_
  refine r_iload eX4_lot_57 rfl ?_
  refine n_if_le eX4_lot_59 (by decide) (fun hc59 => absurd hc59 (by decide)) (fun hc59 => ?_)
  refine r_iload_n eX4_lot_62 rfl rfl ?_
  refine n_iconst 1 eX4_lot_63 rfl ?_
  refine n_icmp_ne eX4_lot_64 (by decide) (by decide) (fun hc64 => absurd hc64 (by decide)) (fun hc64 => ?_)
  refine r_iload eX4_lot_67 rfl ?_
  refine r_iload eX4_lot_69 rfl ?_
  refine n_mul eX4_lot_71 ?_
  refine z_top (y := nI 2229) (by decide +kernel) ?_
  refine r_iload eX4_lot_72 rfl ?_
  refine n_add eX4_lot_74 ?_
  refine z_top (y := nI 3069) (by decide +kernel) ?_
  refine r_istore eX4_lot_75 (by decide) ?_
  refine r_iload eX4_lot_77 rfl ?_
  refine r_iload eX4_lot_79 rfl ?_
  refine n_mul eX4_lot_81 ?_
  refine z_top (y := nI 2520) (by decide +kernel) ?_
  refine r_istore eX4_lot_82 (by decide) ?_
  refine r_iload eX4_lot_84 rfl ?_
  refine r_iload eX4_lot_86 rfl ?_
  refine r_callSi2 eX4_lot_88 lX4_192 (s4_common 20 3069 2520 (by decide) (by decide) (by decide)) (by omega) (Nat.le_of_ble_eq_true rfl) (fun r1 h1 hq => ?_)
  obtain ⟨hq1, rfl⟩ := hq
  obtain rfl : r1 = nI (9) := by rw [hq1]; decide +kernel
  refine r_istore eX4_lot_91 (by decide) ?_
  refine r_iload eX4_lot_93 rfl ?_
  refine r_iload eX4_lot_95 rfl ?_
  refine n_div eX4_lot_97 (by decide) (by decide) (by decide) ?_
  refine z_top (y := nI 341) (by decide +kernel) ?_
  refine r_istore eX4_lot_98 (by decide) ?_
  refine r_iload eX4_lot_100 rfl ?_
  refine r_iload eX4_lot_102 rfl ?_
  refine n_div eX4_lot_104 (by decide) (by decide) (by decide) ?_
  refine z_top (y := nI 280) (by decide +kernel) ?_
  refine r_istore eX4_lot_105 (by decide) ?_
  refine n_dec (a := 2) eX4_lot_107 rfl (by decide) ?_
  refine r_goto eX4_lot_110 ?_
  refine r_iload eX4_lot_57 rfl ?_
  refine n_if_le eX4_lot_59 (by decide) (fun hc59 => absurd hc59 (by decide)) (fun hc59 => ?_)
  refine r_iload_n eX4_lot_62 rfl rfl ?_
  refine n_iconst 1 eX4_lot_63 rfl ?_
  refine n_icmp_ne eX4_lot_64 (by decide) (by decide) (fun hc64 => absurd hc64 (by decide)) (fun hc64 => ?_)
  refine r_iload eX4_lot_67 rfl ?_
  refine r_iload eX4_lot_69 rfl ?_
  refine n_mul eX4_lot_71 ?_
  refine z_top (y := nI 682) (by decide +kernel) ?_
  refine r_iload eX4_lot_72 rfl ?_
  refine n_add eX4_lot_74 ?_
  refine z_top (y := nI 962) (by decide +kernel) ?_
  refine r_istore eX4_lot_75 (by decide) ?_
  refine r_iload eX4_lot_77 rfl ?_
  refine r_iload eX4_lot_79 rfl ?_
  refine n_mul eX4_lot_81 ?_
  refine z_top (y := nI 560) (by decide +kernel) ?_
  refine r_istore eX4_lot_82 (by decide) ?_
  refine r_iload eX4_lot_84 rfl ?_
  refine r_iload eX4_lot_86 rfl ?_
  refine r_callSi2 eX4_lot_88 lX4_192 (s4_common 20 962 560 (by decide) (by decide) (by decide)) (by omega) (Nat.le_of_ble_eq_true rfl) (fun r1 h1 hq => ?_)
  obtain ⟨hq1, rfl⟩ := hq
  obtain rfl : r1 = nI (2) := by rw [hq1]; decide +kernel
  refine r_istore eX4_lot_91 (by decide) ?_
  refine r_iload eX4_lot_93 rfl ?_
  refine r_iload eX4_lot_95 rfl ?_
  refine n_div eX4_lot_97 (by decide) (by decide) (by decide) ?_
  refine z_top (y := nI 481) (by decide +kernel) ?_
  refine r_istore eX4_lot_98 (by decide) ?_
  refine r_iload eX4_lot_100 rfl ?_
  refine r_iload eX4_lot_102 rfl ?_
  refine n_div eX4_lot_104 (by decide) (by decide) (by decide) ?_
  refine z_top (y := nI 280) (by decide +kernel) ?_
  refine r_istore eX4_lot_105 (by decide) ?_
  refine n_dec (a := 1) eX4_lot_107 rfl (by decide) ?_
  refine r_goto eX4_lot_110 ?_
  refine r_iload eX4_lot_57 rfl ?_
  refine n_if_le eX4_lot_59 (by decide) (fun hc59 => absurd hc59 (by decide)) (fun hc59 => ?_)
  refine r_iload_n eX4_lot_62 rfl rfl ?_
  refine n_iconst 1 eX4_lot_63 rfl ?_
  refine n_icmp_ne eX4_lot_64 (by decide) (by decide) (fun hc64 => absurd hc64 (by decide)) (fun hc64 => ?_)
  refine r_iload eX4_lot_67 rfl ?_
  refine r_iload eX4_lot_69 rfl ?_
  refine n_mul eX4_lot_71 ?_
  refine z_top (y := nI 481) (by decide +kernel) ?_
  refine r_iload eX4_lot_72 rfl ?_
  refine n_add eX4_lot_74 ?_
  refine z_top (y := nI 761) (by decide +kernel) ?_
  refine r_istore eX4_lot_75 (by decide) ?_
  refine r_iload eX4_lot_77 rfl ?_
  refine r_iload eX4_lot_79 rfl ?_
  refine n_mul eX4_lot_81 ?_
  refine z_top (y := nI 280) (by decide +kernel) ?_
  refine r_istore eX4_lot_82 (by decide) ?_
  refine r_iload eX4_lot_84 rfl ?_
  refine r_iload eX4_lot_86 rfl ?_
  refine r_callSi2 eX4_lot_88 lX4_192 (s4_common 20 761 280 (by decide) (by decide) (by decide)) (by omega) (Nat.le_of_ble_eq_true rfl) (fun r1 h1 hq => ?_)
  obtain ⟨hq1, rfl⟩ := hq
  obtain rfl : r1 = nI (1) := by rw [hq1]; decide +kernel
  refine r_istore eX4_lot_91 (by decide) ?_
  refine r_iload eX4_lot_93 rfl ?_
  refine r_iload eX4_lot_95 rfl ?_
  refine n_div eX4_lot_97 (by decide) (by decide) (by decide) ?_
  refine z_top (y := nI 761) (by decide +kernel) ?_
  refine r_istore eX4_lot_98 (by decide) ?_
  refine r_iload eX4_lot_100 rfl ?_
  refine r_iload eX4_lot_102 rfl ?_
  refine n_div eX4_lot_104 (by decide) (by decide) (by decide) ?_
  refine z_top (y := nI 280) (by decide +kernel) ?_
  refine r_istore eX4_lot_105 (by decide) ?_
  refine n_dec (a := 0) eX4_lot_107 rfl (by decide) ?_
  refine r_goto eX4_lot_110 ?_
  refine r_iload eX4_lot_57 rfl ?_
  refine n_if_le eX4_lot_59 (by decide) (fun hc59 => ?_) (fun hc59 => absurd hc59 (by decide))
  refine r_iload_n eX4_lot_113 rfl rfl ?_
  refine n_if_ne eX4_lot_114 (by decide) (fun hc114 => absurd hc114 (by decide)) (fun hc114 => ?_)
  refine r_iload eX4_lot_117 rfl ?_
  refine r_goto eX4_lot_119 ?_
  exact z_iret eX4_lot_124 rfl rfl ⟨_, rfl, rfl, rfl⟩
set_option maxHeartbeats 1000000 in
set_option maxRecDepth 100000 in
theorem s4_lot_8_1 {t : zMod} {u : zCls} : Mi mX4_lot 60 [.ref 0, .int (nI (8)), .int (nI (1)), .int (nI (1))] (hA t u) (fun r h' => r = nI 280 ∧ h' = hA t u) := by
  refine Mi.of (by decide) rfl (Nat.le_of_ble_eq_true rfl) ?_
  refine r_iload_n eX4_lot_0 rfl rfl ?_
  refine n_iconst 1 eX4_lot_1 rfl ?_
  refine n_bipush 9 eX4_lot_2 rfl ?_
  refine r_callSi3 eX4_lot_4 lX4_44 (s4_within_k (by decide) (by decide)) (by omega) (Nat.le_of_ble_eq_true rfl) (fun r1 h1 hq => ?_)
  obtain ⟨rfl, rfl⟩ := hq
  refine r_istore eX4_lot_7 (by decide) ?_
  refine r_iload eX4_lot_9 rfl ?_
  refine n_if_ne eX4_lot_11 (by decide) (fun hc11 => absurd hc11 (by decide)) (fun hc11 => ?_)
  refine r_iload_n eX4_lot_14 rfl rfl ?_
  refine n_iconst 2 eX4_lot_15 rfl ?_
  refine r_callSi2 eX4_lot_16 lX4_40 (s4_isIn_y (by decide) (by decide)) (by omega) (Nat.le_of_ble_eq_true rfl) (fun r1 h1 hq => ?_)
  obtain ⟨rfl, rfl⟩ := hq
  refine n_if_eq eX4_lot_19 (by decide) (fun hc19 => absurd hc19 (by decide)) (fun hc19 => ?_)
  refine r_iload_n eX4_lot_22 rfl rfl ?_
  refine n_iconst 2 eX4_lot_23 rfl ?_
  refine r_callSi2 eX4_lot_24 lX4_40 (s4_isIn_y (by decide) (by decide)) (by omega) (Nat.le_of_ble_eq_true rfl) (fun r1 h1 hq => ?_)
  obtain ⟨rfl, rfl⟩ := hq
  refine n_if_ne eX4_lot_27 (by decide) (fun hc27 => ?_) (fun hc27 => absurd hc27 (by decide))
  refine r_iload eX4_lot_34 rfl ?_
  refine n_if_eq eX4_lot_36 (by decide) (fun hc36 => ?_) (fun hc36 => absurd hc36 (by decide))
  refine n_iconst 1 eX4_lot_46 rfl ?_
  refine r_istore eX4_lot_47 (by decide) ?_
  refine r_iload_n eX4_lot_49 rfl rfl ?_
  refine r_istore eX4_lot_50 (by decide) ?_
  refine r_iload_n eX4_lot_52 rfl rfl ?_
  refine n_iconst 1 eX4_lot_53 rfl ?_
  refine n_sub eX4_lot_54 (by decide) ?_
  refine z_top (y := nI 7) (by decide +kernel) ?_
  refine r_istore eX4_lot_55 (by decide) ?_
  refine r_iload eX4_lot_57 rfl ?_
  refine n_if_le eX4_lot_59 (by decide) (fun hc59 => absurd hc59 (by decide)) (fun hc59 => ?_)
  refine r_iload_n eX4_lot_62 rfl rfl ?_
  refine n_iconst 1 eX4_lot_63 rfl ?_
  refine n_icmp_ne eX4_lot_64 (by decide) (by decide) (fun hc64 => absurd hc64 (by decide)) (fun hc64 => ?_)
  refine r_iload eX4_lot_67 rfl ?_
  refine r_iload eX4_lot_69 rfl ?_
  refine n_mul eX4_lot_71 ?_
  refine z_top (y := nI 7) (by decide +kernel) ?_
  refine r_iload eX4_lot_72 rfl ?_
  refine n_add eX4_lot_74 ?_
  refine z_top (y := nI 15) (by decide +kernel) ?_
  refine r_istore eX4_lot_75 (by decide) ?_
  refine r_iload eX4_lot_77 rfl ?_
  refine r_iload eX4_lot_79 rfl ?_
  refine n_mul eX4_lot_81 ?_
  refine z_top (y := nI 56) (by decide +kernel) ?_
  refine r_istore eX4_lot_82 (by decide) ?_
  refine r_iload eX4_lot_84 rfl ?_
  refine r_iload eX4_lot_86 rfl ?_
  refine r_callSi2 eX4_lot_88 lX4_192 (s4_common 20 15 56 (by decide) (by decide) (by decide)) (by omega) (Nat.le_of_ble_eq_true rfl) (fun r1 h1 hq => ?_)
  obtain ⟨hq1, rfl⟩ := hq
  obtain rfl : r1 = nI (1) := by rw [hq1]; decide +kernel
  refine r_istore eX4_lot_91 (by decide) ?_
  refine r_iload eX4_lot_93 rfl ?_
  refine r_iload eX4_lot_95 rfl ?_
  refine n_div eX4_lot_97 (by decide) (by decide) (by decide) ?_
  refine z_top (y := nI 15) (by decide +kernel) ?_
  refine r_istore eX4_lot_98 (by decide) ?_
  refine r_iload eX4_lot_100 rfl ?_
  refine r_iload eX4_lot_102 rfl ?_
  refine n_div eX4_lot_104 (by decide) (by decide) (by decide) ?_
  refine z_top (y := nI 56) (by decide +kernel) ?_
  refine r_istore eX4_lot_105 (by decide) ?_
  refine n_dec (a := 6) eX4_lot_107 rfl (by decide) ?_
  refine r_goto eX4_lot_110 ?_
  refine r_iload eX4_lot_57 rfl ?_
  refine n_if_le eX4_lot_59 (by decide) (fun hc59 => absurd hc59 (by decide)) (fun hc59 => ?_)
  refine r_iload_n eX4_lot_62 rfl rfl ?_
  refine n_iconst 1 eX4_lot_63 rfl ?_
  refine n_icmp_ne eX4_lot_64 (by decide) (by decide) (fun hc64 => absurd hc64 (by decide)) (fun hc64 => ?_)
  refine r_iload eX4_lot_67 rfl ?_
  refine r_iload eX4_lot_69 rfl ?_
  refine n_mul eX4_lot_71 ?_
  refine z_top (y := nI 90) (by decide +kernel) ?_
  refine r_iload eX4_lot_72 rfl ?_
  refine n_add eX4_lot_74 ?_
  refine z_top (y := nI 146) (by decide +kernel) ?_
  refine r_istore eX4_lot_75 (by decide) ?_
  refine r_iload eX4_lot_77 rfl ?_
  refine r_iload eX4_lot_79 rfl ?_
  refine n_mul eX4_lot_81 ?_
  refine z_top (y := nI 336) (by decide +kernel) ?_
  refine r_istore eX4_lot_82 (by decide) ?_
  refine r_iload eX4_lot_84 rfl ?_
  refine r_iload eX4_lot_86 rfl ?_
  refine r_callSi2 eX4_lot_88 lX4_192 (s4_common 20 146 336 (by decide) (by decide) (by decide)) (by omega) (Nat.le_of_ble_eq_true rfl) (fun r1 h1 hq => ?_)
  obtain ⟨hq1, rfl⟩ := hq
  obtain rfl : r1 = nI (2) := by rw [hq1]; decide +kernel
  refine r_istore eX4_lot_91 (by decide) ?_
  refine r_iload eX4_lot_93 rfl ?_
  refine r_iload eX4_lot_95 rfl ?_
  refine n_div eX4_lot_97 (by decide) (by decide) (by decide) ?_
  refine z_top (y := nI 73) (by decide +kernel) ?_
  refine r_istore eX4_lot_98 (by decide) ?_
  refine r_iload eX4_lot_100 rfl ?_
  refine r_iload eX4_lot_102 rfl ?_
  refine n_div eX4_lot_104 (by decide) (by decide) (by decide) ?_
  refine z_top (y := nI 168) (by decide +kernel) ?_
  refine r_istore eX4_lot_105 (by decide) ?_
  refine n_dec (a := 5) eX4_lot_107 rfl (by decide) ?_
  refine r_goto eX4_lot_110 ?_
  refine r_iload eX4_lot_57 rfl ?_
  refine n_if_le eX4_lot_59 (by decide) (fun hc59 => absurd hc59 (by decide)) (fun hc59 => ?_)
  refine r_iload_n eX4_lot_62 rfl rfl ?_
  refine n_iconst 1 eX4_lot_63 rfl ?_
  refine n_icmp_ne eX4_lot_64 (by decide) (by decide) (fun hc64 => absurd hc64 (by decide)) (fun hc64 => ?_)
  refine r_iload eX4_lot_67 rfl ?_
  refine r_iload eX4_lot_69 rfl ?_
  refine n_mul eX4_lot_71 ?_
  refine z_top (y := nI 365) (by decide +kernel) ?_
  refine r_iload eX4_lot_72 rfl ?_
  refine n_add eX4_lot_74 ?_
  refine z_top (y := nI 533) (by decide +kernel) ?_
  refine r_istore eX4_lot_75 (by decide) ?_
  refine r_iload eX4_lot_77 rfl ?_
  refine r_iload eX4_lot_79 rfl ?_
  refine n_mul eX4_lot_81 ?_
  refine z_top (y := nI 840) (by decide +kernel) ?_
  refine r_istore eX4_lot_82 (by decide) ?_
  refine r_iload eX4_lot_84 rfl ?_
  refine r_iload eX4_lot_86 rfl ?_
  refine r_callSi2 eX4_lot_88 lX4_192 (s4_common 20 533 840 (by decide) (by decide) (by decide)) (by omega) (Nat.le_of_ble_eq_true rfl) (fun r1 h1 hq => ?_)
  obtain ⟨hq1, rfl⟩ := hq
  obtain rfl : r1 = nI (1) := by rw [hq1]; decide +kernel
  refine r_istore eX4_lot_91 (by decide) ?_
  refine r_iload eX4_lot_93 rfl ?_
  refine r_iload eX4_lot_95 rfl ?_
  refine n_div eX4_lot_97 (by decide) (by decide) (by decide) ?_
  refine z_top (y := nI 533) (by decide +kernel) ?_
  refine r_istore eX4_lot_98 (by decide) ?_
  refine r_iload eX4_lot_100 rfl ?_
  refine r_iload eX4_lot_102 rfl ?_
  refine n_div eX4_lot_104 (by decide) (by decide) (by decide) ?_
  refine z_top (y := nI 840) (by decide +kernel) ?_
  refine r_istore eX4_lot_105 (by decide) ?_
  refine n_dec (a := 4) eX4_lot_107 rfl (by decide) ?_
  refine r_goto eX4_lot_110 ?_
  refine r_iload eX4_lot_57 rfl ?_
  refine n_if_le eX4_lot_59 (by decide) (fun hc59 => absurd hc59 (by decide)) (fun hc59 => ?_)
  refine r_iload_n eX4_lot_62 rfl rfl ?_
  refine n_iconst 1 eX4_lot_63 rfl ?_
  refine n_icmp_ne eX4_lot_64 (by decide) (by decide) (fun hc64 => absurd hc64 (by decide)) (fun hc64 => ?_)
  refine r_iload eX4_lot_67 rfl ?_
  refine r_iload eX4_lot_69 rfl ?_
  refine n_mul eX4_lot_71 ?_
  refine z_top (y := nI 2132) (by decide +kernel) ?_
  refine r_iload eX4_lot_72 rfl ?_
  refine n_add eX4_lot_74 ?_
  refine z_top (y := nI 2972) (by decide +kernel) ?_
  refine r_istore eX4_lot_75 (by decide) ?_
  refine r_iload eX4_lot_77 rfl ?_
  refine r_iload eX4_lot_79 rfl ?_
  refine n_mul eX4_lot_81 ?_
  refine z_top (y := nI 3360) (by decide +kernel) ?_
  refine r_istore eX4_lot_82 (by decide) ?_
  refine r_iload eX4_lot_84 rfl ?_
  refine r_iload eX4_lot_86 rfl ?_
  refine r_callSi2 eX4_lot_88 lX4_192 (s4_common 20 2972 3360 (by decide) (by decide) (by decide)) (by omega) (Nat.le_of_ble_eq_true rfl) (fun r1 h1 hq => ?_)
  obtain ⟨hq1, rfl⟩ := hq
  obtain rfl : r1 = nI (4) := by rw [hq1]; decide +kernel
  refine r_istore eX4_lot_91 (by decide) ?_
  refine r_iload eX4_lot_93 rfl ?_
  refine r_iload eX4_lot_95 rfl ?_
  refine n_div eX4_lot_97 (by decide) (by decide) (by decide) ?_
  refine z_top (y := nI 743) (by decide +kernel) ?_
  refine r_istore eX4_lot_98 (by decide) ?_
  refine r_iload eX4_lot_100 rfl ?_
  refine r_iload eX4_lot_102 rfl ?_
  refine n_div eX4_lot_104 (by decide) (by decide) (by decide) ?_
  refine z_top (y := nI 840) (by decide +kernel) ?_
  refine r_istore eX4_lot_105 (by decide) ?_
  refine n_dec (a := 3) eX4_lot_107 rfl (by decide) ?_
  refine r_goto eX4_lot_110 ?_
  refine r_iload eX4_lot_57 rfl ?_
  refine n_if_le eX4_lot_59 (by decide) (fun hc59 => absurd hc59 (by decide)) (fun hc59 => ?_)
  refine r_iload_n eX4_lot_62 rfl rfl ?_
  refine n_iconst 1 eX4_lot_63 rfl ?_
  refine n_icmp_ne eX4_lot_64 (by decide) (by decide) (fun hc64 => absurd hc64 (by decide)) (fun hc64 => ?_)
  refine r_iload eX4_lot_67 rfl ?_
  refine r_iload eX4_lot_69 rfl ?_
  refine n_mul eX4_lot_71 ?_
  refine z_top (y := nI 2229) (by decide +kernel) ?_
  refine r_iload eX4_lot_72 rfl ?_
  refine n_add eX4_lot_74 ?_
  refine z_top (y := nI 3069) (by decide +kernel) ?_
  refine r_istore eX4_lot_75 (by decide) ?_
  refine r_iload eX4_lot_77 rfl ?_
  refine r_iload eX4_lot_79 rfl ?_
  refine n_mul eX4_lot_81 ?_
  refine z_top (y := nI 2520) (by decide +kernel) ?_
  refine r_istore eX4_lot_82 (by decide) ?_
  refine r_iload eX4_lot_84 rfl ?_
  refine r_iload eX4_lot_86 rfl ?_
  refine r_callSi2 eX4_lot_88 lX4_192 (s4_common 20 3069 2520 (by decide) (by decide) (by decide)) (by omega) (Nat.le_of_ble_eq_true rfl) (fun r1 h1 hq => ?_)
  obtain ⟨hq1, rfl⟩ := hq
  obtain rfl : r1 = nI (9) := by rw [hq1]; decide +kernel
  refine r_istore eX4_lot_91 (by decide) ?_
  refine r_iload eX4_lot_93 rfl ?_
  refine r_iload eX4_lot_95 rfl ?_
  refine n_div eX4_lot_97 (by decide) (by decide) (by decide) ?_
  refine z_top (y := nI 341) (by decide +kernel) ?_
  refine r_istore eX4_lot_98 (by decide) ?_
  refine r_iload eX4_lot_100 rfl ?_
  refine r_iload eX4_lot_102 rfl ?_
  refine n_div eX4_lot_104 (by decide) (by decide) (by decide) ?_
  refine z_top (y := nI 280) (by decide +kernel) ?_
  refine r_istore eX4_lot_105 (by decide) ?_
  refine n_dec (a := 2) eX4_lot_107 rfl (by decide) ?_
  refine r_goto eX4_lot_110 ?_
  refine r_iload eX4_lot_57 rfl ?_
  refine n_if_le eX4_lot_59 (by decide) (fun hc59 => absurd hc59 (by decide)) (fun hc59 => ?_)
  refine r_iload_n eX4_lot_62 rfl rfl ?_
  refine n_iconst 1 eX4_lot_63 rfl ?_
  refine n_icmp_ne eX4_lot_64 (by decide) (by decide) (fun hc64 => absurd hc64 (by decide)) (fun hc64 => ?_)
  refine r_iload eX4_lot_67 rfl ?_
  refine r_iload eX4_lot_69 rfl ?_
  refine n_mul eX4_lot_71 ?_
  refine z_top (y := nI 682) (by decide +kernel) ?_
  refine r_iload eX4_lot_72 rfl ?_
  refine n_add eX4_lot_74 ?_
  refine z_top (y := nI 962) (by decide +kernel) ?_
  refine r_istore eX4_lot_75 (by decide) ?_
  refine r_iload eX4_lot_77 rfl ?_
  refine r_iload eX4_lot_79 rfl ?_
  refine n_mul eX4_lot_81 ?_
  refine z_top (y := nI 560) (by decide +kernel) ?_
  refine r_istore eX4_lot_82 (by decide) ?_
  refine r_iload eX4_lot_84 rfl ?_
  refine r_iload eX4_lot_86 rfl ?_
  refine r_callSi2 eX4_lot_88 lX4_192 (s4_common 20 962 560 (by decide) (by decide) (by decide)) (by omega) (Nat.le_of_ble_eq_true rfl) (fun r1 h1 hq => ?_)
  obtain ⟨hq1, rfl⟩ := hq
  obtain rfl : r1 = nI (2) := by rw [hq1]; decide +kernel
  refine r_istore eX4_lot_91 (by decide) ?_
  refine r_iload eX4_lot_93 rfl ?_
  refine r_iload eX4_lot_95 rfl ?_
  refine n_div eX4_lot_97 (by decide) (by decide) (by decide) ?_
  refine z_top (y := nI 481) (by decide +kernel) ?_
  refine r_istore eX4_lot_98 (by decide) ?_
  refine r_iload eX4_lot_100 rfl ?_
  refine r_iload eX4_lot_102 rfl ?_
  refine n_div eX4_lot_104 (by decide) (by decide) (by decide) ?_
  refine z_top (y := nI 280) (by decide +kernel) ?_
  refine r_istore eX4_lot_105 (by decide) ?_
  refine n_dec (a := 1) eX4_lot_107 rfl (by decide) ?_
  refine r_goto eX4_lot_110 ?_
  refine r_iload eX4_lot_57 rfl ?_
  refine n_if_le eX4_lot_59 (by decide) (fun hc59 => absurd hc59 (by decide)) (fun hc59 => ?_)
  refine r_iload_n eX4_lot_62 rfl rfl ?_
  refine n_iconst 1 eX4_lot_63 rfl ?_
  refine n_icmp_ne eX4_lot_64 (by decide) (by decide) (fun hc64 => absurd hc64 (by decide)) (fun hc64 => ?_)
  refine r_iload eX4_lot_67 rfl ?_
  refine r_iload eX4_lot_69 rfl ?_
  refine n_mul eX4_lot_71 ?_
  refine z_top (y := nI 481) (by decide +kernel) ?_
  refine r_iload eX4_lot_72 rfl ?_
  refine n_add eX4_lot_74 ?_
  refine z_top (y := nI 761) (by decide +kernel) ?_
  refine r_istore eX4_lot_75 (by decide) ?_
  refine r_iload eX4_lot_77 rfl ?_
  refine r_iload eX4_lot_79 rfl ?_
  refine n_mul eX4_lot_81 ?_
  refine z_top (y := nI 280) (by decide +kernel) ?_
  refine r_istore eX4_lot_82 (by decide) ?_
  refine r_iload eX4_lot_84 rfl ?_
  refine r_iload eX4_lot_86 rfl ?_
  refine r_callSi2 eX4_lot_88 lX4_192 (s4_common 20 761 280 (by decide) (by decide) (by decide)) (by omega) (Nat.le_of_ble_eq_true rfl) (fun r1 h1 hq => ?_)
  obtain ⟨hq1, rfl⟩ := hq
  obtain rfl : r1 = nI (1) := by rw [hq1]; decide +kernel
  refine r_istore eX4_lot_91 (by decide) ?_
  refine r_iload eX4_lot_93 rfl ?_
  refine r_iload eX4_lot_95 rfl ?_
  refine n_div eX4_lot_97 (by decide) (by decide) (by decide) ?_
  refine z_top (y := nI 761) (by decide +kernel) ?_
  refine r_istore eX4_lot_98 (by decide) ?_
  refine r_iload eX4_lot_100 rfl ?_
  refine r_iload eX4_lot_102 rfl ?_
  refine n_div eX4_lot_104 (by decide) (by decide) (by decide) ?_
  refine z_top (y := nI 280) (by decide +kernel) ?_
  refine r_istore eX4_lot_105 (by decide) ?_
  refine n_dec (a := 0) eX4_lot_107 rfl (by decide) ?_
  refine r_goto eX4_lot_110 ?_
  refine r_iload eX4_lot_57 rfl ?_
  refine n_if_le eX4_lot_59 (by decide) (fun hc59 => ?_) (fun hc59 => absurd hc59 (by decide))
  refine r_iload_n eX4_lot_113 rfl rfl ?_
  refine n_if_ne eX4_lot_114 (by decide) (fun hc114 => ?_) (fun hc114 => absurd hc114 (by decide))
  refine r_iload eX4_lot_122 rfl ?_
  exact z_iret eX4_lot_124 rfl rfl ⟨_, rfl, rfl, rfl⟩
set_option maxHeartbeats 1000000 in
set_option maxRecDepth 100000 in
theorem s4_lot_9_0 {t : zMod} {u : zCls} : Mi mX4_lot 60 [.ref 0, .int (nI (9)), .int (nI (1)), .int (nI (0))] (hA t u) (fun r h' => r = nI 7129 ∧ h' = hA t u) := by
  refine Mi.of (by decide) rfl (Nat.le_of_ble_eq_true rfl) ?_
  refine r_iload_n eX4_lot_0 rfl rfl ?_
  refine n_iconst 1 eX4_lot_1 rfl ?_
  refine n_bipush 9 eX4_lot_2 rfl ?_
  refine r_callSi3 eX4_lot_4 lX4_44 (s4_within_k (by decide) (by decide)) (by omega) (Nat.le_of_ble_eq_true rfl) (fun r1 h1 hq => ?_)
  obtain ⟨rfl, rfl⟩ := hq
  refine r_istore eX4_lot_7 (by decide) ?_
  refine r_iload eX4_lot_9 rfl ?_
  refine n_if_ne eX4_lot_11 (by decide) (fun hc11 => absurd hc11 (by decide)) (fun hc11 => ?_)
  refine r_iload_n eX4_lot_14 rfl rfl ?_
  refine n_iconst 2 eX4_lot_15 rfl ?_
  refine r_callSi2 eX4_lot_16 lX4_40 (s4_isIn_y (by decide) (by decide)) (by omega) (Nat.le_of_ble_eq_true rfl) (fun r1 h1 hq => ?_)
  obtain ⟨rfl, rfl⟩ := hq
  refine n_if_eq eX4_lot_19 (by decide) (fun hc19 => absurd hc19 (by decide)) (fun hc19 => ?_)
  refine r_iload_n eX4_lot_22 rfl rfl ?_
  refine n_iconst 2 eX4_lot_23 rfl ?_
  refine r_callSi2 eX4_lot_24 lX4_40 (s4_isIn_y (by decide) (by decide)) (by omega) (Nat.le_of_ble_eq_true rfl) (fun r1 h1 hq => ?_)
  obtain ⟨rfl, rfl⟩ := hq
  refine n_if_ne eX4_lot_27 (by decide) (fun hc27 => ?_) (fun hc27 => absurd hc27 (by decide))
  refine r_iload eX4_lot_34 rfl ?_
  refine n_if_eq eX4_lot_36 (by decide) (fun hc36 => ?_) (fun hc36 => absurd hc36 (by decide))
  refine n_iconst 1 eX4_lot_46 rfl ?_
  refine r_istore eX4_lot_47 (by decide) ?_
  refine r_iload_n eX4_lot_49 rfl rfl ?_
  refine r_istore eX4_lot_50 (by decide) ?_
  refine r_iload_n eX4_lot_52 rfl rfl ?_
  refine n_iconst 1 eX4_lot_53 rfl ?_
  refine n_sub eX4_lot_54 (by decide) ?_
  refine z_top (y := nI 8) (by decide +kernel) ?_
  refine r_istore eX4_lot_55 (by decide) ?_
  refine r_iload eX4_lot_57 rfl ?_
  refine n_if_le eX4_lot_59 (by decide) (fun hc59 => absurd hc59 (by decide)) (fun hc59 => ?_)
  refine r_iload_n eX4_lot_62 rfl rfl ?_
  refine n_iconst 1 eX4_lot_63 rfl ?_
  refine n_icmp_ne eX4_lot_64 (by decide) (by decide) (fun hc64 => absurd hc64 (by decide)) (fun hc64 => ?_)
  refine r_iload eX4_lot_67 rfl ?_
  refine r_iload eX4_lot_69 rfl ?_
  refine n_mul eX4_lot_71 ?_
  refine z_top (y := nI 8) (by decide +kernel) ?_
  refine r_iload eX4_lot_72 rfl ?_
  refine n_add eX4_lot_74 ?_
  refine z_top (y := nI 17) (by decide +kernel) ?_
  refine r_istore eX4_lot_75 (by decide) ?_
  refine r_iload eX4_lot_77 rfl ?_
  refine r_iload eX4_lot_79 rfl ?_
  refine n_mul eX4_lot_81 ?_
  refine z_top (y := nI 72) (by decide +kernel) ?_
  refine r_istore eX4_lot_82 (by decide) ?_
  refine r_iload eX4_lot_84 rfl ?_
  refine r_iload eX4_lot_86 rfl ?_
  refine r_callSi2 eX4_lot_88 lX4_192 (s4_common 20 17 72 (by decide) (by decide) (by decide)) (by omega) (Nat.le_of_ble_eq_true rfl) (fun r1 h1 hq => ?_)
  obtain ⟨hq1, rfl⟩ := hq
  obtain rfl : r1 = nI (1) := by rw [hq1]; decide +kernel
  refine r_istore eX4_lot_91 (by decide) ?_
  refine r_iload eX4_lot_93 rfl ?_
  refine r_iload eX4_lot_95 rfl ?_
  refine n_div eX4_lot_97 (by decide) (by decide) (by decide) ?_
  refine z_top (y := nI 17) (by decide +kernel) ?_
  refine r_istore eX4_lot_98 (by decide) ?_
  refine r_iload eX4_lot_100 rfl ?_
  refine r_iload eX4_lot_102 rfl ?_
  refine n_div eX4_lot_104 (by decide) (by decide) (by decide) ?_
  refine z_top (y := nI 72) (by decide +kernel) ?_
  refine r_istore eX4_lot_105 (by decide) ?_
  refine n_dec (a := 7) eX4_lot_107 rfl (by decide) ?_
  refine r_goto eX4_lot_110 ?_
  refine r_iload eX4_lot_57 rfl ?_
  refine n_if_le eX4_lot_59 (by decide) (fun hc59 => absurd hc59 (by decide)) (fun hc59 => ?_)
  refine r_iload_n eX4_lot_62 rfl rfl ?_
  refine n_iconst 1 eX4_lot_63 rfl ?_
  refine n_icmp_ne eX4_lot_64 (by decide) (by decide) (fun hc64 => absurd hc64 (by decide)) (fun hc64 => ?_)
  refine r_iload eX4_lot_67 rfl ?_
  refine r_iload eX4_lot_69 rfl ?_
  refine n_mul eX4_lot_71 ?_
  refine z_top (y := nI 119) (by decide +kernel) ?_
  refine r_iload eX4_lot_72 rfl ?_
  refine n_add eX4_lot_74 ?_
  refine z_top (y := nI 191) (by decide +kernel) ?_
  refine r_istore eX4_lot_75 (by decide) ?_
  refine r_iload eX4_lot_77 rfl ?_
  refine r_iload eX4_lot_79 rfl ?_
  refine n_mul eX4_lot_81 ?_
  refine z_top (y := nI 504) (by decide +kernel) ?_
  refine r_istore eX4_lot_82 (by decide) ?_
  refine r_iload eX4_lot_84 rfl ?_
  refine r_iload eX4_lot_86 rfl ?_
  refine r_callSi2 eX4_lot_88 lX4_192 (s4_common 20 191 504 (by decide) (by decide) (by decide)) (by omega) (Nat.le_of_ble_eq_true rfl) (fun r1 h1 hq => ?_)
  obtain ⟨hq1, rfl⟩ := hq
  obtain rfl : r1 = nI (1) := by rw [hq1]; decide +kernel
  refine r_istore eX4_lot_91 (by decide) ?_
  refine r_iload eX4_lot_93 rfl ?_
  refine r_iload eX4_lot_95 rfl ?_
  refine n_div eX4_lot_97 (by decide) (by decide) (by decide) ?_
  refine z_top (y := nI 191) (by decide +kernel) ?_
  refine r_istore eX4_lot_98 (by decide) ?_
  refine r_iload eX4_lot_100 rfl ?_
  refine r_iload eX4_lot_102 rfl ?_
  refine n_div eX4_lot_104 (by decide) (by decide) (by decide) ?_
  refine z_top (y := nI 504) (by decide +kernel) ?_
  refine r_istore eX4_lot_105 (by decide) ?_
  refine n_dec (a := 6) eX4_lot_107 rfl (by decide) ?_
  refine r_goto eX4_lot_110 ?_
  refine r_iload eX4_lot_57 rfl ?_
  refine n_if_le eX4_lot_59 (by decide) (fun hc59 => absurd hc59 (by decide)) (fun hc59 => ?_)
  refine r_iload_n eX4_lot_62 rfl rfl ?_
  refine n_iconst 1 eX4_lot_63 rfl ?_
  refine n_icmp_ne eX4_lot_64 (by decide) (by decide) (fun hc64 => absurd hc64 (by decide)) (fun hc64 => ?_)
  refine r_iload eX4_lot_67 rfl ?_
  refine r_iload eX4_lot_69 rfl ?_
  refine n_mul eX4_lot_71 ?_
  refine z_top (y := nI 1146) (by decide +kernel) ?_
  refine r_iload eX4_lot_72 rfl ?_
  refine n_add eX4_lot_74 ?_
  refine z_top (y := nI 1650) (by decide +kernel) ?_
  refine r_istore eX4_lot_75 (by decide) ?_
  refine r_iload eX4_lot_77 rfl ?_
  refine r_iload eX4_lot_79 rfl ?_
  refine n_mul eX4_lot_81 ?_
  refine z_top (y := nI 3024) (by decide +kernel) ?_
  refine r_istore eX4_lot_82 (by decide) ?_
  refine r_iload eX4_lot_84 rfl ?_
  refine r_iload eX4_lot_86 rfl ?_
  refine r_callSi2 eX4_lot_88 lX4_192 (s4_common 20 1650 3024 (by decide) (by decide) (by decide)) (by omega) (Nat.le_of_ble_eq_true rfl) (fun r1 h1 hq => ?_)
  obtain ⟨hq1, rfl⟩ := hq
  obtain rfl : r1 = nI (6) := by rw [hq1]; decide +kernel
  refine r_istore eX4_lot_91 (by decide) ?_
  refine r_iload eX4_lot_93 rfl ?_
  refine r_iload eX4_lot_95 rfl ?_
  refine n_div eX4_lot_97 (by decide) (by decide) (by decide) ?_
  refine z_top (y := nI 275) (by decide +kernel) ?_
  refine r_istore eX4_lot_98 (by decide) ?_
  refine r_iload eX4_lot_100 rfl ?_
  refine r_iload eX4_lot_102 rfl ?_
  refine n_div eX4_lot_104 (by decide) (by decide) (by decide) ?_
  refine z_top (y := nI 504) (by decide +kernel) ?_
  refine r_istore eX4_lot_105 (by decide) ?_
  refine n_dec (a := 5) eX4_lot_107 rfl (by decide) ?_
  refine r_goto eX4_lot_110 ?_
  refine r_iload eX4_lot_57 rfl ?_
  refine n_if_le eX4_lot_59 (by decide) (fun hc59 => absurd hc59 (by decide)) (fun hc59 => ?_)
  refine r_iload_n eX4_lot_62 rfl rfl ?_
  refine n_iconst 1 eX4_lot_63 rfl ?_
  refine n_icmp_ne eX4_lot_64 (by decide) (by decide) (fun hc64 => absurd hc64 (by decide)) (fun hc64 => ?_)
  refine r_iload eX4_lot_67 rfl ?_
  refine r_iload eX4_lot_69 rfl ?_
  refine n_mul eX4_lot_71 ?_
  refine z_top (y := nI 1375) (by decide +kernel) ?_
  refine r_iload eX4_lot_72 rfl ?_
  refine n_add eX4_lot_74 ?_
  refine z_top (y := nI 1879) (by decide +kernel) ?_
  refine r_istore eX4_lot_75 (by decide) ?_
  refine r_iload eX4_lot_77 rfl ?_
  refine r_iload eX4_lot_79 rfl ?_
  refine n_mul eX4_lot_81 ?_
  refine z_top (y := nI 2520) (by decide +kernel) ?_
  refine r_istore eX4_lot_82 (by decide) ?_
  refine r_iload eX4_lot_84 rfl ?_
  refine r_iload eX4_lot_86 rfl ?_
  refine r_callSi2 eX4_lot_88 lX4_192 (s4_common 20 1879 2520 (by decide) (by decide) (by decide)) (by omega) (Nat.le_of_ble_eq_true rfl) (fun r1 h1 hq => ?_)
  obtain ⟨hq1, rfl⟩ := hq
  obtain rfl : r1 = nI (1) := by rw [hq1]; decide +kernel
  refine r_istore eX4_lot_91 (by decide) ?_
  refine r_iload eX4_lot_93 rfl ?_
  refine r_iload eX4_lot_95 rfl ?_
  refine n_div eX4_lot_97 (by decide) (by decide) (by decide) ?_
  refine z_top (y := nI 1879) (by decide +kernel) ?_
  refine r_istore eX4_lot_98 (by decide) ?_
  refine r_iload eX4_lot_100 rfl ?_
  refine r_iload eX4_lot_102 rfl ?_
  refine n_div eX4_lot_104 (by decide) (by decide) (by decide) ?_
  refine z_top (y := nI 2520) (by decide +kernel) ?_
  refine r_istore eX4_lot_105 (by decide) ?_
  refine n_dec (a := 4) eX4_lot_107 rfl (by decide) ?_
  refine r_goto eX4_lot_110 ?_
  refine r_iload eX4_lot_57 rfl ?_
  refine n_if_le eX4_lot_59 (by decide) (fun hc59 => absurd hc59 (by decide)) (fun hc59 => ?_)
  refine r_iload_n eX4_lot_62 rfl rfl ?_
  refine n_iconst 1 eX4_lot_63 rfl ?_
  refine n_icmp_ne eX4_lot_64 (by decide) (by decide) (fun hc64 => absurd hc64 (by decide)) (fun hc64 => ?_)
  refine r_iload eX4_lot_67 rfl ?_
  refine r_iload eX4_lot_69 rfl ?_
  refine n_mul eX4_lot_71 ?_
  refine z_top (y := nI 7516) (by decide +kernel) ?_
  refine r_iload eX4_lot_72 rfl ?_
  refine n_add eX4_lot_74 ?_
  refine z_top (y := nI 10036) (by decide +kernel) ?_
  refine r_istore eX4_lot_75 (by decide) ?_
  refine r_iload eX4_lot_77 rfl ?_
  refine r_iload eX4_lot_79 rfl ?_
  refine n_mul eX4_lot_81 ?_
  refine z_top (y := nI 10080) (by decide +kernel) ?_
  refine r_istore eX4_lot_82 (by decide) ?_
  refine r_iload eX4_lot_84 rfl ?_
  refine r_iload eX4_lot_86 rfl ?_
  refine r_callSi2 eX4_lot_88 lX4_192 (s4_common 20 10036 10080 (by decide) (by decide) (by decide)) (by omega) (Nat.le_of_ble_eq_true rfl) (fun r1 h1 hq => ?_)
  obtain ⟨hq1, rfl⟩ := hq
  obtain rfl : r1 = nI (4) := by rw [hq1]; decide +kernel
  refine r_istore eX4_lot_91 (by decide) ?_
  refine r_iload eX4_lot_93 rfl ?_
  refine r_iload eX4_lot_95 rfl ?_
  refine n_div eX4_lot_97 (by decide) (by decide) (by decide) ?_
  refine z_top (y := nI 2509) (by decide +kernel) ?_
  refine r_istore eX4_lot_98 (by decide) ?_
  refine r_iload eX4_lot_100 rfl ?_
  refine r_iload eX4_lot_102 rfl ?_
  refine n_div eX4_lot_104 (by decide) (by decide) (by decide) ?_
  refine z_top (y := nI 2520) (by decide +kernel) ?_
  refine r_istore eX4_lot_105 (by decide) ?_
  refine n_dec (a := 3) eX4_lot_107 rfl (by decide) ?_
  refine r_goto eX4_lot_110 ?_
  refine r_iload eX4_lot_57 rfl ?_
  refine n_if_le eX4_lot_59 (by decide) (fun hc59 => absurd hc59 (by decide)) (fun hc59 => ?_)
  refine r_iload_n eX4_lot_62 rfl rfl ?_
  refine n_iconst 1 eX4_lot_63 rfl ?_
  refine n_icmp_ne eX4_lot_64 (by decide) (by decide) (fun hc64 => absurd hc64 (by decide)) (fun hc64 => ?_)
  refine r_iload eX4_lot_67 rfl ?_
  refine r_iload eX4_lot_69 rfl ?_
  refine n_mul eX4_lot_71 ?_
  refine z_top (y := nI 7527) (by decide +kernel) ?_
  refine r_iload eX4_lot_72 rfl ?_
  refine n_add eX4_lot_74 ?_
  refine z_top (y := nI 10047) (by decide +kernel) ?_
  refine r_istore eX4_lot_75 (by decide) ?_
  refine r_iload eX4_lot_77 rfl ?_
  refine r_iload eX4_lot_79 rfl ?_
  refine n_mul eX4_lot_81 ?_
  refine z_top (y := nI 7560) (by decide +kernel) ?_
  refine r_istore eX4_lot_82 (by decide) ?_
  refine r_iload eX4_lot_84 rfl ?_
  refine r_iload eX4_lot_86 rfl ?_
  refine r_callSi2 eX4_lot_88 lX4_192 (s4_common 20 10047 7560 (by decide) (by decide) (by decide)) (by omega) (Nat.le_of_ble_eq_true rfl) (fun r1 h1 hq => ?_)
  obtain ⟨hq1, rfl⟩ := hq
  obtain rfl : r1 = nI (3) := by rw [hq1]; decide +kernel
  refine r_istore eX4_lot_91 (by decide) ?_
  refine r_iload eX4_lot_93 rfl ?_
  refine r_iload eX4_lot_95 rfl ?_
  refine n_div eX4_lot_97 (by decide) (by decide) (by decide) ?_
  refine z_top (y := nI 3349) (by decide +kernel) ?_
  refine r_istore eX4_lot_98 (by decide) ?_
  refine r_iload eX4_lot_100 rfl ?_
  refine r_iload eX4_lot_102 rfl ?_
  refine n_div eX4_lot_104 (by decide) (by decide) (by decide) ?_
  refine z_top (y := nI 2520) (by decide +kernel) ?_
  refine r_istore eX4_lot_105 (by decide) ?_
  refine n_dec (a := 2) eX4_lot_107 rfl (by decide) ?_
  refine r_goto eX4_lot_110 ?_
  refine r_iload eX4_lot_57 rfl ?_
  refine n_if_le eX4_lot_59 (by decide) (fun hc59 => absurd hc59 (by decide)) (fun hc59 => ?_)
  refine r_iload_n eX4_lot_62 rfl rfl ?_
  refine n_iconst 1 eX4_lot_63 rfl ?_
  refine n_icmp_ne eX4_lot_64 (by decide) (by decide) (fun hc64 => absurd hc64 (by decide)) (fun hc64 => ?_)
  refine r_iload eX4_lot_67 rfl ?_
  refine r_iload eX4_lot_69 rfl ?_
  refine n_mul eX4_lot_71 ?_
  refine z_top (y := nI 6698) (by decide +kernel) ?_
  refine r_iload eX4_lot_72 rfl ?_
  refine n_add eX4_lot_74 ?_
  refine z_top (y := nI 9218) (by decide +kernel) ?_
  refine r_istore eX4_lot_75 (by decide) ?_
  refine r_iload eX4_lot_77 rfl ?_
  refine r_iload eX4_lot_79 rfl ?_
  refine n_mul eX4_lot_81 ?_
  refine z_top (y := nI 5040) (by decide +kernel) ?_
  refine r_istore eX4_lot_82 (by decide) ?_
  refine r_iload eX4_lot_84 rfl ?_
  refine r_iload eX4_lot_86 rfl ?_
  refine r_callSi2 eX4_lot_88 lX4_192 (s4_common 20 9218 5040 (by decide) (by decide) (by decide)) (by omega) (Nat.le_of_ble_eq_true rfl) (fun r1 h1 hq => ?_)
  obtain ⟨hq1, rfl⟩ := hq
  obtain rfl : r1 = nI (2) := by rw [hq1]; decide +kernel
  refine r_istore eX4_lot_91 (by decide) ?_
  refine r_iload eX4_lot_93 rfl ?_
  refine r_iload eX4_lot_95 rfl ?_
  refine n_div eX4_lot_97 (by decide) (by decide) (by decide) ?_
  refine z_top (y := nI 4609) (by decide +kernel) ?_
  refine r_istore eX4_lot_98 (by decide) ?_
  refine r_iload eX4_lot_100 rfl ?_
  refine r_iload eX4_lot_102 rfl ?_
  refine n_div eX4_lot_104 (by decide) (by decide) (by decide) ?_
  refine z_top (y := nI 2520) (by decide +kernel) ?_
  refine r_istore eX4_lot_105 (by decide) ?_
  refine n_dec (a := 1) eX4_lot_107 rfl (by decide) ?_
  refine r_goto eX4_lot_110 ?_
  refine r_iload eX4_lot_57 rfl ?_
  refine n_if_le eX4_lot_59 (by decide) (fun hc59 => absurd hc59 (by decide)) (fun hc59 => ?_)
  refine r_iload_n eX4_lot_62 rfl rfl ?_
  refine n_iconst 1 eX4_lot_63 rfl ?_
  refine n_icmp_ne eX4_lot_64 (by decide) (by decide) (fun hc64 => absurd hc64 (by decide)) (fun hc64 => ?_)
  refine r_iload eX4_lot_67 rfl ?_
  refine r_iload eX4_lot_69 rfl ?_
  refine n_mul eX4_lot_71 ?_
  refine z_top (y := nI 4609) (by decide +kernel) ?_
  refine r_iload eX4_lot_72 rfl ?_
  refine n_add eX4_lot_74 ?_
  refine z_top (y := nI 7129) (by decide +kernel) ?_
  refine r_istore eX4_lot_75 (by decide) ?_
  refine r_iload eX4_lot_77 rfl ?_
  refine r_iload eX4_lot_79 rfl ?_
  refine n_mul eX4_lot_81 ?_
  refine z_top (y := nI 2520) (by decide +kernel) ?_
  refine r_istore eX4_lot_82 (by decide) ?_
  refine r_iload eX4_lot_84 rfl ?_
  refine r_iload eX4_lot_86 rfl ?_
  refine r_callSi2 eX4_lot_88 lX4_192 (s4_common 20 7129 2520 (by decide) (by decide) (by decide)) (by omega) (Nat.le_of_ble_eq_true rfl) (fun r1 h1 hq => ?_)
  obtain ⟨hq1, rfl⟩ := hq
  obtain rfl : r1 = nI (1) := by rw [hq1]; decide +kernel
  refine r_istore eX4_lot_91 (by decide) ?_
  refine r_iload eX4_lot_93 rfl ?_
  refine r_iload eX4_lot_95 rfl ?_
  refine n_div eX4_lot_97 (by decide) (by decide) (by decide) ?_
  refine z_top (y := nI 7129) (by decide +kernel) ?_
  refine r_istore eX4_lot_98 (by decide) ?_
  refine r_iload eX4_lot_100 rfl ?_
  refine r_iload eX4_lot_102 rfl ?_
  refine n_div eX4_lot_104 (by decide) (by decide) (by decide) ?_
  refine z_top (y := nI 2520) (by decide +kernel) ?_
  refine r_istore eX4_lot_105 (by decide) ?_
  refine n_dec (a := 0) eX4_lot_107 rfl (by decide) ?_
  refine r_goto eX4_lot_110 ?_
  refine r_iload eX4_lot_57 rfl ?_
  refine n_if_le eX4_lot_59 (by decide) (fun hc59 => ?_) (fun hc59 => absurd hc59 (by decide))
  refine r_iload_n eX4_lot_113 rfl rfl ?_
  refine n_if_ne eX4_lot_114 (by decide) (fun hc114 => absurd hc114 (by decide)) (fun hc114 => ?_)
  refine r_iload eX4_lot_117 rfl ?_
  refine r_goto eX4_lot_119 ?_
  exact z_iret eX4_lot_124 rfl rfl ⟨_, rfl, rfl, rfl⟩
set_option maxHeartbeats 1000000 in
set_option maxRecDepth 100000 in
theorem s4_lot_9_1 {t : zMod} {u : zCls} : Mi mX4_lot 60 [.ref 0, .int (nI (9)), .int (nI (1)), .int (nI (1))] (hA t u) (fun r h' => r = nI 2520 ∧ h' = hA t u) := by
  refine Mi.of (by decide) rfl (Nat.le_of_ble_eq_true rfl) ?_
  refine r_iload_n eX4_lot_0 rfl rfl ?_
  refine n_iconst 1 eX4_lot_1 rfl ?_
  refine n_bipush 9 eX4_lot_2 rfl ?_
  refine r_callSi3 eX4_lot_4 lX4_44 (s4_within_k (by decide) (by decide)) (by omega) (Nat.le_of_ble_eq_true rfl) (fun r1 h1 hq => ?_)
  obtain ⟨rfl, rfl⟩ := hq
  refine r_istore eX4_lot_7 (by decide) ?_
  refine r_iload eX4_lot_9 rfl ?_
  refine n_if_ne eX4_lot_11 (by decide) (fun hc11 => absurd hc11 (by decide)) (fun hc11 => ?_)
  refine r_iload_n eX4_lot_14 rfl rfl ?_
  refine n_iconst 2 eX4_lot_15 rfl ?_
  refine r_callSi2 eX4_lot_16 lX4_40 (s4_isIn_y (by decide) (by decide)) (by omega) (Nat.le_of_ble_eq_true rfl) (fun r1 h1 hq => ?_)
  obtain ⟨rfl, rfl⟩ := hq
  refine n_if_eq eX4_lot_19 (by decide) (fun hc19 => absurd hc19 (by decide)) (fun hc19 => ?_)
  refine r_iload_n eX4_lot_22 rfl rfl ?_
  refine n_iconst 2 eX4_lot_23 rfl ?_
  refine r_callSi2 eX4_lot_24 lX4_40 (s4_isIn_y (by decide) (by decide)) (by omega) (Nat.le_of_ble_eq_true rfl) (fun r1 h1 hq => ?_)
  obtain ⟨rfl, rfl⟩ := hq
  refine n_if_ne eX4_lot_27 (by decide) (fun hc27 => ?_) (fun hc27 => absurd hc27 (by decide))
  refine r_iload eX4_lot_34 rfl ?_
  refine n_if_eq eX4_lot_36 (by decide) (fun hc36 => ?_) (fun hc36 => absurd hc36 (by decide))
  refine n_iconst 1 eX4_lot_46 rfl ?_
  refine r_istore eX4_lot_47 (by decide) ?_
  refine r_iload_n eX4_lot_49 rfl rfl ?_
  refine r_istore eX4_lot_50 (by decide) ?_
  refine r_iload_n eX4_lot_52 rfl rfl ?_
  refine n_iconst 1 eX4_lot_53 rfl ?_
  refine n_sub eX4_lot_54 (by decide) ?_
  refine z_top (y := nI 8) (by decide +kernel) ?_
  refine r_istore eX4_lot_55 (by decide) ?_
  refine r_iload eX4_lot_57 rfl ?_
  refine n_if_le eX4_lot_59 (by decide) (fun hc59 => absurd hc59 (by decide)) (fun hc59 => ?_)
  refine r_iload_n eX4_lot_62 rfl rfl ?_
  refine n_iconst 1 eX4_lot_63 rfl ?_
  refine n_icmp_ne eX4_lot_64 (by decide) (by decide) (fun hc64 => absurd hc64 (by decide)) (fun hc64 => ?_)
  refine r_iload eX4_lot_67 rfl ?_
  refine r_iload eX4_lot_69 rfl ?_
  refine n_mul eX4_lot_71 ?_
  refine z_top (y := nI 8) (by decide +kernel) ?_
  refine r_iload eX4_lot_72 rfl ?_
  refine n_add eX4_lot_74 ?_
  refine z_top (y := nI 17) (by decide +kernel) ?_
  refine r_istore eX4_lot_75 (by decide) ?_
  refine r_iload eX4_lot_77 rfl ?_
  refine r_iload eX4_lot_79 rfl ?_
  refine n_mul eX4_lot_81 ?_
  refine z_top (y := nI 72) (by decide +kernel) ?_
  refine r_istore eX4_lot_82 (by decide) ?_
  refine r_iload eX4_lot_84 rfl ?_
  refine r_iload eX4_lot_86 rfl ?_
  refine r_callSi2 eX4_lot_88 lX4_192 (s4_common 20 17 72 (by decide) (by decide) (by decide)) (by omega) (Nat.le_of_ble_eq_true rfl) (fun r1 h1 hq => ?_)
  obtain ⟨hq1, rfl⟩ := hq
  obtain rfl : r1 = nI (1) := by rw [hq1]; decide +kernel
  refine r_istore eX4_lot_91 (by decide) ?_
  refine r_iload eX4_lot_93 rfl ?_
  refine r_iload eX4_lot_95 rfl ?_
  refine n_div eX4_lot_97 (by decide) (by decide) (by decide) ?_
  refine z_top (y := nI 17) (by decide +kernel) ?_
  refine r_istore eX4_lot_98 (by decide) ?_
  refine r_iload eX4_lot_100 rfl ?_
  refine r_iload eX4_lot_102 rfl ?_
  refine n_div eX4_lot_104 (by decide) (by decide) (by decide) ?_
  refine z_top (y := nI 72) (by decide +kernel) ?_
  refine r_istore eX4_lot_105 (by decide) ?_
  refine n_dec (a := 7) eX4_lot_107 rfl (by decide) ?_
  refine r_goto eX4_lot_110 ?_
  refine r_iload eX4_lot_57 rfl ?_
  refine n_if_le eX4_lot_59 (by decide) (fun hc59 => absurd hc59 (by decide)) (fun hc59 => ?_)
  refine r_iload_n eX4_lot_62 rfl rfl ?_
  refine n_iconst 1 eX4_lot_63 rfl ?_
  refine n_icmp_ne eX4_lot_64 (by decide) (by decide) (fun hc64 => absurd hc64 (by decide)) (fun hc64 => ?_)
  refine r_iload eX4_lot_67 rfl ?_
  refine r_iload eX4_lot_69 rfl ?_
  refine n_mul eX4_lot_71 ?_
  refine z_top (y := nI 119) (by decide +kernel) ?_
  refine r_iload eX4_lot_72 rfl ?_
  refine n_add eX4_lot_74 ?_
  refine z_top (y := nI 191) (by decide +kernel) ?_
  refine r_istore eX4_lot_75 (by decide) ?_
  refine r_iload eX4_lot_77 rfl ?_
  refine r_iload eX4_lot_79 rfl ?_
  refine n_mul eX4_lot_81 ?_
  refine z_top (y := nI 504) (by decide +kernel) ?_
  refine r_istore eX4_lot_82 (by decide) ?_
  refine r_iload eX4_lot_84 rfl ?_
  refine r_iload eX4_lot_86 rfl ?_
  refine r_callSi2 eX4_lot_88 lX4_192 (s4_common 20 191 504 (by decide) (by decide) (by decide)) (by omega) (Nat.le_of_ble_eq_true rfl) (fun r1 h1 hq => ?_)
  obtain ⟨hq1, rfl⟩ := hq
  obtain rfl : r1 = nI (1) := by rw [hq1]; decide +kernel
  refine r_istore eX4_lot_91 (by decide) ?_
  refine r_iload eX4_lot_93 rfl ?_
  refine r_iload eX4_lot_95 rfl ?_
  refine n_div eX4_lot_97 (by decide) (by decide) (by decide) ?_
  refine z_top (y := nI 191) (by decide +kernel) ?_
  refine r_istore eX4_lot_98 (by decide) ?_
  refine r_iload eX4_lot_100 rfl ?_
  refine r_iload eX4_lot_102 rfl ?_
  refine n_div eX4_lot_104 (by decide) (by decide) (by decide) ?_
  refine z_top (y := nI 504) (by decide +kernel) ?_
  refine r_istore eX4_lot_105 (by decide) ?_
  refine n_dec (a := 6) eX4_lot_107 rfl (by decide) ?_
  refine r_goto eX4_lot_110 ?_
  refine r_iload eX4_lot_57 rfl ?_
  refine n_if_le eX4_lot_59 (by decide) (fun hc59 => absurd hc59 (by decide)) (fun hc59 => ?_)
  refine r_iload_n eX4_lot_62 rfl rfl ?_
  refine n_iconst 1 eX4_lot_63 rfl ?_
  refine n_icmp_ne eX4_lot_64 (by decide) (by decide) (fun hc64 => absurd hc64 (by decide)) (fun hc64 => ?_)
  refine r_iload eX4_lot_67 rfl ?_
  refine r_iload eX4_lot_69 rfl ?_
  refine n_mul eX4_lot_71 ?_
  refine z_top (y := nI 1146) (by decide +kernel) ?_
  refine r_iload eX4_lot_72 rfl ?_
  refine n_add eX4_lot_74 ?_
  refine z_top (y := nI 1650) (by decide +kernel) ?_
  refine r_istore eX4_lot_75 (by decide) ?_
  refine r_iload eX4_lot_77 rfl ?_
  refine r_iload eX4_lot_79 rfl ?_
  refine n_mul eX4_lot_81 ?_
  refine z_top (y := nI 3024) (by decide +kernel) ?_
  refine r_istore eX4_lot_82 (by decide) ?_
  refine r_iload eX4_lot_84 rfl ?_
  refine r_iload eX4_lot_86 rfl ?_
  refine r_callSi2 eX4_lot_88 lX4_192 (s4_common 20 1650 3024 (by decide) (by decide) (by decide)) (by omega) (Nat.le_of_ble_eq_true rfl) (fun r1 h1 hq => ?_)
  obtain ⟨hq1, rfl⟩ := hq
  obtain rfl : r1 = nI (6) := by rw [hq1]; decide +kernel
  refine r_istore eX4_lot_91 (by decide) ?_
  refine r_iload eX4_lot_93 rfl ?_
  refine r_iload eX4_lot_95 rfl ?_
  refine n_div eX4_lot_97 (by decide) (by decide) (by decide) ?_
  refine z_top (y := nI 275) (by decide +kernel) ?_
  refine r_istore eX4_lot_98 (by decide) ?_
  refine r_iload eX4_lot_100 rfl ?_
  refine r_iload eX4_lot_102 rfl ?_
  refine n_div eX4_lot_104 (by decide) (by decide) (by decide) ?_
  refine z_top (y := nI 504) (by decide +kernel) ?_
  refine r_istore eX4_lot_105 (by decide) ?_
  refine n_dec (a := 5) eX4_lot_107 rfl (by decide) ?_
  refine r_goto eX4_lot_110 ?_
  refine r_iload eX4_lot_57 rfl ?_
  refine n_if_le eX4_lot_59 (by decide) (fun hc59 => absurd hc59 (by decide)) (fun hc59 => ?_)
  refine r_iload_n eX4_lot_62 rfl rfl ?_
  refine n_iconst 1 eX4_lot_63 rfl ?_
  refine n_icmp_ne eX4_lot_64 (by decide) (by decide) (fun hc64 => absurd hc64 (by decide)) (fun hc64 => ?_)
  refine r_iload eX4_lot_67 rfl ?_
  refine r_iload eX4_lot_69 rfl ?_
  refine n_mul eX4_lot_71 ?_
  refine z_top (y := nI 1375) (by decide +kernel) ?_
  refine r_iload eX4_lot_72 rfl ?_
  refine n_add eX4_lot_74 ?_
  refine z_top (y := nI 1879) (by decide +kernel) ?_
  refine r_istore eX4_lot_75 (by decide) ?_
  refine r_iload eX4_lot_77 rfl ?_
  refine r_iload eX4_lot_79 rfl ?_
  refine n_mul eX4_lot_81 ?_
  refine z_top (y := nI 2520) (by decide +kernel) ?_
  refine r_istore eX4_lot_82 (by decide) ?_
  refine r_iload eX4_lot_84 rfl ?_
  refine r_iload eX4_lot_86 rfl ?_
  refine r_callSi2 eX4_lot_88 lX4_192 (s4_common 20 1879 2520 (by decide) (by decide) (by decide)) (by omega) (Nat.le_of_ble_eq_true rfl) (fun r1 h1 hq => ?_)
  obtain ⟨hq1, rfl⟩ := hq
  obtain rfl : r1 = nI (1) := by rw [hq1]; decide +kernel
  refine r_istore eX4_lot_91 (by decide) ?_
  refine r_iload eX4_lot_93 rfl ?_
  refine r_iload eX4_lot_95 rfl ?_
  refine n_div eX4_lot_97 (by decide) (by decide) (by decide) ?_
  refine z_top (y := nI 1879) (by decide +kernel) ?_
  refine r_istore eX4_lot_98 (by decide) ?_
  refine r_iload eX4_lot_100 rfl ?_
  refine r_iload eX4_lot_102 rfl ?_
  refine n_div eX4_lot_104 (by decide) (by decide) (by decide) ?_
  refine z_top (y := nI 2520) (by decide +kernel) ?_
  refine r_istore eX4_lot_105 (by decide) ?_
  refine n_dec (a := 4) eX4_lot_107 rfl (by decide) ?_
  refine r_goto eX4_lot_110 ?_
  refine r_iload eX4_lot_57 rfl ?_
  refine n_if_le eX4_lot_59 (by decide) (fun hc59 => absurd hc59 (by decide)) (fun hc59 => ?_)
  refine r_iload_n eX4_lot_62 rfl rfl ?_
  refine n_iconst 1 eX4_lot_63 rfl ?_
  refine n_icmp_ne eX4_lot_64 (by decide) (by decide) (fun hc64 => absurd hc64 (by decide)) (fun hc64 => ?_)
  refine r_iload eX4_lot_67 rfl ?_
  refine r_iload eX4_lot_69 rfl ?_
  refine n_mul eX4_lot_71 ?_
  refine z_top (y := nI 7516) (by decide +kernel) ?_
  refine r_iload eX4_lot_72 rfl ?_
  refine n_add eX4_lot_74 ?_
  refine z_top (y := nI 10036) (by decide +kernel) ?_
  refine r_istore eX4_lot_75 (by decide) ?_
  refine r_iload eX4_lot_77 rfl ?_
  refine r_iload eX4_lot_79 rfl ?_
  refine n_mul eX4_lot_81 ?_
  refine z_top (y := nI 10080) (by decide +kernel) ?_
  refine r_istore eX4_lot_82 (by decide) ?_
  refine r_iload eX4_lot_84 rfl ?_
  refine r_iload eX4_lot_86 rfl ?_
  refine r_callSi2 eX4_lot_88 lX4_192 (s4_common 20 10036 10080 (by decide) (by decide) (by decide)) (by omega) (Nat.le_of_ble_eq_true rfl) (fun r1 h1 hq => ?_)
  obtain ⟨hq1, rfl⟩ := hq
  obtain rfl : r1 = nI (4) := by rw [hq1]; decide +kernel
  refine r_istore eX4_lot_91 (by decide) ?_
  refine r_iload eX4_lot_93 rfl ?_
  refine r_iload eX4_lot_95 rfl ?_
  refine n_div eX4_lot_97 (by decide) (by decide) (by decide) ?_
  refine z_top (y := nI 2509) (by decide +kernel) ?_
  refine r_istore eX4_lot_98 (by decide) ?_
  refine r_iload eX4_lot_100 rfl ?_
  refine r_iload eX4_lot_102 rfl ?_
  refine n_div eX4_lot_104 (by decide) (by decide) (by decide) ?_
  refine z_top (y := nI 2520) (by decide +kernel) ?_
  refine r_istore eX4_lot_105 (by decide) ?_
  refine n_dec (a := 3) eX4_lot_107 rfl (by decide) ?_
  refine r_goto eX4_lot_110 ?_
  refine r_iload eX4_lot_57 rfl ?_
  refine n_if_le eX4_lot_59 (by decide) (fun hc59 => absurd hc59 (by decide)) (fun hc59 => ?_)
  refine r_iload_n eX4_lot_62 rfl rfl ?_
  refine n_iconst 1 eX4_lot_63 rfl ?_
  refine n_icmp_ne eX4_lot_64 (by decide) (by decide) (fun hc64 => absurd hc64 (by decide)) (fun hc64 => ?_)
  refine r_iload eX4_lot_67 rfl ?_
  refine r_iload eX4_lot_69 rfl ?_
  refine n_mul eX4_lot_71 ?_
  refine z_top (y := nI 7527) (by decide +kernel) ?_
  refine r_iload eX4_lot_72 rfl ?_
  refine n_add eX4_lot_74 ?_
  refine z_top (y := nI 10047) (by decide +kernel) ?_
  refine r_istore eX4_lot_75 (by decide) ?_
  refine r_iload eX4_lot_77 rfl ?_
  refine r_iload eX4_lot_79 rfl ?_
  refine n_mul eX4_lot_81 ?_
  refine z_top (y := nI 7560) (by decide +kernel) ?_
  refine r_istore eX4_lot_82 (by decide) ?_
  refine r_iload eX4_lot_84 rfl ?_
  refine r_iload eX4_lot_86 rfl ?_
  refine r_callSi2 eX4_lot_88 lX4_192 (s4_common 20 10047 7560 (by decide) (by decide) (by decide)) (by omega) (Nat.le_of_ble_eq_true rfl) (fun r1 h1 hq => ?_)
  obtain ⟨hq1, rfl⟩ := hq
  obtain rfl : r1 = nI (3) := by rw [hq1]; decide +kernel
  refine r_istore eX4_lot_91 (by decide) ?_
  refine r_iload eX4_lot_93 rfl ?_
  refine r_iload eX4_lot_95 rfl ?_
  refine n_div eX4_lot_97 (by decide) (by decide) (by decide) ?_
  refine z_top (y := nI 3349) (by decide +kernel) ?_
  refine r_istore eX4_lot_98 (by decide) ?_
  refine r_iload eX4_lot_100 rfl ?_
  refine r_iload eX4_lot_102 rfl ?_
  refine n_div eX4_lot_104 (by decide) (by decide) (by decide) ?_
  refine z_top (y := nI 2520) (by decide +kernel) ?_
  refine r_istore eX4_lot_105 (by decide) ?_
  refine n_dec (a := 2) eX4_lot_107 rfl (by decide) ?_
  refine r_goto eX4_lot_110 ?_
  refine r_iload eX4_lot_57 rfl ?_
  refine n_if_le eX4_lot_59 (by decide) (fun hc59 => absurd hc59 (by decide)) (fun hc59 => ?_)
  refine r_iload_n eX4_lot_62 rfl rfl ?_
  refine n_iconst 1 eX4_lot_63 rfl ?_
  refine n_icmp_ne eX4_lot_64 (by decide) (by decide) (fun hc64 => absurd hc64 (by decide)) (fun hc64 => ?_)
  refine r_iload eX4_lot_67 rfl ?_
  refine r_iload eX4_lot_69 rfl ?_
  refine n_mul eX4_lot_71 ?_
  refine z_top (y := nI 6698) (by decide +kernel) ?_
  refine r_iload eX4_lot_72 rfl ?_
  refine n_add eX4_lot_74 ?_
  refine z_top (y := nI 9218) (by decide +kernel) ?_
  refine r_istore eX4_lot_75 (by decide) ?_
  refine r_iload eX4_lot_77 rfl ?_
  refine r_iload eX4_lot_79 rfl ?_
  refine n_mul eX4_lot_81 ?_
  refine z_top (y := nI 5040) (by decide +kernel) ?_
  refine r_istore eX4_lot_82 (by decide) ?_
  refine r_iload eX4_lot_84 rfl ?_
  refine r_iload eX4_lot_86 rfl ?_
  refine r_callSi2 eX4_lot_88 lX4_192 (s4_common 20 9218 5040 (by decide) (by decide) (by decide)) (by omega) (Nat.le_of_ble_eq_true rfl) (fun r1 h1 hq => ?_)
  obtain ⟨hq1, rfl⟩ := hq
  obtain rfl : r1 = nI (2) := by rw [hq1]; decide +kernel
  refine r_istore eX4_lot_91 (by decide) ?_
  refine r_iload eX4_lot_93 rfl ?_
  refine r_iload eX4_lot_95 rfl ?_
  refine n_div eX4_lot_97 (by decide) (by decide) (by decide) ?_
  refine z_top (y := nI 4609) (by decide +kernel) ?_
  refine r_istore eX4_lot_98 (by decide) ?_
  refine r_iload eX4_lot_100 rfl ?_
  refine r_iload eX4_lot_102 rfl ?_
  refine n_div eX4_lot_104 (by decide) (by decide) (by decide) ?_
  refine z_top (y := nI 2520) (by decide +kernel) ?_
  refine r_istore eX4_lot_105 (by decide) ?_
  refine n_dec (a := 1) eX4_lot_107 rfl (by decide) ?_
  refine r_goto eX4_lot_110 ?_
  refine r_iload eX4_lot_57 rfl ?_
  refine n_if_le eX4_lot_59 (by decide) (fun hc59 => absurd hc59 (by decide)) (fun hc59 => ?_)
  refine r_iload_n eX4_lot_62 rfl rfl ?_
  refine n_iconst 1 eX4_lot_63 rfl ?_
  refine n_icmp_ne eX4_lot_64 (by decide) (by decide) (fun hc64 => absurd hc64 (by decide)) (fun hc64 => ?_)
  refine r_iload eX4_lot_67 rfl ?_
  refine r_iload eX4_lot_69 rfl ?_
  refine n_mul eX4_lot_71 ?_
  refine z_top (y := nI 4609) (by decide +kernel) ?_
  refine r_iload eX4_lot_72 rfl ?_
  refine n_add eX4_lot_74 ?_
  refine z_top (y := nI 7129) (by decide +kernel) ?_
  refine r_istore eX4_lot_75 (by decide) ?_
  refine r_iload eX4_lot_77 rfl ?_
  refine r_iload eX4_lot_79 rfl ?_
  refine n_mul eX4_lot_81 ?_
  refine z_top (y := nI 2520) (by decide +kernel) ?_
  refine r_istore eX4_lot_82 (by decide) ?_
  refine r_iload eX4_lot_84 rfl ?_
  refine r_iload eX4_lot_86 rfl ?_
  refine r_callSi2 eX4_lot_88 lX4_192 (s4_common 20 7129 2520 (by decide) (by decide) (by decide)) (by omega) (Nat.le_of_ble_eq_true rfl) (fun r1 h1 hq => ?_)
  obtain ⟨hq1, rfl⟩ := hq
  obtain rfl : r1 = nI (1) := by rw [hq1]; decide +kernel
  refine r_istore eX4_lot_91 (by decide) ?_
  refine r_iload eX4_lot_93 rfl ?_
  refine r_iload eX4_lot_95 rfl ?_
  refine n_div eX4_lot_97 (by decide) (by decide) (by decide) ?_
  refine z_top (y := nI 7129) (by decide +kernel) ?_
  refine r_istore eX4_lot_98 (by decide) ?_
  refine r_iload eX4_lot_100 rfl ?_
  refine r_iload eX4_lot_102 rfl ?_
  refine n_div eX4_lot_104 (by decide) (by decide) (by decide) ?_
  refine z_top (y := nI 2520) (by decide +kernel) ?_
  refine r_istore eX4_lot_105 (by decide) ?_
  refine n_dec (a := 0) eX4_lot_107 rfl (by decide) ?_
  refine r_goto eX4_lot_110 ?_
  refine r_iload eX4_lot_57 rfl ?_
  refine n_if_le eX4_lot_59 (by decide) (fun hc59 => ?_) (fun hc59 => absurd hc59 (by decide))
  refine r_iload_n eX4_lot_113 rfl rfl ?_
  refine n_if_ne eX4_lot_114 (by decide) (fun hc114 => ?_) (fun hc114 => absurd hc114 (by decide))
  refine r_iload eX4_lot_122 rfl ?_
  exact z_iret eX4_lot_124 rfl rfl ⟨_, rfl, rfl, rfl⟩
