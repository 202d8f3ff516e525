/-! THE REFERENCE: bits, keys more and less, who opens first, fires -/
set_option maxHeartbeats 1000000 in
set_option maxRecDepth 100000 in
theorem s4_bits_l {h : List zC} {x0 : Int32} : ∀ (k : Nat) (n0 : Nat) (v : Nat) (hv : v < 2 ^ k) (hv2 : v < 128), Rq mX4_bits 1 none 4 [.int (x0), .int (nI (n0)), .int (nI (v))] [] h (fun r h' => ∃ x, r = some x ∧ (x = nI (n0 + zcnt k v) ∧ h' = h)) := by
  intro k
  induction k with
  | zero =>
    intro n0 v hv hv2
    have hv0 : v = 0 := by omega
    subst hv0
    refine r_iload_n eX4_bits_4 rfl rfl ?_
    refine n_if_le eX4_bits_5 (by first | omega | exact zlt (hs _) | exact hou _ | exact hop _) (fun hc5 => ?_) (fun hc5 => ?_)
    · refine r_iload_n eX4_bits_21 rfl rfl ?_
      exact z_iret eX4_bits_22 rfl rfl ⟨_, rfl, rfl, rfl⟩
    · omega
  | succ k ih =>
    intro n0 v hv hv2
    refine r_iload_n eX4_bits_4 rfl rfl ?_
    refine n_if_le eX4_bits_5 (by first | omega | exact zlt (hs _) | exact hou _ | exact hop _) (fun hc5 => ?_) (fun hc5 => ?_)
    · refine r_iload_n eX4_bits_21 rfl rfl ?_
      subst hc5
      exact z_iret eX4_bits_22 rfl rfl ⟨_, rfl, by rw [zcnt_0, Nat.add_zero], rfl⟩
    · refine r_iload_n eX4_bits_8 rfl rfl ?_
      refine r_iload_n eX4_bits_9 rfl rfl ?_
      refine n_iconst 1 eX4_bits_10 rfl ?_
      refine n_and eX4_bits_11 ?_
      refine n_add eX4_bits_12 ?_
      refine r_istore_n eX4_bits_13 rfl (by decide) ?_
      refine r_iload_n eX4_bits_14 rfl rfl ?_
      refine n_iconst 1 eX4_bits_15 rfl ?_
      refine n_shr eX4_bits_16 (by first | omega | exact zlt (hs _) | exact hou _ | exact hop _) (by first | omega | exact zlt (hs _) | exact hou _ | exact hop _) ?_
      refine r_istore_n eX4_bits_17 rfl (by decide) ?_
      refine r_goto eX4_bits_18 ?_
      have h2 : v / 2 ^ 1 < 2 ^ k := by rw [Nat.pow_succ] at hv; omega
      refine Rq.mono (ih _ _ h2 (by omega)) (fun r h' hq => ?_)
      obtain ⟨x, rfl, rfl, rfl⟩ := hq
      refine ⟨_, rfl, congrArg nI ?_, rfl⟩
      rw [zcnt, Nat.and_one_is_mod, Nat.pow_one]
      omega
set_option maxHeartbeats 1000000 in
set_option maxRecDepth 100000 in
theorem s4_bits {h : List zC} {v : Nat} (hv : v < 128) : Mi mX4_bits 1 [.int (nI (v))] h (fun r h' => r = nI (zcnt 7 v) ∧ h' = h) := by
  refine Mi.of (by decide) rfl (Nat.le_of_ble_eq_true rfl) ?_
  refine n_iconst 0 eX4_bits_0 rfl ?_
  refine r_istore_n eX4_bits_1 rfl (by decide) ?_
  refine r_iload_n eX4_bits_2 rfl rfl ?_
  refine r_istore_n eX4_bits_3 rfl (by decide) ?_
  refine Rq.mono (s4_bits_l 7 0 v hv hv) (fun r h' hq => ?_)
  obtain ⟨x, rfl, rfl, rfl⟩ := hq
  exact ⟨_, rfl, by rw [Nat.zero_add], rfl⟩
def zco (c : Nat → Nat) (s : Nat) : Nat → Nat
  | 0 => 0
  | n + 1 => zco c s n + (s / 2 ^ n &&& 1) * c n
set_option maxHeartbeats 1000000 in
set_option maxRecDepth 100000 in
theorem s4_costOf_l {t : zMod} {u : zCls} (hs : ∀ i, mg_s t i ≤ 1000) (h0 : mg_s t 0 ≤ 7) {s0 : Nat} (hs0 : s0 < 128) : ∀ (k : Nat) (pp : Nat) (la : Nat) (hd : pp + k = mg_s t 0) (hla : zco (fun p => mg_s t (5 + 5 * p + 4)) s0 pp = la), Rq mX4_costOf 2 none 4 [.ref 0, .int (nI (s0)), .int (nI (la)), .int (nI (pp))] [] (hA t u) (fun r h' => ∃ x, r = some x ∧ (x = nI (zco (fun p => mg_s t (5 + 5 * p + 4)) s0 (mg_s t 0)) ∧ h' = hA t u)) := by
  intro k
  induction k with
  | zero =>
    intro pp la hd hla
    refine r_iload_n eX4_costOf_4 rfl rfl ?_
    refine r_aload_n eX4_costOf_5 rfl rfl ?_
    refine r_getf (v := .ref 2) eX4_costOf_6 fX4_13 rfl rfl ?_
    refine n_iconst 0 eX4_costOf_9 rfl ?_
    refine n_iald (f := mg_s t) (j := 0) eX4_costOf_10 rfl rfl (by first | omega | exact zlt (hs _) | exact hou _ | exact hop _) (by decide) ?_
    refine n_icmp_ge eX4_costOf_11 (by first | omega | exact zlt (hs _) | exact hou _ | exact hop _) (by first | omega | exact zlt (hs _) | exact hou _ | exact hop _) (fun hc11 => ?_) (fun hc11 => absurd hc11 (by omega))
    refine r_iload_n eX4_costOf_35 rfl rfl ?_
    exact z_iret eX4_costOf_36 rfl rfl ⟨_, rfl, by rw [← hla, show pp = mg_s t 0 by omega], rfl⟩
  | succ k ih =>
    intro pp la hd hla
    refine r_iload_n eX4_costOf_4 rfl rfl ?_
    refine r_aload_n eX4_costOf_5 rfl rfl ?_
    refine r_getf (v := .ref 2) eX4_costOf_6 fX4_13 rfl rfl ?_
    refine n_iconst 0 eX4_costOf_9 rfl ?_
    refine n_iald (f := mg_s t) (j := 0) eX4_costOf_10 rfl rfl (by first | omega | exact zlt (hs _) | exact hou _ | exact hop _) (by decide) ?_
    refine n_icmp_ge eX4_costOf_11 (by first | omega | exact zlt (hs _) | exact hou _ | exact hop _) (by first | omega | exact zlt (hs _) | exact hou _ | exact hop _) (fun hc11 => absurd hc11 (by omega)) (fun hc11 => ?_)
    refine r_iload_n eX4_costOf_14 rfl rfl ?_
    refine r_iload_n eX4_costOf_15 rfl rfl ?_
    refine r_iload_n eX4_costOf_16 rfl rfl ?_
    refine n_shr eX4_costOf_17 (by first | omega | exact zlt (hs _) | exact hou _ | exact hop _) (by first | omega | exact zlt (hs _) | exact hou _ | exact hop _) ?_
    refine n_iconst 1 eX4_costOf_18 rfl ?_
    refine n_and eX4_costOf_19 ?_
    refine r_aload_n eX4_costOf_20 rfl rfl ?_
    refine r_iload_n eX4_costOf_21 rfl rfl ?_
    refine n_iconst 4 eX4_costOf_22 rfl ?_
    refine r_callVi2 eX4_costOf_23 lX4_90 (Or.inl ⟨_, _, _, rfl, rfl, rfl⟩) (s4_get (t := t) (u := u) (by omega)) (by omega) (Nat.le_of_ble_eq_true rfl) (fun r1 h1 hq => ?_)
    obtain ⟨rfl, rfl⟩ := (show r1 = nI ((mg_s t) (5 + 5 * pp + 4)) ∧ h1 = hA t u from hq)
    refine n_mul eX4_costOf_26 ?_
    refine n_add eX4_costOf_27 ?_
    refine r_istore_n eX4_costOf_28 rfl (by decide) ?_
    refine n_iinc (k := 1) eX4_costOf_29 rfl (by decide) rfl ?_
    refine r_goto eX4_costOf_32 ?_
    exact ih (pp + 1) _ (by omega) (by rw [zco, hla])
set_option maxHeartbeats 1000000 in
set_option maxRecDepth 100000 in
theorem s4_costOf {t : zMod} {u : zCls} (hs : ∀ i, mg_s t i ≤ 1000) (h0 : mg_s t 0 ≤ 7) {s0 : Nat} (hs0 : s0 < 128) : Mi mX4_costOf 2 [.ref 0, .int (nI (s0))] (hA t u) (fun r h' => r = nI (zco (fun p => mg_s t (5 + 5 * p + 4)) s0 (mg_s t 0)) ∧ h' = hA t u) := by
  refine Mi.of (by decide) rfl (Nat.le_of_ble_eq_true rfl) ?_
  refine n_iconst 0 eX4_costOf_0 rfl ?_
  refine r_istore_n eX4_costOf_1 rfl (by decide) ?_
  refine n_iconst 0 eX4_costOf_2 rfl ?_
  refine r_istore_n eX4_costOf_3 rfl (by decide) ?_
  exact s4_costOf_l hs h0 hs0 (mg_s t 0) 0 0 (by omega) rfl
def sAdd (S : Nat → Nat) (d0 p0 : Nat) : Nat → Nat := va_up (va_up (va_up S (40 + 2 * S 1) d0) (40 + 2 * S 1 + 1) p0) 1 (S 1 + 1)
set_option maxHeartbeats 1000000 in
set_option maxRecDepth 100000 in
theorem s4_addsKey {t : zMod} {u : zCls} {d0 p0 : Nat} (h1 : mg_s t 1 ≤ 11) : Mv mX4_addsKey 1 [.ref 0, .int (nI (d0)), .int (nI (p0))] (hA t u) (fun h' => h' = hA (mg_re t, (sAdd (mg_s t) d0 p0), mg_im t, mg_rd t, mg_ii t, mg_tp t, mg_tl t, mg_ta t, mg_at t, mg_ou t, mg_op t, mg_br t, mg_nw t, mg_fs t, mg_bc t, mg_kr t, mg_rw t, mg_rc t) u) := by
  refine Mv.of (by decide) rfl rfl (Nat.le_of_ble_eq_true rfl) ?_
  refine r_aload_n eX4_addsKey_0 rfl rfl ?_
  refine r_getf (v := .ref 2) eX4_addsKey_1 fX4_13 rfl rfl ?_
  refine n_bipush 40 eX4_addsKey_4 rfl ?_
  refine n_iconst 2 eX4_addsKey_6 rfl ?_
  refine r_aload_n eX4_addsKey_7 rfl rfl ?_
  refine r_getf (v := .ref 2) eX4_addsKey_8 fX4_13 rfl rfl ?_
  refine n_iconst 1 eX4_addsKey_11 rfl ?_
  refine n_iald (f := mg_s t) (j := 1) eX4_addsKey_12 rfl rfl (by omega) (by decide) ?_
  refine n_mul eX4_addsKey_13 ?_
  refine n_add eX4_addsKey_14 ?_
  refine r_iload_n eX4_addsKey_15 rfl rfl ?_
  refine z_h (h' := hA (mg_re t, mg_s t, mg_im t, mg_rd t, mg_ii t, mg_tp t, mg_tl t, mg_ta t, mg_at t, mg_ou t, mg_op t, mg_br t, mg_nw t, mg_fs t, mg_bc t, mg_kr t, mg_rw t, mg_rc t) u) rfl ?_
  refine mw_s (j := 40 + (2 * ((mg_s t) (1)))) (v := d0) eX4_addsKey_16 rfl rfl (by omega) ?_
  refine r_aload_n eX4_addsKey_17 rfl rfl ?_
  refine r_getf (v := .ref 2) eX4_addsKey_18 fX4_13 rfl rfl ?_
  refine n_bipush 40 eX4_addsKey_21 rfl ?_
  refine n_iconst 2 eX4_addsKey_23 rfl ?_
  refine r_aload_n eX4_addsKey_24 rfl rfl ?_
  refine r_getf (v := .ref 2) eX4_addsKey_25 fX4_13 rfl rfl ?_
  refine n_iconst 1 eX4_addsKey_28 rfl ?_
  refine n_iald (f := (va_up (mg_s t) (40 + (2 * ((mg_s t) (1)))) (d0))) (j := 1) eX4_addsKey_29 rfl rfl (by omega) (by decide) ?_
  refine z_top (y := nI (mg_s t 1)) (congrArg nI (zu_n (by omega))) ?_
  refine n_mul eX4_addsKey_30 ?_
  refine n_add eX4_addsKey_31 ?_
  refine n_iconst 1 eX4_addsKey_32 rfl ?_
  refine n_add eX4_addsKey_33 ?_
  refine r_iload_n eX4_addsKey_34 rfl rfl ?_
  refine mw_s (j := (40 + (2 * (mg_s t 1))) + 1) (v := p0) eX4_addsKey_35 rfl rfl (by omega) ?_
  refine r_aload_n eX4_addsKey_36 rfl rfl ?_
  refine r_getf (v := .ref 2) eX4_addsKey_37 fX4_13 rfl rfl ?_
  refine n_iconst 1 eX4_addsKey_40 rfl ?_
  refine r_dup2 eX4_addsKey_41 rfl rfl ?_
  refine n_iald (f := (va_up ((va_up (mg_s t) (40 + (2 * ((mg_s t) (1)))) (d0))) ((40 + (2 * (mg_s t 1))) + 1) (p0))) (j := 1) eX4_addsKey_42 rfl rfl (by omega) (by decide) ?_
  refine z_top (y := nI (mg_s t 1)) (congrArg nI ((zu_n (by omega)).trans (zu_n (by omega)))) ?_
  refine n_iconst 1 eX4_addsKey_43 rfl ?_
  refine n_add eX4_addsKey_44 ?_
  refine mw_s (j := 1) (v := (mg_s t 1) + 1) eX4_addsKey_45 rfl rfl (by omega) ?_
  exact z_vret eX4_addsKey_46 ⟨rfl, rfl⟩
def sDrop (S : Nat → Nat) (k i : Nat) : Nat := if i = 1 then S 1 - 1 else if 40 + 2 * k ≤ i ∧ i < 40 + 2 * S 1 - 2 then S (i + 2) else S i
set_option maxHeartbeats 1000000 in
set_option maxRecDepth 100000 in
theorem s4_takesAway_l {t : zMod} {u : zCls} {k0 : Nat} (h1 : mg_s t 1 ≤ 12) (hk : k0 < mg_s t 1) : ∀ (k : Nat) (ii : Nat) (X : Nat → Nat) (hd : ii + k = 40 + 2 * mg_s t 1 - 2) (hi : 40 + 2 * k0 ≤ ii) (hX : ∀ i, X i = if 40 + 2 * k0 ≤ i ∧ i < ii then mg_s t (i + 2) else mg_s t i), Rq mX4_takesAway 1 none 7 [.ref 0, .int (nI (k0)), .int (nI (ii))] [] (hA (mg_re t, X, mg_im t, mg_rd t, mg_ii t, mg_tp t, mg_tl t, mg_ta t, mg_at t, mg_ou t, mg_op t, mg_br t, mg_nw t, mg_fs t, mg_bc t, mg_kr t, mg_rw t, mg_rc t) u) (fun r h' => r = none ∧ h' = hA (mg_re t, (sDrop (mg_s t) k0), mg_im t, mg_rd t, mg_ii t, mg_tp t, mg_tl t, mg_ta t, mg_at t, mg_ou t, mg_op t, mg_br t, mg_nw t, mg_fs t, mg_bc t, mg_kr t, mg_rw t, mg_rc t) u) := by
  intro k
  induction k with
  | zero =>
    intro ii X hd hi hX
    have hX1 : X 1 = mg_s t 1 := by rw [hX 1, if_neg (by omega)]
    refine r_iload_n eX4_takesAway_7 rfl rfl ?_
    refine n_bipush 40 eX4_takesAway_8 rfl ?_
    refine n_iconst 2 eX4_takesAway_10 rfl ?_
    refine r_aload_n eX4_takesAway_11 rfl rfl ?_
    refine r_getf (v := .ref 2) eX4_takesAway_12 fX4_13 rfl rfl ?_
    refine n_iconst 1 eX4_takesAway_15 rfl ?_
    refine n_iald (f := X) (j := 1) eX4_takesAway_16 rfl rfl (by omega) (by decide) ?_
    refine z_top (y := nI (mg_s t 1)) (congrArg nI hX1) ?_
    refine n_mul eX4_takesAway_17 ?_
    refine n_add eX4_takesAway_18 ?_
    refine n_iconst 2 eX4_takesAway_19 rfl ?_
    refine n_sub eX4_takesAway_20 (by omega) ?_
    refine n_icmp_ge eX4_takesAway_21 (by omega) (by omega) (fun hc21 => ?_) (fun hc21 => absurd hc21 (by omega))
    refine r_aload_n eX4_takesAway_44 rfl rfl ?_
    refine r_getf (v := .ref 2) eX4_takesAway_45 fX4_13 rfl rfl ?_
    refine n_iconst 1 eX4_takesAway_48 rfl ?_
    refine r_dup2 eX4_takesAway_49 rfl rfl ?_
    refine n_iald (f := X) (j := 1) eX4_takesAway_50 rfl rfl (by omega) (by decide) ?_
    refine z_top (y := nI (mg_s t 1)) (congrArg nI hX1) ?_
    refine n_iconst 1 eX4_takesAway_51 rfl ?_
    refine n_sub eX4_takesAway_52 (by omega) ?_
    refine mw_s (j := 1) (v := (mg_s t 1) - 1) eX4_takesAway_53 rfl rfl (by omega) ?_
    have e1 : va_up X 1 (mg_s t 1 - 1) = sDrop (mg_s t) k0 := by
      funext i
      unfold va_up sDrop
      by_cases e : i = 1
      · rw [if_pos e, if_pos e]
      · rw [if_neg e, if_neg e, hX i, show ii = 40 + 2 * mg_s t 1 - 2 by omega]
    rw [e1]
    exact z_vret eX4_takesAway_54 ⟨rfl, rfl⟩
  | succ k ih =>
    intro ii X hd hi hX
    have hX1 : X 1 = mg_s t 1 := by rw [hX 1, if_neg (by omega)]
    have hXi : X (ii + 2) = mg_s t (ii + 2) := by rw [hX (ii + 2), if_neg (by omega)]
    refine r_iload_n eX4_takesAway_7 rfl rfl ?_
    refine n_bipush 40 eX4_takesAway_8 rfl ?_
    refine n_iconst 2 eX4_takesAway_10 rfl ?_
    refine r_aload_n eX4_takesAway_11 rfl rfl ?_
    refine r_getf (v := .ref 2) eX4_takesAway_12 fX4_13 rfl rfl ?_
    refine n_iconst 1 eX4_takesAway_15 rfl ?_
    refine n_iald (f := X) (j := 1) eX4_takesAway_16 rfl rfl (by omega) (by decide) ?_
    refine z_top (y := nI (mg_s t 1)) (congrArg nI hX1) ?_
    refine n_mul eX4_takesAway_17 ?_
    refine n_add eX4_takesAway_18 ?_
    refine n_iconst 2 eX4_takesAway_19 rfl ?_
    refine n_sub eX4_takesAway_20 (by omega) ?_
    refine n_icmp_ge eX4_takesAway_21 (by omega) (by omega) (fun hc21 => absurd hc21 (by omega)) (fun hc21 => ?_)
    refine r_aload_n eX4_takesAway_24 rfl rfl ?_
    refine r_getf (v := .ref 2) eX4_takesAway_25 fX4_13 rfl rfl ?_
    refine r_iload_n eX4_takesAway_28 rfl rfl ?_
    refine r_aload_n eX4_takesAway_29 rfl rfl ?_
    refine r_getf (v := .ref 2) eX4_takesAway_30 fX4_13 rfl rfl ?_
    refine r_iload_n eX4_takesAway_33 rfl rfl ?_
    refine n_iconst 2 eX4_takesAway_34 rfl ?_
    refine n_add eX4_takesAway_35 ?_
    refine n_iald (f := X) (j := ii + 2) eX4_takesAway_36 rfl rfl (by omega) (by decide) ?_
    refine z_top (y := nI (mg_s t (ii + 2))) (congrArg nI hXi) ?_
    refine mw_s (j := ii) (v := mg_s t (ii + 2)) eX4_takesAway_37 rfl rfl (by omega) ?_
    refine n_iinc (k := 1) eX4_takesAway_38 rfl (by decide) rfl ?_
    refine r_goto eX4_takesAway_41 ?_
    refine ih (ii + 1) (va_up (X) (ii) (mg_s t (ii + 2))) (by omega) (by omega) (fun i => ?_)
    unfold va_up
    by_cases e : i = ii
    · rw [if_pos e, e, if_pos (by omega)]
    · rw [if_neg e, hX i]
      by_cases e2 : 40 + 2 * k0 ≤ i ∧ i < ii
      · rw [if_pos e2, if_pos (by omega)]
      · rw [if_neg e2, if_neg (by omega)]
set_option maxHeartbeats 1000000 in
set_option maxRecDepth 100000 in
theorem s4_takesAway {t : zMod} {u : zCls} {k0 : Nat} (h1 : mg_s t 1 ≤ 12) (hk : k0 < mg_s t 1) : Mv mX4_takesAway 1 [.ref 0, .int (nI (k0))] (hA t u) (fun h' => h' = hA (mg_re t, (sDrop (mg_s t) k0), mg_im t, mg_rd t, mg_ii t, mg_tp t, mg_tl t, mg_ta t, mg_at t, mg_ou t, mg_op t, mg_br t, mg_nw t, mg_fs t, mg_bc t, mg_kr t, mg_rw t, mg_rc t) u) := by
  refine Mv.of (by decide) rfl rfl (Nat.le_of_ble_eq_true rfl) ?_
  refine n_bipush 40 eX4_takesAway_0 rfl ?_
  refine n_iconst 2 eX4_takesAway_2 rfl ?_
  refine r_iload_n eX4_takesAway_3 rfl rfl ?_
  refine n_mul eX4_takesAway_4 ?_
  refine n_add eX4_takesAway_5 ?_
  refine r_istore_n eX4_takesAway_6 rfl (by decide) ?_
  refine z_h (h' := hA (mg_re t, mg_s t, mg_im t, mg_rd t, mg_ii t, mg_tp t, mg_tl t, mg_ta t, mg_at t, mg_ou t, mg_op t, mg_br t, mg_nw t, mg_fs t, mg_bc t, mg_kr t, mg_rw t, mg_rc t) u) rfl ?_
  exact s4_takesAway_l h1 hk (40 + 2 * mg_s t 1 - 2 - (40 + 2 * k0)) (40 + 2 * k0) (mg_s t) (by omega) (by omega) (fun i => by rw [if_neg (by omega)])
def zcp (f g : Nat → Nat) (n i : Nat) : Nat := if i < n then f i else g i
set_option maxHeartbeats 1000000 in
set_option maxRecDepth 100000 in
theorem s4_copiesTo_s_im_l {t : zMod} {u : zCls} : ∀ (k : Nat) (ii : Nat) (X : Nat → Nat) (hd : ii + k = 64) (hX : ∀ i, X i = if i < ii then mg_s t i else mg_im t i), Rq mX4_copiesTo 1 none 2 [.ref 2, .ref 3, .int (nI (ii))] [] (hA (mg_re t, mg_s t, X, mg_rd t, mg_ii t, mg_tp t, mg_tl t, mg_ta t, mg_at t, mg_ou t, mg_op t, mg_br t, mg_nw t, mg_fs t, mg_bc t, mg_kr t, mg_rw t, mg_rc t) u) (fun r h' => r = none ∧ h' = hA (mg_re t, mg_s t, (zcp (mg_s t) (mg_im t) 64), mg_rd t, mg_ii t, mg_tp t, mg_tl t, mg_ta t, mg_at t, mg_ou t, mg_op t, mg_br t, mg_nw t, mg_fs t, mg_bc t, mg_kr t, mg_rw t, mg_rc t) u) := by
  intro k
  induction k with
  | zero =>
    intro ii X hd hX
    refine r_iload_n eX4_copiesTo_2 rfl rfl ?_
    refine n_bipush 64 eX4_copiesTo_3 rfl ?_
    refine n_icmp_ge eX4_copiesTo_5 (by omega) (by omega) (fun hc5 => ?_) (fun hc5 => absurd hc5 (by omega))
    have e1 : X = zcp (mg_s t) (mg_im t) 64 := funext fun i => by rw [hX i, show ii = 64 by omega]; rfl
    rw [e1]
    exact z_vret eX4_copiesTo_20 ⟨rfl, rfl⟩
  | succ k ih =>
    intro ii X hd hX
    refine r_iload_n eX4_copiesTo_2 rfl rfl ?_
    refine n_bipush 64 eX4_copiesTo_3 rfl ?_
    refine n_icmp_ge eX4_copiesTo_5 (by omega) (by omega) (fun hc5 => absurd hc5 (by omega)) (fun hc5 => ?_)
    refine r_aload_n eX4_copiesTo_8 rfl rfl ?_
    refine r_iload_n eX4_copiesTo_9 rfl rfl ?_
    refine r_aload_n eX4_copiesTo_10 rfl rfl ?_
    refine r_iload_n eX4_copiesTo_11 rfl rfl ?_
    refine n_iald (f := mg_s t) (j := ii) eX4_copiesTo_12 rfl rfl (by omega) (by decide) ?_
    refine mw_im (j := ii) (v := (mg_s t) (ii)) eX4_copiesTo_13 rfl rfl (by omega) ?_
    refine n_iinc (k := 1) eX4_copiesTo_14 rfl (by decide) rfl ?_
    refine r_goto eX4_copiesTo_17 ?_
    refine ih (ii + 1) (va_up (X) (ii) ((mg_s t) (ii))) (by omega) (fun i => ?_)
    unfold va_up
    by_cases e : i = ii
    · rw [if_pos e, e, if_pos (by omega)]
    · rw [if_neg e, hX i]
      by_cases e2 : i < ii
      · rw [if_pos e2, if_pos (by omega)]
      · rw [if_neg e2, if_neg (by omega)]
set_option maxHeartbeats 1000000 in
set_option maxRecDepth 100000 in
theorem s4_copiesTo_s_im {t : zMod} {u : zCls} : Mv mX4_copiesTo 1 [.ref 2, .ref 3] (hA t u) (fun h' => h' = hA (mg_re t, mg_s t, (zcp (mg_s t) (mg_im t) 64), mg_rd t, mg_ii t, mg_tp t, mg_tl t, mg_ta t, mg_at t, mg_ou t, mg_op t, mg_br t, mg_nw t, mg_fs t, mg_bc t, mg_kr t, mg_rw t, mg_rc t) u) := by
  refine Mv.of (by decide) rfl rfl (Nat.le_of_ble_eq_true rfl) ?_
  refine n_iconst 0 eX4_copiesTo_0 rfl ?_
  refine r_istore_n eX4_copiesTo_1 rfl (by decide) ?_
  refine z_h (h' := hA (mg_re t, mg_s t, mg_im t, mg_rd t, mg_ii t, mg_tp t, mg_tl t, mg_ta t, mg_at t, mg_ou t, mg_op t, mg_br t, mg_nw t, mg_fs t, mg_bc t, mg_kr t, mg_rw t, mg_rc t) u) rfl ?_
  exact s4_copiesTo_s_im_l 64 0 (mg_im t) (by omega) (fun i => by rw [if_neg (by omega)])
set_option maxHeartbeats 1000000 in
set_option maxRecDepth 100000 in
theorem s4_copiesTo_s_rd_l {t : zMod} {u : zCls} : ∀ (k : Nat) (ii : Nat) (X : Nat → Nat) (hd : ii + k = 64) (hX : ∀ i, X i = if i < ii then mg_s t i else mg_rd t i), Rq mX4_copiesTo 1 none 2 [.ref 2, .ref 4, .int (nI (ii))] [] (hA (mg_re t, mg_s t, mg_im t, X, mg_ii t, mg_tp t, mg_tl t, mg_ta t, mg_at t, mg_ou t, mg_op t, mg_br t, mg_nw t, mg_fs t, mg_bc t, mg_kr t, mg_rw t, mg_rc t) u) (fun r h' => r = none ∧ h' = hA (mg_re t, mg_s t, mg_im t, (zcp (mg_s t) (mg_rd t) 64), mg_ii t, mg_tp t, mg_tl t, mg_ta t, mg_at t, mg_ou t, mg_op t, mg_br t, mg_nw t, mg_fs t, mg_bc t, mg_kr t, mg_rw t, mg_rc t) u) := by
  intro k
  induction k with
  | zero =>
    intro ii X hd hX
    refine r_iload_n eX4_copiesTo_2 rfl rfl ?_
    refine n_bipush 64 eX4_copiesTo_3 rfl ?_
    refine n_icmp_ge eX4_copiesTo_5 (by omega) (by omega) (fun hc5 => ?_) (fun hc5 => absurd hc5 (by omega))
    have e1 : X = zcp (mg_s t) (mg_rd t) 64 := funext fun i => by rw [hX i, show ii = 64 by omega]; rfl
    rw [e1]
    exact z_vret eX4_copiesTo_20 ⟨rfl, rfl⟩
  | succ k ih =>
    intro ii X hd hX
    refine r_iload_n eX4_copiesTo_2 rfl rfl ?_
    refine n_bipush 64 eX4_copiesTo_3 rfl ?_
    refine n_icmp_ge eX4_copiesTo_5 (by omega) (by omega) (fun hc5 => absurd hc5 (by omega)) (fun hc5 => ?_)
    refine r_aload_n eX4_copiesTo_8 rfl rfl ?_
    refine r_iload_n eX4_copiesTo_9 rfl rfl ?_
    refine r_aload_n eX4_copiesTo_10 rfl rfl ?_
    refine r_iload_n eX4_copiesTo_11 rfl rfl ?_
    refine n_iald (f := mg_s t) (j := ii) eX4_copiesTo_12 rfl rfl (by omega) (by decide) ?_
    refine mw_rd (j := ii) (v := (mg_s t) (ii)) eX4_copiesTo_13 rfl rfl (by omega) ?_
    refine n_iinc (k := 1) eX4_copiesTo_14 rfl (by decide) rfl ?_
    refine r_goto eX4_copiesTo_17 ?_
    refine ih (ii + 1) (va_up (X) (ii) ((mg_s t) (ii))) (by omega) (fun i => ?_)
    unfold va_up
    by_cases e : i = ii
    · rw [if_pos e, e, if_pos (by omega)]
    · rw [if_neg e, hX i]
      by_cases e2 : i < ii
      · rw [if_pos e2, if_pos (by omega)]
      · rw [if_neg e2, if_neg (by omega)]
set_option maxHeartbeats 1000000 in
set_option maxRecDepth 100000 in
theorem s4_copiesTo_s_rd {t : zMod} {u : zCls} : Mv mX4_copiesTo 1 [.ref 2, .ref 4] (hA t u) (fun h' => h' = hA (mg_re t, mg_s t, mg_im t, (zcp (mg_s t) (mg_rd t) 64), mg_ii t, mg_tp t, mg_tl t, mg_ta t, mg_at t, mg_ou t, mg_op t, mg_br t, mg_nw t, mg_fs t, mg_bc t, mg_kr t, mg_rw t, mg_rc t) u) := by
  refine Mv.of (by decide) rfl rfl (Nat.le_of_ble_eq_true rfl) ?_
  refine n_iconst 0 eX4_copiesTo_0 rfl ?_
  refine r_istore_n eX4_copiesTo_1 rfl (by decide) ?_
  refine z_h (h' := hA (mg_re t, mg_s t, mg_im t, mg_rd t, mg_ii t, mg_tp t, mg_tl t, mg_ta t, mg_at t, mg_ou t, mg_op t, mg_br t, mg_nw t, mg_fs t, mg_bc t, mg_kr t, mg_rw t, mg_rc t) u) rfl ?_
  exact s4_copiesTo_s_rd_l 64 0 (mg_rd t) (by omega) (fun i => by rw [if_neg (by omega)])
set_option maxHeartbeats 1000000 in
set_option maxRecDepth 100000 in
theorem s4_copiesTo_rd_s_l {t : zMod} {u : zCls} : ∀ (k : Nat) (ii : Nat) (X : Nat → Nat) (hd : ii + k = 64) (hX : ∀ i, X i = if i < ii then mg_rd t i else mg_s t i), Rq mX4_copiesTo 1 none 2 [.ref 4, .ref 2, .int (nI (ii))] [] (hA (mg_re t, X, mg_im t, mg_rd t, mg_ii t, mg_tp t, mg_tl t, mg_ta t, mg_at t, mg_ou t, mg_op t, mg_br t, mg_nw t, mg_fs t, mg_bc t, mg_kr t, mg_rw t, mg_rc t) u) (fun r h' => r = none ∧ h' = hA (mg_re t, (zcp (mg_rd t) (mg_s t) 64), mg_im t, mg_rd t, mg_ii t, mg_tp t, mg_tl t, mg_ta t, mg_at t, mg_ou t, mg_op t, mg_br t, mg_nw t, mg_fs t, mg_bc t, mg_kr t, mg_rw t, mg_rc t) u) := by
  intro k
  induction k with
  | zero =>
    intro ii X hd hX
    refine r_iload_n eX4_copiesTo_2 rfl rfl ?_
    refine n_bipush 64 eX4_copiesTo_3 rfl ?_
    refine n_icmp_ge eX4_copiesTo_5 (by omega) (by omega) (fun hc5 => ?_) (fun hc5 => absurd hc5 (by omega))
    have e1 : X = zcp (mg_rd t) (mg_s t) 64 := funext fun i => by rw [hX i, show ii = 64 by omega]; rfl
    rw [e1]
    exact z_vret eX4_copiesTo_20 ⟨rfl, rfl⟩
  | succ k ih =>
    intro ii X hd hX
    refine r_iload_n eX4_copiesTo_2 rfl rfl ?_
    refine n_bipush 64 eX4_copiesTo_3 rfl ?_
    refine n_icmp_ge eX4_copiesTo_5 (by omega) (by omega) (fun hc5 => absurd hc5 (by omega)) (fun hc5 => ?_)
    refine r_aload_n eX4_copiesTo_8 rfl rfl ?_
    refine r_iload_n eX4_copiesTo_9 rfl rfl ?_
    refine r_aload_n eX4_copiesTo_10 rfl rfl ?_
    refine r_iload_n eX4_copiesTo_11 rfl rfl ?_
    refine n_iald (f := mg_rd t) (j := ii) eX4_copiesTo_12 rfl rfl (by omega) (by decide) ?_
    refine mw_s (j := ii) (v := (mg_rd t) (ii)) eX4_copiesTo_13 rfl rfl (by omega) ?_
    refine n_iinc (k := 1) eX4_copiesTo_14 rfl (by decide) rfl ?_
    refine r_goto eX4_copiesTo_17 ?_
    refine ih (ii + 1) (va_up (X) (ii) ((mg_rd t) (ii))) (by omega) (fun i => ?_)
    unfold va_up
    by_cases e : i = ii
    · rw [if_pos e, e, if_pos (by omega)]
    · rw [if_neg e, hX i]
      by_cases e2 : i < ii
      · rw [if_pos e2, if_pos (by omega)]
      · rw [if_neg e2, if_neg (by omega)]
set_option maxHeartbeats 1000000 in
set_option maxRecDepth 100000 in
theorem s4_copiesTo_rd_s {t : zMod} {u : zCls} : Mv mX4_copiesTo 1 [.ref 4, .ref 2] (hA t u) (fun h' => h' = hA (mg_re t, (zcp (mg_rd t) (mg_s t) 64), mg_im t, mg_rd t, mg_ii t, mg_tp t, mg_tl t, mg_ta t, mg_at t, mg_ou t, mg_op t, mg_br t, mg_nw t, mg_fs t, mg_bc t, mg_kr t, mg_rw t, mg_rc t) u) := by
  refine Mv.of (by decide) rfl rfl (Nat.le_of_ble_eq_true rfl) ?_
  refine n_iconst 0 eX4_copiesTo_0 rfl ?_
  refine r_istore_n eX4_copiesTo_1 rfl (by decide) ?_
  refine z_h (h' := hA (mg_re t, mg_s t, mg_im t, mg_rd t, mg_ii t, mg_tp t, mg_tl t, mg_ta t, mg_at t, mg_ou t, mg_op t, mg_br t, mg_nw t, mg_fs t, mg_bc t, mg_kr t, mg_rw t, mg_rc t) u) rfl ?_
  exact s4_copiesTo_rd_s_l 64 0 (mg_s t) (by omega) (fun i => by rw [if_neg (by omega)])
set_option maxHeartbeats 1000000 in
set_option maxRecDepth 100000 in
theorem s4_copiesTo_s_kr_l {t : zMod} {u : zCls} : ∀ (k : Nat) (ii : Nat) (X : Nat → Nat) (hd : ii + k = 64) (hX : ∀ i, X i = if i < ii then mg_s t i else mg_kr t i), Rq mX4_copiesTo 1 none 2 [.ref 2, .ref 9, .int (nI (ii))] [] (hA (mg_re t, mg_s t, mg_im t, mg_rd t, mg_ii t, mg_tp t, mg_tl t, mg_ta t, mg_at t, mg_ou t, mg_op t, mg_br t, mg_nw t, mg_fs t, mg_bc t, X, mg_rw t, mg_rc t) u) (fun r h' => r = none ∧ h' = hA (mg_re t, mg_s t, mg_im t, mg_rd t, mg_ii t, mg_tp t, mg_tl t, mg_ta t, mg_at t, mg_ou t, mg_op t, mg_br t, mg_nw t, mg_fs t, mg_bc t, (zcp (mg_s t) (mg_kr t) 64), mg_rw t, mg_rc t) u) := by
  intro k
  induction k with
  | zero =>
    intro ii X hd hX
    refine r_iload_n eX4_copiesTo_2 rfl rfl ?_
    refine n_bipush 64 eX4_copiesTo_3 rfl ?_
    refine n_icmp_ge eX4_copiesTo_5 (by omega) (by omega) (fun hc5 => ?_) (fun hc5 => absurd hc5 (by omega))
    have e1 : X = zcp (mg_s t) (mg_kr t) 64 := funext fun i => by rw [hX i, show ii = 64 by omega]; rfl
    rw [e1]
    exact z_vret eX4_copiesTo_20 ⟨rfl, rfl⟩
  | succ k ih =>
    intro ii X hd hX
    refine r_iload_n eX4_copiesTo_2 rfl rfl ?_
    refine n_bipush 64 eX4_copiesTo_3 rfl ?_
    refine n_icmp_ge eX4_copiesTo_5 (by omega) (by omega) (fun hc5 => absurd hc5 (by omega)) (fun hc5 => ?_)
    refine r_aload_n eX4_copiesTo_8 rfl rfl ?_
    refine r_iload_n eX4_copiesTo_9 rfl rfl ?_
    refine r_aload_n eX4_copiesTo_10 rfl rfl ?_
    refine r_iload_n eX4_copiesTo_11 rfl rfl ?_
    refine n_iald (f := mg_s t) (j := ii) eX4_copiesTo_12 rfl rfl (by omega) (by decide) ?_
    refine mw_kr (j := ii) (v := (mg_s t) (ii)) eX4_copiesTo_13 rfl rfl (by omega) ?_
    refine n_iinc (k := 1) eX4_copiesTo_14 rfl (by decide) rfl ?_
    refine r_goto eX4_copiesTo_17 ?_
    refine ih (ii + 1) (va_up (X) (ii) ((mg_s t) (ii))) (by omega) (fun i => ?_)
    unfold va_up
    by_cases e : i = ii
    · rw [if_pos e, e, if_pos (by omega)]
    · rw [if_neg e, hX i]
      by_cases e2 : i < ii
      · rw [if_pos e2, if_pos (by omega)]
      · rw [if_neg e2, if_neg (by omega)]
set_option maxHeartbeats 1000000 in
set_option maxRecDepth 100000 in
theorem s4_copiesTo_s_kr {t : zMod} {u : zCls} : Mv mX4_copiesTo 1 [.ref 2, .ref 9] (hA t u) (fun h' => h' = hA (mg_re t, mg_s t, mg_im t, mg_rd t, mg_ii t, mg_tp t, mg_tl t, mg_ta t, mg_at t, mg_ou t, mg_op t, mg_br t, mg_nw t, mg_fs t, mg_bc t, (zcp (mg_s t) (mg_kr t) 64), mg_rw t, mg_rc t) u) := by
  refine Mv.of (by decide) rfl rfl (Nat.le_of_ble_eq_true rfl) ?_
  refine n_iconst 0 eX4_copiesTo_0 rfl ?_
  refine r_istore_n eX4_copiesTo_1 rfl (by decide) ?_
  refine z_h (h' := hA (mg_re t, mg_s t, mg_im t, mg_rd t, mg_ii t, mg_tp t, mg_tl t, mg_ta t, mg_at t, mg_ou t, mg_op t, mg_br t, mg_nw t, mg_fs t, mg_bc t, mg_kr t, mg_rw t, mg_rc t) u) rfl ?_
  exact s4_copiesTo_s_kr_l 64 0 (mg_kr t) (by omega) (fun i => by rw [if_neg (by omega)])
set_option maxHeartbeats 1000000 in
set_option maxRecDepth 100000 in
theorem s4_copiesTo_kr_s_l {t : zMod} {u : zCls} : ∀ (k : Nat) (ii : Nat) (X : Nat → Nat) (hd : ii + k = 64) (hX : ∀ i, X i = if i < ii then mg_kr t i else mg_s t i), Rq mX4_copiesTo 1 none 2 [.ref 9, .ref 2, .int (nI (ii))] [] (hA (mg_re t, X, mg_im t, mg_rd t, mg_ii t, mg_tp t, mg_tl t, mg_ta t, mg_at t, mg_ou t, mg_op t, mg_br t, mg_nw t, mg_fs t, mg_bc t, mg_kr t, mg_rw t, mg_rc t) u) (fun r h' => r = none ∧ h' = hA (mg_re t, (zcp (mg_kr t) (mg_s t) 64), mg_im t, mg_rd t, mg_ii t, mg_tp t, mg_tl t, mg_ta t, mg_at t, mg_ou t, mg_op t, mg_br t, mg_nw t, mg_fs t, mg_bc t, mg_kr t, mg_rw t, mg_rc t) u) := by
  intro k
  induction k with
  | zero =>
    intro ii X hd hX
    refine r_iload_n eX4_copiesTo_2 rfl rfl ?_
    refine n_bipush 64 eX4_copiesTo_3 rfl ?_
    refine n_icmp_ge eX4_copiesTo_5 (by omega) (by omega) (fun hc5 => ?_) (fun hc5 => absurd hc5 (by omega))
    have e1 : X = zcp (mg_kr t) (mg_s t) 64 := funext fun i => by rw [hX i, show ii = 64 by omega]; rfl
    rw [e1]
    exact z_vret eX4_copiesTo_20 ⟨rfl, rfl⟩
  | succ k ih =>
    intro ii X hd hX
    refine r_iload_n eX4_copiesTo_2 rfl rfl ?_
    refine n_bipush 64 eX4_copiesTo_3 rfl ?_
    refine n_icmp_ge eX4_copiesTo_5 (by omega) (by omega) (fun hc5 => absurd hc5 (by omega)) (fun hc5 => ?_)
    refine r_aload_n eX4_copiesTo_8 rfl rfl ?_
    refine r_iload_n eX4_copiesTo_9 rfl rfl ?_
    refine r_aload_n eX4_copiesTo_10 rfl rfl ?_
    refine r_iload_n eX4_copiesTo_11 rfl rfl ?_
    refine n_iald (f := mg_kr t) (j := ii) eX4_copiesTo_12 rfl rfl (by omega) (by decide) ?_
    refine mw_s (j := ii) (v := (mg_kr t) (ii)) eX4_copiesTo_13 rfl rfl (by omega) ?_
    refine n_iinc (k := 1) eX4_copiesTo_14 rfl (by decide) rfl ?_
    refine r_goto eX4_copiesTo_17 ?_
    refine ih (ii + 1) (va_up (X) (ii) ((mg_kr t) (ii))) (by omega) (fun i => ?_)
    unfold va_up
    by_cases e : i = ii
    · rw [if_pos e, e, if_pos (by omega)]
    · rw [if_neg e, hX i]
      by_cases e2 : i < ii
      · rw [if_pos e2, if_pos (by omega)]
      · rw [if_neg e2, if_neg (by omega)]
set_option maxHeartbeats 1000000 in
set_option maxRecDepth 100000 in
theorem s4_copiesTo_kr_s {t : zMod} {u : zCls} : Mv mX4_copiesTo 1 [.ref 9, .ref 2] (hA t u) (fun h' => h' = hA (mg_re t, (zcp (mg_kr t) (mg_s t) 64), mg_im t, mg_rd t, mg_ii t, mg_tp t, mg_tl t, mg_ta t, mg_at t, mg_ou t, mg_op t, mg_br t, mg_nw t, mg_fs t, mg_bc t, mg_kr t, mg_rw t, mg_rc t) u) := by
  refine Mv.of (by decide) rfl rfl (Nat.le_of_ble_eq_true rfl) ?_
  refine n_iconst 0 eX4_copiesTo_0 rfl ?_
  refine r_istore_n eX4_copiesTo_1 rfl (by decide) ?_
  refine z_h (h' := hA (mg_re t, mg_s t, mg_im t, mg_rd t, mg_ii t, mg_tp t, mg_tl t, mg_ta t, mg_at t, mg_ou t, mg_op t, mg_br t, mg_nw t, mg_fs t, mg_bc t, mg_kr t, mg_rw t, mg_rc t) u) rfl ?_
  exact s4_copiesTo_kr_s_l 64 0 (mg_s t) (by omega) (fun i => by rw [if_neg (by omega)])
set_option maxHeartbeats 1000000 in
set_option maxRecDepth 100000 in
theorem s4_copiesTo_im_s_l {t : zMod} {u : zCls} : ∀ (k : Nat) (ii : Nat) (X : Nat → Nat) (hd : ii + k = 64) (hX : ∀ i, X i = if i < ii then mg_im t i else mg_s t i), Rq mX4_copiesTo 1 none 2 [.ref 3, .ref 2, .int (nI (ii))] [] (hA (mg_re t, X, mg_im t, mg_rd t, mg_ii t, mg_tp t, mg_tl t, mg_ta t, mg_at t, mg_ou t, mg_op t, mg_br t, mg_nw t, mg_fs t, mg_bc t, mg_kr t, mg_rw t, mg_rc t) u) (fun r h' => r = none ∧ h' = hA (mg_re t, (zcp (mg_im t) (mg_s t) 64), mg_im t, mg_rd t, mg_ii t, mg_tp t, mg_tl t, mg_ta t, mg_at t, mg_ou t, mg_op t, mg_br t, mg_nw t, mg_fs t, mg_bc t, mg_kr t, mg_rw t, mg_rc t) u) := by
  intro k
  induction k with
  | zero =>
    intro ii X hd hX
    refine r_iload_n eX4_copiesTo_2 rfl rfl ?_
    refine n_bipush 64 eX4_copiesTo_3 rfl ?_
    refine n_icmp_ge eX4_copiesTo_5 (by omega) (by omega) (fun hc5 => ?_) (fun hc5 => absurd hc5 (by omega))
    have e1 : X = zcp (mg_im t) (mg_s t) 64 := funext fun i => by rw [hX i, show ii = 64 by omega]; rfl
    rw [e1]
    exact z_vret eX4_copiesTo_20 ⟨rfl, rfl⟩
  | succ k ih =>
    intro ii X hd hX
    refine r_iload_n eX4_copiesTo_2 rfl rfl ?_
    refine n_bipush 64 eX4_copiesTo_3 rfl ?_
    refine n_icmp_ge eX4_copiesTo_5 (by omega) (by omega) (fun hc5 => absurd hc5 (by omega)) (fun hc5 => ?_)
    refine r_aload_n eX4_copiesTo_8 rfl rfl ?_
    refine r_iload_n eX4_copiesTo_9 rfl rfl ?_
    refine r_aload_n eX4_copiesTo_10 rfl rfl ?_
    refine r_iload_n eX4_copiesTo_11 rfl rfl ?_
    refine n_iald (f := mg_im t) (j := ii) eX4_copiesTo_12 rfl rfl (by omega) (by decide) ?_
    refine mw_s (j := ii) (v := (mg_im t) (ii)) eX4_copiesTo_13 rfl rfl (by omega) ?_
    refine n_iinc (k := 1) eX4_copiesTo_14 rfl (by decide) rfl ?_
    refine r_goto eX4_copiesTo_17 ?_
    refine ih (ii + 1) (va_up (X) (ii) ((mg_im t) (ii))) (by omega) (fun i => ?_)
    unfold va_up
    by_cases e : i = ii
    · rw [if_pos e, e, if_pos (by omega)]
    · rw [if_neg e, hX i]
      by_cases e2 : i < ii
      · rw [if_pos e2, if_pos (by omega)]
      · rw [if_neg e2, if_neg (by omega)]
set_option maxHeartbeats 1000000 in
set_option maxRecDepth 100000 in
theorem s4_copiesTo_im_s {t : zMod} {u : zCls} : Mv mX4_copiesTo 1 [.ref 3, .ref 2] (hA t u) (fun h' => h' = hA (mg_re t, (zcp (mg_im t) (mg_s t) 64), mg_im t, mg_rd t, mg_ii t, mg_tp t, mg_tl t, mg_ta t, mg_at t, mg_ou t, mg_op t, mg_br t, mg_nw t, mg_fs t, mg_bc t, mg_kr t, mg_rw t, mg_rc t) u) := by
  refine Mv.of (by decide) rfl rfl (Nat.le_of_ble_eq_true rfl) ?_
  refine n_iconst 0 eX4_copiesTo_0 rfl ?_
  refine r_istore_n eX4_copiesTo_1 rfl (by decide) ?_
  refine z_h (h' := hA (mg_re t, mg_s t, mg_im t, mg_rd t, mg_ii t, mg_tp t, mg_tl t, mg_ta t, mg_at t, mg_ou t, mg_op t, mg_br t, mg_nw t, mg_fs t, mg_bc t, mg_kr t, mg_rw t, mg_rc t) u) rfl ?_
  exact s4_copiesTo_im_s_l 64 0 (mg_s t) (by omega) (fun i => by rw [if_neg (by omega)])
def tOpens (T : zTown) (m0 p door : Nat) : Nat := if zhold (tg_door T) (tg_held T) (tg_keys T) p door = true then (zgo (tWay T) (tNd T p) (tPc T p) (tHd T p) m0 p (fun _ => 0) (door + 1)).1 else 1000000
set_option maxHeartbeats 1000000 in
set_option maxRecDepth 100000 in
theorem s4_opensAt_l {t : zMod} {u : zCls} (hm : mOk t) {p d0 : Nat} (hp : p < mg_s t 0) (hd0 : d0 < mg_s t 0) : ∀ (k : Nat) (dd : Nat) (mi : Nat) (he : Nat) (hd : dd + k = d0 + 1) (hz1 : (zgo (sWay (mg_s t)) (sNd (mg_s t) p) (sPc (mg_s t) p) (sHd (mg_s t) p) (mg_ou t p) p (fun _ => 0) dd).1 = mi) (hz2 : (zgo (sWay (mg_s t)) (sNd (mg_s t) p) (sPc (mg_s t) p) (sHd (mg_s t) p) (mg_ou t p) p (fun _ => 0) dd).2.1 = he) (hmi : mi ≤ 1000000 + 10000 * dd) (hhe : he < mg_s t 0), Rq mX4_opensAt 3 none 13 [.ref 0, .int (nI (p)), .int (nI (d0)), .int (nI (mi)), .int (nI (he)), .int (nI (dd))] [] (hA t u) (fun r h' => ∃ x, r = some x ∧ (x = nI (tOpens (sTw (mg_s t)) (mg_ou t p) p d0) ∧ h' = hA t u)) := by
  intro k
  induction k with
  | zero =>
    intro dd mi he hd hz1 hz2 hmi hhe
    obtain ⟨⟨hs, h0, h1⟩, hbr, hnw, hou, hop⟩ := id hm
    refine r_iload eX4_opensAt_13 rfl ?_
    refine r_iload_n eX4_opensAt_15 rfl rfl ?_
    refine n_icmp_gt eX4_opensAt_16 (by first | omega | (have := Bool.toNat_lt (zhold (fun k => mg_s t (40 + 2 * k)) (fun k => mg_s t (40 + 2 * k + 1)) (mg_s t 1) p d0); omega)) (by first | omega | (have := Bool.toNat_lt (zhold (fun k => mg_s t (40 + 2 * k)) (fun k => mg_s t (40 + 2 * k + 1)) (mg_s t 1) p d0); omega)) (fun hc16 => ?_) (fun hc16 => absurd hc16 (by omega))
    refine r_aload_n eX4_opensAt_86 rfl rfl ?_
    refine r_iload_n eX4_opensAt_87 rfl rfl ?_
    refine r_iload_n eX4_opensAt_88 rfl rfl ?_
    refine r_callVi2 eX4_opensAt_89 lX4_123 (Or.inl ⟨_, _, _, rfl, rfl, rfl⟩) (s4_holds (t := t) (u := u) hs h1 (by omega) (by omega)) (by omega) (Nat.le_of_ble_eq_true rfl) (fun r1 h1 hq => ?_)
    obtain ⟨rfl, rfl⟩ := (show r1 = nI ((zhold (fun k => mg_s t (40 + 2 * k)) (fun k => mg_s t (40 + 2 * k + 1)) (mg_s t 1) p d0).toNat) ∧ h1 = hA t u from hq)
    refine n_if_eq eX4_opensAt_92 (by first | omega | (have := Bool.toNat_lt (zhold (fun k => mg_s t (40 + 2 * k)) (fun k => mg_s t (40 + 2 * k + 1)) (mg_s t 1) p d0); omega)) (fun hc92 => ?_) (fun hc92 => ?_)
    · refine n_ldc 1000000 eX4_opensAt_99 kX4_129 rfl ?_
      refine z_iret eX4_opensAt_101 rfl rfl ⟨_, rfl, congrArg nI ?_, rfl⟩
      have hh : zhold (tg_door (sTw (mg_s t))) (tg_held (sTw (mg_s t))) (tg_keys (sTw (mg_s t))) p d0 = false := zt0 hc92
      rw [tOpens, if_neg (by rw [hh]; decide)]
    · refine r_iload_n eX4_opensAt_95 rfl rfl ?_
      refine r_goto eX4_opensAt_96 ?_
      refine z_iret eX4_opensAt_101 rfl rfl ⟨_, rfl, congrArg nI ?_, rfl⟩
      have hh : zhold (tg_door (sTw (mg_s t))) (tg_held (sTw (mg_s t))) (tg_keys (sTw (mg_s t))) p d0 = true := zt1 hc92
      rw [tOpens, if_pos hh]
      have e0 : dd = d0 + 1 := by omega
      subst e0
      exact hz1.symm
  | succ k ih =>
    intro dd mi he hd hz1 hz2 hmi hhe
    obtain ⟨⟨hs, h0, h1⟩, hbr, hnw, hou, hop⟩ := id hm
    have hdn : dd < mg_s t 0 := by omega
    have hbm0 : sPc (mg_s t) p * sWay (mg_s t) he dd + sNd (mg_s t) p ≤ 8000 := by
      have q1 := zway_le (r := mg_s t 4) hhe hdn
      have q2 := sNd_le hs p
      have q3 : sPc (mg_s t) p ≤ 1000 := by unfold sPc; have := hs 3; split <;> omega
      have q4 : sPc (mg_s t) p * sWay (mg_s t) he dd ≤ 1000 * 7 := Nat.mul_le_mul q3 (Nat.le_trans q1 h0)
      omega
    refine r_iload eX4_opensAt_13 rfl ?_
    refine r_iload_n eX4_opensAt_15 rfl rfl ?_
    refine n_icmp_gt eX4_opensAt_16 (by first | omega | exact zlt (hs _) | (have := Bool.toNat_lt (zhold (fun k => mg_s t (40 + 2 * k)) (fun k => mg_s t (40 + 2 * k + 1)) (mg_s t 1) p dd); omega)) (by first | omega | exact zlt (hs _) | (have := Bool.toNat_lt (zhold (fun k => mg_s t (40 + 2 * k)) (fun k => mg_s t (40 + 2 * k + 1)) (mg_s t 1) p dd); omega)) (fun hc16 => absurd hc16 (by omega)) (fun hc16 => ?_)
    refine r_iload eX4_opensAt_19 rfl ?_
    refine r_iload_n eX4_opensAt_21 rfl rfl ?_
    refine n_icmp_eq eX4_opensAt_22 (by first | omega | exact zlt (hs _) | (have := Bool.toNat_lt (zhold (fun k => mg_s t (40 + 2 * k)) (fun k => mg_s t (40 + 2 * k + 1)) (mg_s t 1) p dd); omega)) (by first | omega | exact zlt (hs _) | (have := Bool.toNat_lt (zhold (fun k => mg_s t (40 + 2 * k)) (fun k => mg_s t (40 + 2 * k + 1)) (mg_s t 1) p dd); omega)) (fun hc22 => ?_) (fun hc22 => ?_)
    · refine n_iinc (k := 1) eX4_opensAt_80 rfl (by decide) rfl ?_
      refine r_goto eX4_opensAt_83 ?_
      refine ih (dd + 1) mi he (by omega) ?_ ?_ (by omega) (by omega)
      · rw [zgo, zgs, if_neg (by simp_all [sHd, zt0])]; exact hz1
      · rw [zgo, zgs, if_neg (by simp_all [sHd, zt0])]; exact hz2
    · refine r_aload_n eX4_opensAt_25 rfl rfl ?_
      refine r_iload_n eX4_opensAt_26 rfl rfl ?_
      refine r_iload eX4_opensAt_27 rfl ?_
      refine r_callVi2 eX4_opensAt_29 lX4_123 (Or.inl ⟨_, _, _, rfl, rfl, rfl⟩) (s4_holds (t := t) (u := u) hs h1 (by omega) (by omega)) (by omega) (Nat.le_of_ble_eq_true rfl) (fun r1 h1 hq => ?_)
      obtain ⟨rfl, rfl⟩ := (show r1 = nI ((zhold (fun k => mg_s t (40 + 2 * k)) (fun k => mg_s t (40 + 2 * k + 1)) (mg_s t 1) p dd).toNat) ∧ h1 = hA t u from hq)
      refine n_if_ne eX4_opensAt_32 (by first | omega | exact zlt (hs _) | (have := Bool.toNat_lt (zhold (fun k => mg_s t (40 + 2 * k)) (fun k => mg_s t (40 + 2 * k + 1)) (mg_s t 1) p dd); omega)) (fun hc32 => ?_) (fun hc32 => ?_)
      · refine r_iload_n eX4_opensAt_38 rfl rfl ?_
        refine r_aload_n eX4_opensAt_39 rfl rfl ?_
        refine r_iload_n eX4_opensAt_40 rfl rfl ?_
        refine n_iconst 0 eX4_opensAt_41 rfl ?_
        refine r_callVi2 eX4_opensAt_42 lX4_90 (Or.inl ⟨_, _, _, rfl, rfl, rfl⟩) (s4_get (t := t) (u := u) (by omega)) (by omega) (Nat.le_of_ble_eq_true rfl) (fun r1 h1 hq => ?_)
        obtain ⟨rfl, rfl⟩ := (show r1 = nI ((mg_s t) (5 + 5 * p + 0)) ∧ h1 = hA t u from hq)
        refine n_iconst 5 eX4_opensAt_45 rfl ?_
        refine n_icmp_ne eX4_opensAt_46 (by first | omega | exact zlt (hs _) | (have := Bool.toNat_lt (zhold (fun k => mg_s t (40 + 2 * k)) (fun k => mg_s t (40 + 2 * k + 1)) (mg_s t 1) p dd); omega)) (by first | omega | exact zlt (hs _) | (have := Bool.toNat_lt (zhold (fun k => mg_s t (40 + 2 * k)) (fun k => mg_s t (40 + 2 * k + 1)) (mg_s t 1) p dd); omega)) (fun hc46 => ?_) (fun hc46 => ?_)
        · refine r_aload_n eX4_opensAt_53 rfl rfl ?_
          refine r_getf (v := .ref 2) eX4_opensAt_54 fX4_13 rfl rfl ?_
          refine n_iconst 3 eX4_opensAt_57 rfl ?_
          refine n_iald (f := mg_s t) (j := 3) eX4_opensAt_58 rfl rfl (by first | omega | exact zlt (hs _) | (have := Bool.toNat_lt (zhold (fun k => mg_s t (40 + 2 * k)) (fun k => mg_s t (40 + 2 * k + 1)) (mg_s t 1) p dd); omega)) (by decide) ?_
          refine r_aload_n eX4_opensAt_59 rfl rfl ?_
          refine r_iload eX4_opensAt_60 rfl ?_
          refine r_iload eX4_opensAt_62 rfl ?_
          refine r_callVi2 eX4_opensAt_64 lX4_126 (Or.inl ⟨_, _, _, rfl, rfl, rfl⟩) (s4_wayOf (t := t) (u := u) hs h0 hhe hdn) (by omega) (Nat.le_of_ble_eq_true rfl) (fun r1 h1 hq => ?_)
          obtain ⟨rfl, rfl⟩ := (show r1 = nI (zway (mg_s t 4) (mg_s t 0) he dd) ∧ h1 = hA t u from hq)
          refine n_mul eX4_opensAt_67 ?_
          refine r_aload_n eX4_opensAt_68 rfl rfl ?_
          refine r_iload_n eX4_opensAt_69 rfl rfl ?_
          refine r_callVi1 eX4_opensAt_70 lX4_100 (Or.inl ⟨_, _, _, rfl, rfl, rfl⟩) (s4_needsOf (t := t) (u := u) hs (by omega)) (by omega) (Nat.le_of_ble_eq_true rfl) (fun r1 h1 hq => ?_)
          obtain ⟨rfl, rfl⟩ := (show r1 = nI (zneed (mg_s t (5 + 5 * p + 0)) (mg_s t (5 + 5 * p + 2))) ∧ h1 = hA t u from hq)
          refine n_add eX4_opensAt_73 ?_
          refine n_add eX4_opensAt_74 ?_
          refine r_istore_n eX4_opensAt_75 rfl (by decide) ?_
          refine r_iload eX4_opensAt_76 rfl ?_
          refine r_istore eX4_opensAt_78 (by decide) ?_
          refine n_iinc (k := 1) eX4_opensAt_80 rfl (by decide) rfl ?_
          refine r_goto eX4_opensAt_83 ?_
          have hh : sHd (mg_s t) p dd = true := by simp_all [sHd, zt1]
          have hpc : sPc (mg_s t) p * sWay (mg_s t) he dd + sNd (mg_s t) p = ((((mg_s t) (3)) * (zway (mg_s t 4) (mg_s t 0) he dd)) + (zneed (mg_s t (5 + 5 * p + 0)) (mg_s t (5 + 5 * p + 2)))) := by simp_all [sPc, sWay, sNd]
          refine ih (dd + 1) (mi + ((((mg_s t) (3)) * (zway (mg_s t 4) (mg_s t 0) he dd)) + (zneed (mg_s t (5 + 5 * p + 0)) (mg_s t (5 + 5 * p + 2))))) dd (by omega) ?_ ?_ (by rw [← hpc]; omega) (by omega)
          · rw [zgo, zgs, if_pos hh, hz1, hz2]
            exact congrArg (mi + ·) hpc
          · rw [zgo, zgs, if_pos hh]
        · refine n_iconst 0 eX4_opensAt_49 rfl ?_
          refine r_goto eX4_opensAt_50 ?_
          refine r_aload_n eX4_opensAt_68 rfl rfl ?_
          refine r_iload_n eX4_opensAt_69 rfl rfl ?_
          refine r_callVi1 eX4_opensAt_70 lX4_100 (Or.inl ⟨_, _, _, rfl, rfl, rfl⟩) (s4_needsOf (t := t) (u := u) hs (by omega)) (by omega) (Nat.le_of_ble_eq_true rfl) (fun r1 h1 hq => ?_)
          obtain ⟨rfl, rfl⟩ := (show r1 = nI (zneed (mg_s t (5 + 5 * p + 0)) (mg_s t (5 + 5 * p + 2))) ∧ h1 = hA t u from hq)
          refine n_add eX4_opensAt_73 ?_
          refine n_add eX4_opensAt_74 ?_
          refine r_istore_n eX4_opensAt_75 rfl (by decide) ?_
          refine r_iload eX4_opensAt_76 rfl ?_
          refine r_istore eX4_opensAt_78 (by decide) ?_
          refine n_iinc (k := 1) eX4_opensAt_80 rfl (by decide) rfl ?_
          refine r_goto eX4_opensAt_83 ?_
          have hh : sHd (mg_s t) p dd = true := by simp_all [sHd, zt1]
          have hpc : sPc (mg_s t) p * sWay (mg_s t) he dd + sNd (mg_s t) p = (0 + (zneed (mg_s t (5 + 5 * p + 0)) (mg_s t (5 + 5 * p + 2)))) := by simp_all [sPc, sWay, sNd]
          refine ih (dd + 1) (mi + (0 + (zneed (mg_s t (5 + 5 * p + 0)) (mg_s t (5 + 5 * p + 2))))) dd (by omega) ?_ ?_ (by rw [← hpc]; omega) (by omega)
          · rw [zgo, zgs, if_pos hh, hz1, hz2]
            exact congrArg (mi + ·) hpc
          · rw [zgo, zgs, if_pos hh]
      · refine r_goto eX4_opensAt_35 ?_
        refine n_iinc (k := 1) eX4_opensAt_80 rfl (by decide) rfl ?_
        refine r_goto eX4_opensAt_83 ?_
        refine ih (dd + 1) mi he (by omega) ?_ ?_ (by omega) (by omega)
        · rw [zgo, zgs, if_neg (by simp_all [sHd, zt0])]; exact hz1
        · rw [zgo, zgs, if_neg (by simp_all [sHd, zt0])]; exact hz2
set_option maxHeartbeats 1000000 in
set_option maxRecDepth 100000 in
theorem s4_opensAt {t : zMod} {u : zCls} (hm : mOk t) {p d0 : Nat} (hp : p < mg_s t 0) (hd0 : d0 < mg_s t 0) : Mi mX4_opensAt 3 [.ref 0, .int (nI (p)), .int (nI (d0))] (hA t u) (fun r h' => r = nI (tOpens (sTw (mg_s t)) (mg_ou t p) p d0) ∧ h' = hA t u) := by
  obtain ⟨⟨hs, h0, h1⟩, hbr, hnw, hou, hop⟩ := id hm
  refine Mi.of (by decide) rfl (Nat.le_of_ble_eq_true rfl) ?_
  refine r_aload_n eX4_opensAt_0 rfl rfl ?_
  refine r_getf (v := .ref 7) eX4_opensAt_1 fX4_28 rfl rfl ?_
  refine r_iload_n eX4_opensAt_4 rfl rfl ?_
  refine n_iald (f := mg_ou t) (j := p) eX4_opensAt_5 rfl rfl (by omega) (by decide) ?_
  refine r_istore_n eX4_opensAt_6 rfl (by decide) ?_
  refine r_iload_n eX4_opensAt_7 rfl rfl ?_
  refine r_istore eX4_opensAt_8 (by decide) ?_
  refine n_iconst 0 eX4_opensAt_10 rfl ?_
  refine r_istore eX4_opensAt_11 (by decide) ?_
  exact s4_opensAt_l hm hp hd0 (d0 + 1) 0 (mg_ou t p) p (by omega) rfl rfl (by have := hou p; omega) hp
def zfind (f : Nat → Bool) : Nat → Option Nat
  | 0 => none
  | n + 1 => match zfind f n with
    | some o => some o
    | none => if f n = true then some n else none
theorem zfind_none {f : Nat → Bool} : ∀ {n : Nat}, (∀ i, i < n → f i = false) → zfind f n = none
  | 0, _ => rfl
  | n + 1, h => by rw [zfind, zfind_none (fun i hi => h i (by omega))]; simp [h n (by omega)]
theorem zfind_some {f : Nat → Bool} {o : Nat} : ∀ {n : Nat}, (∀ i, i < o → f i = false) → f o = true → o < n → zfind f n = some o
  | 0, _, _, h => by omega
  | n + 1, h, ho, hn => by
    rw [zfind]
    by_cases e : o = n
    · subst e
      rw [zfind_none h]
      simp [ho]
    · rw [zfind_some h ho (by omega)]
theorem zfind_cong {f g : Nat → Bool} : ∀ {n : Nat}, (∀ i, i < n → f i = g i) → zfind f n = zfind g n
  | 0, _ => rfl
  | n + 1, h => by rw [zfind, zfind, zfind_cong (fun i hi => h i (by omega)), h n (by omega)]
/-- who opens p's door first -/
def tBy (T : zTown) (out : Nat → Nat) (first p o : Nat) : Bool := decide (first < 1000000 ∧ ¬ o = p ∧ out o < 1000000 ∧ tOpens T (out o) o p = first)
theorem tOpens_le {T : zTown} (h : tOk T) {m0 p door : Nat} (hm : m0 ≤ 1000000) (hp : p < tg_people T) (hd : door < tg_people T) : tOpens T m0 p door ≤ 2000000 := by
  have hr := zgo_rel (n := tg_people T) (NV := 3000000) (NV' := 3000000) (C := 1000000) (way := tWay T) (way' := tWay T) (nd := tNd T p) (pc := tPc T p) (hold := tHd T p) (hold' := tHd T p) (m0 := m0) (p := p) (op := fun _ => 0) (op' := fun _ => 0) (tAlike (nw := 0) (NV := 1000000) h (tEq.rfl' T) (fun _ _ _ _ => rfl)).1 ((tAlike (nw := 0) (NV := 1000000) h (tEq.rfl' T) (fun _ _ _ _ => rfl)).2.1 p hp).2.1 ((tAlike (nw := 0) (NV := 1000000) h (tEq.rfl' T) (fun _ _ _ _ => rfl)).2.1 p hp).2.2.2.1 (fun _ _ => rfl) hp hm h.1 (by omega) (by omega) (fun i hi => Or.inl ⟨rfl, Nat.zero_le _⟩) (door + 1) (by omega)
  have h7 := h.1
  unfold tOpens
  split
  · exact Nat.le_trans hr.2.1 (by omega)
  · omega
set_option maxHeartbeats 1000000 in
set_option maxRecDepth 100000 in
theorem s4_by_l {t : zMod} {u : zCls} (hm : mOk t) {v fi : Nat} (hv : v < mg_s t 0) (hfi : fi ≤ 1000000) (hto : tOk (sTw (mg_s t))) : ∀ (k : Nat) (pp : Nat) (hd : pp + k = mg_s t 0) (hno : ∀ i, i < pp → (tBy (sTw (mg_s t)) (mg_ou t) fi v) i = false), Rq mX4_by 8 none 27 [.ref 0, .int (nI (v)), .int (nI (fi)), .int (nI (pp))] [] (hA t u) (fun r h' => ∃ x, r = some x ∧ (x = zor (zfind (tBy (sTw (mg_s t)) (mg_ou t) fi v) (mg_s t 0)) ∧ h' = hA t u)) := by
  intro k
  induction k with
  | zero =>
    intro pp hd hno
    obtain ⟨⟨hs, h0, h1⟩, hbr, hnw, hou, hop⟩ := id hm
    refine r_iload_n eX4_by_27 rfl rfl ?_
    refine r_aload_n eX4_by_28 rfl rfl ?_
    refine r_getf (v := .ref 2) eX4_by_29 fX4_13 rfl rfl ?_
    refine n_iconst 0 eX4_by_32 rfl ?_
    refine n_iald (f := mg_s t) (j := 0) eX4_by_33 rfl rfl (by first | omega | exact zlt (hs _) | exact hou _ | exact hop _) (by decide) ?_
    refine n_icmp_ge eX4_by_34 (by first | omega | exact zlt (hs _) | exact hou _ | exact hop _) (by first | omega | exact zlt (hs _) | exact hou _ | exact hop _) (fun hc34 => ?_) (fun hc34 => absurd hc34 (by omega))
    refine r_bipush (v := (-9)) eX4_by_77 rfl ?_
    exact z_iret eX4_by_79 rfl rfl ⟨_, rfl, by rw [zfind_none (fun i hi => hno i (by omega))]; rfl, rfl⟩
  | succ k ih =>
    intro pp hd hno
    obtain ⟨⟨hs, h0, h1⟩, hbr, hnw, hou, hop⟩ := id hm
    have hdn : pp < mg_s t 0 := by omega
    have hop9 := tOpens_le hto (hou pp) (p := pp) (door := v) hdn hv
    refine r_iload_n eX4_by_27 rfl rfl ?_
    refine r_aload_n eX4_by_28 rfl rfl ?_
    refine r_getf (v := .ref 2) eX4_by_29 fX4_13 rfl rfl ?_
    refine n_iconst 0 eX4_by_32 rfl ?_
    refine n_iald (f := mg_s t) (j := 0) eX4_by_33 rfl rfl (by first | omega | (have := hou pp; omega)) (by decide) ?_
    refine n_icmp_ge eX4_by_34 (by first | omega | (have := hou pp; omega)) (by first | omega | (have := hou pp; omega)) (fun hc34 => absurd hc34 (by omega)) (fun hc34 => ?_)
    refine r_iload_n eX4_by_37 rfl rfl ?_
    refine n_ldc 1000000 eX4_by_38 kX4_129 rfl ?_
    refine n_icmp_ge eX4_by_40 (by first | omega | (have := hou pp; omega)) (by first | omega | (have := hou pp; omega)) (fun hc40 => ?_) (fun hc40 => ?_)
    · refine n_iinc (k := 1) eX4_by_71 rfl (by decide) rfl ?_
      refine r_goto eX4_by_74 ?_
      refine ih (pp + 1) (by omega) (fun i hi => ?_)
      by_cases e : i = pp
      · subst e
        unfold tBy
        exact decide_eq_false (by rintro ⟨g1, g2, g3, g4⟩; omega)
      · exact hno i (by omega)
    · refine r_iload_n eX4_by_43 rfl rfl ?_
      refine r_iload_n eX4_by_44 rfl rfl ?_
      refine n_icmp_eq eX4_by_45 (by first | omega | (have := hou pp; omega)) (by first | omega | (have := hou pp; omega)) (fun hc45 => ?_) (fun hc45 => ?_)
      · refine n_iinc (k := 1) eX4_by_71 rfl (by decide) rfl ?_
        refine r_goto eX4_by_74 ?_
        refine ih (pp + 1) (by omega) (fun i hi => ?_)
        by_cases e : i = pp
        · subst e
          unfold tBy
          exact decide_eq_false (by rintro ⟨g1, g2, g3, g4⟩; omega)
        · exact hno i (by omega)
      · refine r_aload_n eX4_by_48 rfl rfl ?_
        refine r_getf (v := .ref 7) eX4_by_49 fX4_28 rfl rfl ?_
        refine r_iload_n eX4_by_52 rfl rfl ?_
        refine n_iald (f := mg_ou t) (j := pp) eX4_by_53 rfl rfl (by first | omega | (have := hou pp; omega)) (by decide) ?_
        refine n_ldc 1000000 eX4_by_54 kX4_129 rfl ?_
        refine n_icmp_ge eX4_by_56 (by first | omega | (have := hou pp; omega)) (by first | omega | (have := hou pp; omega)) (fun hc56 => ?_) (fun hc56 => ?_)
        · refine n_iinc (k := 1) eX4_by_71 rfl (by decide) rfl ?_
          refine r_goto eX4_by_74 ?_
          refine ih (pp + 1) (by omega) (fun i hi => ?_)
          by_cases e : i = pp
          · subst e
            unfold tBy
            exact decide_eq_false (by rintro ⟨g1, g2, g3, g4⟩; omega)
          · exact hno i (by omega)
        · refine r_aload_n eX4_by_59 rfl rfl ?_
          refine r_iload_n eX4_by_60 rfl rfl ?_
          refine r_iload_n eX4_by_61 rfl rfl ?_
          refine r_callVi2 eX4_by_62 lX4_155 (Or.inl ⟨_, _, _, rfl, rfl, rfl⟩) (s4_opensAt (t := t) (u := u) hm hdn hv) (by omega) (Nat.le_of_ble_eq_true rfl) (fun r1 h1 hq => ?_)
          obtain ⟨rfl, rfl⟩ := (show r1 = nI (tOpens (sTw (mg_s t)) (mg_ou t pp) pp v) ∧ h1 = hA t u from hq)
          refine r_iload_n eX4_by_65 rfl rfl ?_
          refine n_icmp_ne eX4_by_66 (by first | omega | (have := hou pp; omega)) (by first | omega | (have := hou pp; omega)) (fun hc66 => ?_) (fun hc66 => ?_)
          · refine n_iinc (k := 1) eX4_by_71 rfl (by decide) rfl ?_
            refine r_goto eX4_by_74 ?_
            refine ih (pp + 1) (by omega) (fun i hi => ?_)
            by_cases e : i = pp
            · subst e
              unfold tBy
              exact decide_eq_false (by rintro ⟨g1, g2, g3, g4⟩; omega)
            · exact hno i (by omega)
          · refine r_iload_n eX4_by_69 rfl rfl ?_
            refine z_iret eX4_by_70 rfl rfl ⟨_, rfl, ?_, rfl⟩
            rw [zfind_some hno (decide_eq_true ⟨by omega, by omega, by omega, hc66⟩) hdn]
            rfl
set_option maxHeartbeats 1000000 in
set_option maxRecDepth 100000 in
theorem s4_by_n {t : zMod} {u : zCls} (hm : mOk t) {v : Int32} (hv : v < 0 ∨ nI (mg_s t 0) ≤ v) : Mi mX4_by 8 [.ref 0, .int (v)] (hA t u) (fun r h' => r = (-1) ∧ h' = hA ((va_up (mg_re t) 1 (mg_re t 1 + 1)), mg_s t, mg_im t, mg_rd t, mg_ii t, mg_tp t, mg_tl t, mg_ta t, mg_at t, mg_ou t, mg_op t, mg_br t, mg_nw t, mg_fs t, mg_bc t, mg_kr t, mg_rw t, mg_rc t) u) := by
  refine Mi.of (by decide) rfl (Nat.le_of_ble_eq_true rfl) ?_
  refine r_aload_n eX4_by_0 rfl rfl ?_
  refine r_iload_n eX4_by_1 rfl rfl ?_
  refine r_callVi1 eX4_by_2 lX4_94 (Or.inl ⟨_, _, _, rfl, rfl, rfl⟩) (s4_isPerson_n (t := t) (u := u) hv) (by omega) (Nat.le_of_ble_eq_true rfl) (fun r1 h1 hq => ?_)
  obtain ⟨rfl, rfl⟩ := (show r1 = nI (0) ∧ h1 = hA t u from hq)
  refine n_if_ne eX4_by_5 (by first | omega | exact zlt (hs _) | exact hou _ | exact hop _) (fun hc5 => absurd hc5 (by decide)) (fun hc5 => ?_)
  refine r_aload_n eX4_by_8 rfl rfl ?_
  refine r_iconst (v := (-1)) eX4_by_9 rfl ?_
  refine r_callVi1 eX4_by_10 lX4_52 (Or.inl ⟨_, _, _, rfl, rfl, rfl⟩) (s4_refuse (t := t) (u := u) (x := (-1)) (c := 1) (by decide) (by decide)) (by omega) (Nat.le_of_ble_eq_true rfl) (fun r1 h1 hq => ?_)
  obtain ⟨rfl, rfl⟩ := (show r1 = (-1) ∧ h1 = hA ((va_up (mg_re t) 1 ((mg_re t) 1 + 1)), mg_s t, mg_im t, mg_rd t, mg_ii t, mg_tp t, mg_tl t, mg_ta t, mg_at t, mg_ou t, mg_op t, mg_br t, mg_nw t, mg_fs t, mg_bc t, mg_kr t, mg_rw t, mg_rc t) u from hq)
  exact z_iret eX4_by_13 rfl rfl ⟨_, rfl, rfl, rfl⟩
set_option maxHeartbeats 1000000 in
set_option maxRecDepth 100000 in
theorem s4_by_y {t : zMod} {u : zCls} (hm : mOk t) {v : Nat} (hv : v < mg_s t 0) (hto : tOk (sTw (mg_s t))) : Mi mX4_by 8 [.ref 0, .int (nI (v))] (hA t u) (fun r h' => ∃ (O' P' : Nat → Nat), h' = hA (mg_re t, mg_s t, mg_im t, mg_rd t, mg_ii t, mg_tp t, mg_tl t, mg_ta t, mg_at t, O', P', mg_br t, mg_nw t, mg_fs t, mg_bc t, mg_kr t, mg_rw t, mg_rc t) u ∧ r = zor (zfind (tBy (sTw (mg_s t)) (tO (sTw (mg_s t)) (mg_nw t) (mg_br t)) (tP (sTw (mg_s t)) (mg_nw t) (mg_br t) v) v) (mg_s t 0)) ∧ (∀ i, O' i ≤ 1000000) ∧ ∀ i, P' i ≤ 1000000) := by
  obtain ⟨⟨hs, h0, h1⟩, hbr, hnw, hou, hop⟩ := id hm
  refine Mi.of (by decide) rfl (Nat.le_of_ble_eq_true rfl) ?_
  refine r_aload_n eX4_by_0 rfl rfl ?_
  refine r_iload_n eX4_by_1 rfl rfl ?_
  refine r_callVi1 eX4_by_2 lX4_94 (Or.inl ⟨_, _, _, rfl, rfl, rfl⟩) (s4_isPerson_y (t := t) (u := u) h0 hv) (by omega) (Nat.le_of_ble_eq_true rfl) (fun r1 h1 hq => ?_)
  obtain ⟨rfl, rfl⟩ := (show r1 = nI (1) ∧ h1 = hA t u from hq)
  refine n_if_ne eX4_by_5 (by first | omega | exact zlt (hs _) | exact hou _ | exact hop _) (fun hc5 => ?_) (fun hc5 => absurd hc5 (by decide))
  refine r_aload_n eX4_by_14 rfl rfl ?_
  refine r_callVv0 eX4_by_15 lX4_146 (Or.inl ⟨_, _, _, rfl, rfl, rfl⟩) (s4_findsM (t := t) (u := u) hm) (by omega) (Nat.le_of_ble_eq_true rfl) (fun h1 hq => ?_)
  obtain ⟨O15, P15, hh, hO15, hou15, hP15, hop15⟩ := hq
  obtain rfl := (show h1 = hA (mg_re t, mg_s t, mg_im t, mg_rd t, mg_ii t, mg_tp t, mg_tl t, mg_ta t, mg_at t, O15, P15, mg_br t, mg_nw t, mg_fs t, mg_bc t, mg_kr t, mg_rw t, mg_rc t) u from hh)
  refine r_aload_n eX4_by_18 rfl rfl ?_
  refine r_getf (v := .ref 8) eX4_by_19 fX4_31 rfl rfl ?_
  refine r_iload_n eX4_by_22 rfl rfl ?_
  refine n_iald (f := P15) (j := v) eX4_by_23 rfl rfl (by first | omega | exact zlt (hs _) | exact hou _ | exact hop _) (by decide) ?_
  refine r_istore_n eX4_by_24 rfl (by decide) ?_
  refine n_iconst 0 eX4_by_25 rfl ?_
  refine r_istore_n eX4_by_26 rfl (by decide) ?_
  refine Rq.mono (s4_by_l (t := (mg_re t, mg_s t, mg_im t, mg_rd t, mg_ii t, mg_tp t, mg_tl t, mg_ta t, mg_at t, O15, P15, mg_br t, mg_nw t, mg_fs t, mg_bc t, mg_kr t, mg_rw t, mg_rc t)) ⟨⟨hs, h0, h1⟩, hbr, hnw, hou15, hop15⟩ hv (hop15 v) hto (mg_s t 0) 0 (Nat.zero_add _) (fun i hi => absurd hi (by omega))) (fun r h' hq => ?_)
  obtain ⟨x, rfl, rfl, rfl⟩ := hq
  refine ⟨_, rfl, O15, P15, rfl, congrArg zor (zfind_cong fun i hi => ?_), hou15, hop15⟩
  show tBy _ O15 (P15 v) v i = _
  unfold tBy
  rw [hP15 v hv, hO15 i hi]
  rfl
set_option maxHeartbeats 1000000 in
set_option maxRecDepth 100000 in
theorem s4_fire_n {t : zMod} {u : zCls} (hm : mOk t) {v mi : Int32} (hv : v < 0 ∨ nI (mg_s t 0) ≤ v) : Mi mX4_fire 8 [.ref 0, .int (v), .int (mi)] (hA t u) (fun r h' => r = (-1) ∧ h' = hA ((va_up (mg_re t) 1 (mg_re t 1 + 1)), mg_s t, mg_im t, mg_rd t, mg_ii t, mg_tp t, mg_tl t, mg_ta t, mg_at t, mg_ou t, mg_op t, mg_br t, mg_nw t, mg_fs t, mg_bc t, mg_kr t, mg_rw t, mg_rc t) u) := by
  refine Mi.of (by decide) rfl (Nat.le_of_ble_eq_true rfl) ?_
  refine r_aload_n eX4_fire_0 rfl rfl ?_
  refine r_iload_n eX4_fire_1 rfl rfl ?_
  refine r_callVi1 eX4_fire_2 lX4_94 (Or.inl ⟨_, _, _, rfl, rfl, rfl⟩) (s4_isPerson_n (t := t) (u := u) hv) (by omega) (Nat.le_of_ble_eq_true rfl) (fun r1 h1 hq => ?_)
  obtain ⟨rfl, rfl⟩ := (show r1 = nI (0) ∧ h1 = hA t u from hq)
  refine n_if_ne eX4_fire_5 (by first | omega | exact zlt (hs _) | exact hou _ | exact hop _) (fun hc5 => absurd hc5 (by decide)) (fun hc5 => ?_)
  refine r_iconst (v := (-1)) eX4_fire_8 rfl ?_
  refine r_goto eX4_fire_9 ?_
  refine r_istore_n eX4_fire_22 rfl (by decide) ?_
  refine r_iload_n eX4_fire_23 rfl rfl ?_
  refine r_if_eq eX4_fire_24 (fun hc24 => absurd hc24 (by decide)) (fun hc24 => ?_)
  refine r_aload_n eX4_fire_27 rfl rfl ?_
  refine r_iload_n eX4_fire_28 rfl rfl ?_
  refine r_callVi1 eX4_fire_29 lX4_52 (Or.inl ⟨_, _, _, rfl, rfl, rfl⟩) (s4_refuse (t := t) (u := u) (x := (-1)) (c := 1) (by decide) (by decide)) (by omega) (Nat.le_of_ble_eq_true rfl) (fun r1 h1 hq => ?_)
  obtain ⟨rfl, rfl⟩ := (show r1 = (-1) ∧ h1 = hA ((va_up (mg_re t) 1 ((mg_re t) 1 + 1)), mg_s t, mg_im t, mg_rd t, mg_ii t, mg_tp t, mg_tl t, mg_ta t, mg_at t, mg_ou t, mg_op t, mg_br t, mg_nw t, mg_fs t, mg_bc t, mg_kr t, mg_rw t, mg_rc t) u from hq)
  exact z_iret eX4_fire_32 rfl rfl ⟨_, rfl, rfl, rfl⟩
set_option maxHeartbeats 1000000 in
set_option maxRecDepth 100000 in
theorem s4_fire_b {t : zMod} {u : zCls} (hm : mOk t) {v : Nat} {mi : Int32} (hv : v < mg_s t 0) (hmi : mi < 0) : Mi mX4_fire 8 [.ref 0, .int (nI (v)), .int (mi)] (hA t u) (fun r h' => r = (-4) ∧ h' = hA ((va_up (mg_re t) 4 (mg_re t 4 + 1)), mg_s t, mg_im t, mg_rd t, mg_ii t, mg_tp t, mg_tl t, mg_ta t, mg_at t, mg_ou t, mg_op t, mg_br t, mg_nw t, mg_fs t, mg_bc t, mg_kr t, mg_rw t, mg_rc t) u) := by
  obtain ⟨⟨hs, h0, h1⟩, hbr, hnw, hou, hop⟩ := id hm
  refine Mi.of (by decide) rfl (Nat.le_of_ble_eq_true rfl) ?_
  refine r_aload_n eX4_fire_0 rfl rfl ?_
  refine r_iload_n eX4_fire_1 rfl rfl ?_
  refine r_callVi1 eX4_fire_2 lX4_94 (Or.inl ⟨_, _, _, rfl, rfl, rfl⟩) (s4_isPerson_y (t := t) (u := u) h0 hv) (by omega) (Nat.le_of_ble_eq_true rfl) (fun r1 h1 hq => ?_)
  obtain ⟨rfl, rfl⟩ := (show r1 = nI (1) ∧ h1 = hA t u from hq)
  refine n_if_ne eX4_fire_5 (by first | omega | exact zlt (hs _) | exact hou _ | exact hop _) (fun hc5 => ?_) (fun hc5 => absurd hc5 (by decide))
  refine r_iload_n eX4_fire_12 rfl rfl ?_
  refine r_if_ge eX4_fire_13 (fun hc13 => absurd hc13 (fun z => Int32.not_le.mpr hmi z)) (fun hc13 => ?_)
  refine r_bipush (v := (-4)) eX4_fire_16 rfl ?_
  refine r_goto eX4_fire_18 ?_
  refine r_istore_n eX4_fire_22 rfl (by decide) ?_
  refine r_iload_n eX4_fire_23 rfl rfl ?_
  refine r_if_eq eX4_fire_24 (fun hc24 => absurd hc24 (by decide)) (fun hc24 => ?_)
  refine r_aload_n eX4_fire_27 rfl rfl ?_
  refine r_iload_n eX4_fire_28 rfl rfl ?_
  refine r_callVi1 eX4_fire_29 lX4_52 (Or.inl ⟨_, _, _, rfl, rfl, rfl⟩) (s4_refuse (t := t) (u := u) (x := (-4)) (c := 4) (by decide) (by decide)) (by omega) (Nat.le_of_ble_eq_true rfl) (fun r1 h1 hq => ?_)
  obtain ⟨rfl, rfl⟩ := (show r1 = (-4) ∧ h1 = hA ((va_up (mg_re t) 4 ((mg_re t) 4 + 1)), mg_s t, mg_im t, mg_rd t, mg_ii t, mg_tp t, mg_tl t, mg_ta t, mg_at t, mg_ou t, mg_op t, mg_br t, mg_nw t, mg_fs t, mg_bc t, mg_kr t, mg_rw t, mg_rc t) u from hq)
  exact z_iret eX4_fire_32 rfl rfl ⟨_, rfl, rfl, rfl⟩
/-- a fire's answer -/
def zfire (NV v : Nat) (mi : Int32) : Int32 := if v = NV then -9 else if mi < nI v then nI v - mi else 0
set_option maxHeartbeats 1000000 in
set_option maxRecDepth 100000 in
theorem s4_fire_y {t : zMod} {u : zCls} (hm : mOk t) {v : Nat} {mi : Int32} (hv : v < mg_s t 0) (hmi : 0 ≤ mi) : Mi mX4_fire 8 [.ref 0, .int (nI (v)), .int (mi)] (hA t u) (fun r h' => ∃ (O' P' : Nat → Nat), h' = hA (mg_re t, mg_s t, mg_im t, mg_rd t, mg_ii t, mg_tp t, mg_tl t, mg_ta t, mg_at t, O', P', mg_br t, mg_nw t, mg_fs t, mg_bc t, mg_kr t, mg_rw t, mg_rc t) u ∧ r = zfire 1000000 (sO (mg_s t) (mg_nw t) (mg_br t) v) mi ∧ (∀ i, O' i ≤ 1000000) ∧ ∀ i, P' i ≤ 1000000) := by
  obtain ⟨⟨hs, h0, h1⟩, hbr, hnw, hou, hop⟩ := id hm
  refine Mi.of (by decide) rfl (Nat.le_of_ble_eq_true rfl) ?_
  refine r_aload_n eX4_fire_0 rfl rfl ?_
  refine r_iload_n eX4_fire_1 rfl rfl ?_
  refine r_callVi1 eX4_fire_2 lX4_94 (Or.inl ⟨_, _, _, rfl, rfl, rfl⟩) (s4_isPerson_y (t := t) (u := u) h0 hv) (by omega) (Nat.le_of_ble_eq_true rfl) (fun r1 h1 hq => ?_)
  obtain ⟨rfl, rfl⟩ := (show r1 = nI (1) ∧ h1 = hA t u from hq)
  refine n_if_ne eX4_fire_5 (by first | omega | (have := hou34 v; omega)) (fun hc5 => ?_) (fun hc5 => absurd hc5 (by decide))
  refine r_iload_n eX4_fire_12 rfl rfl ?_
  refine r_if_ge eX4_fire_13 (fun hc13 => ?_) (fun hc13 => absurd hc13 (fun z => z hmi))
  refine n_iconst 0 eX4_fire_21 rfl ?_
  refine r_istore_n eX4_fire_22 rfl (by decide) ?_
  refine r_iload_n eX4_fire_23 rfl rfl ?_
  refine n_if_eq eX4_fire_24 (by first | omega | (have := hou34 v; omega)) (fun hc24 => ?_) (fun hc24 => absurd hc24 (by decide))
  refine r_aload_n eX4_fire_33 rfl rfl ?_
  refine r_callVv0 eX4_fire_34 lX4_146 (Or.inl ⟨_, _, _, rfl, rfl, rfl⟩) (s4_findsM (t := t) (u := u) hm) (by omega) (Nat.le_of_ble_eq_true rfl) (fun h1 hq => ?_)
  obtain ⟨O34, P34, hh, hO34, hou34, hP34, hop34⟩ := hq
  obtain rfl := (show h1 = hA (mg_re t, mg_s t, mg_im t, mg_rd t, mg_ii t, mg_tp t, mg_tl t, mg_ta t, mg_at t, O34, P34, mg_br t, mg_nw t, mg_fs t, mg_bc t, mg_kr t, mg_rw t, mg_rc t) u from hh)
  refine r_aload_n eX4_fire_37 rfl rfl ?_
  refine r_getf (v := .ref 7) eX4_fire_38 fX4_28 rfl rfl ?_
  refine r_iload_n eX4_fire_41 rfl rfl ?_
  refine n_iald (f := O34) (j := v) eX4_fire_42 rfl rfl (by first | omega | (have := hou34 v; omega)) (by decide) ?_
  refine n_ldc 1000000 eX4_fire_43 kX4_129 rfl ?_
  refine n_icmp_ne eX4_fire_45 (by first | omega | (have := hou34 v; omega)) (by first | omega | (have := hou34 v; omega)) (fun hc45 => ?_) (fun hc45 => ?_)
  · refine r_aload_n eX4_fire_53 rfl rfl ?_
    refine r_getf (v := .ref 7) eX4_fire_54 fX4_28 rfl rfl ?_
    refine r_iload_n eX4_fire_57 rfl rfl ?_
    refine n_iald (f := O34) (j := v) eX4_fire_58 rfl rfl (by first | omega | (have := hou34 v; omega)) (by decide) ?_
    refine r_iload_n eX4_fire_59 rfl rfl ?_
    refine r_icmp_le eX4_fire_60 (fun hc60 => ?_) (fun hc60 => ?_)
    · refine n_iconst 0 eX4_fire_74 rfl ?_
      refine z_iret eX4_fire_75 rfl rfl ⟨_, rfl, O34, P34, rfl, ?_, hou34, hop34⟩
      rw [← hO34 v hv, zfire, if_neg hc45, if_neg (Int32.not_lt.mpr hc60)]
      rfl
    · refine r_aload_n eX4_fire_63 rfl rfl ?_
      refine r_getf (v := .ref 7) eX4_fire_64 fX4_28 rfl rfl ?_
      refine r_iload_n eX4_fire_67 rfl rfl ?_
      refine n_iald (f := O34) (j := v) eX4_fire_68 rfl rfl (by first | omega | (have := hou34 v; omega)) (by decide) ?_
      refine r_iload_n eX4_fire_69 rfl rfl ?_
      refine r_isub eX4_fire_70 ?_
      refine r_goto eX4_fire_71 ?_
      refine z_iret eX4_fire_75 rfl rfl ⟨_, rfl, O34, P34, rfl, ?_, hou34, hop34⟩
      rw [← hO34 v hv, zfire, if_neg hc45, if_pos (Int32.not_le.mp hc60)]
  · refine r_bipush (v := (-9)) eX4_fire_48 rfl ?_
    refine r_goto eX4_fire_50 ?_
    refine z_iret eX4_fire_75 rfl rfl ⟨_, rfl, O34, P34, rfl, ?_, hou34, hop34⟩
    rw [← hO34 v hv, zfire, if_pos hc45]
