/-! PURE WORDS, for both sides -/
theorem zlt {a : Nat} (h : a ≤ 1000) : a < 2 ^ 31 := by omega
def zup (k w : Nat) : Nat := if k = 2 then 2 * w else if k = 4 then 0 else w
def zneed (k tk : Nat) : Nat := if k = 1 ∨ k = 4 ∨ k = 5 then tk / 2 else tk
def zfar (a b : Nat) : Nat := if b < a then a - b else b - a
def zway (r n a b : Nat) : Nat := if r = 1 ∧ n - zfar a b < zfar a b then n - zfar a b else zfar a b
/-- does one of the first m keys open d, in p's hand -/
def zhold (D H : Nat → Nat) : Nat → Nat → Nat → Bool
  | 0, _, _ => false
  | m + 1, p, d => zhold D H m p d || (H m == p && D m == d)
theorem zhold_no {D H : Nat → Nat} {m p d : Nat} (h : ∀ k, k < m → ¬ (H k = p ∧ D k = d)) : zhold D H m p d = false := by
  induction m with
  | zero => rfl
  | succ m ih =>
    rw [zhold, ih (fun k hk => h k (by omega))]
    have := h m (by omega)
    simp only [Bool.false_or, Bool.and_eq_false_iff, beq_eq_false_iff_ne, ne_eq]
    by_cases e : H m = p
    · exact Or.inr fun q => this ⟨e, q⟩
    · exact Or.inl e
theorem zhold_yes {D H : Nat → Nat} {m p d k : Nat} (hk : k < m) (h1 : H k = p) (h2 : D k = d) : zhold D H m p d = true := by
  induction m with
  | zero => omega
  | succ m ih =>
    rw [zhold]
    by_cases e : k = m
    · subst e
      simp [h1, h2]
    · rw [ih (by omega)]
      rfl
theorem zhold_ex {D H : Nat → Nat} {m p d : Nat} (h : zhold D H m p d = true) : ∃ k, k < m ∧ H k = p ∧ D k = d := by
  induction m with
  | zero => cases h
  | succ m ih =>
    rw [zhold, Bool.or_eq_true] at h
    rcases h with h | h
    · obtain ⟨k, h1, h2⟩ := ih h
      exact ⟨k, by omega, h2⟩
    · simp only [Bool.and_eq_true, beq_iff_eq] at h
      exact ⟨m, by omega, h⟩
theorem zt0 {b : Bool} (h : b.toNat = 0) : b = false := by cases b <;> simp_all
theorem zt1 {b : Bool} (h : 0 < b.toNat) : b = true := by cases b <;> simp_all
theorem zbit {g p : Nat} : g / 2 ^ p &&& 1 = (g.testBit p).toNat := by
  rw [Nat.and_one_is_mod, Nat.testBit_eq_decide_div_mod_eq]
  by_cases h : g / 2 ^ p % 2 = 1
  · simp [h]
  · have : g / 2 ^ p % 2 = 0 := by omega
    simp [this]
/-- how many bits -/
def zcnt : Nat → Nat → Nat
  | 0, _ => 0
  | k + 1, v => v % 2 + zcnt k (v / 2)
theorem zcnt_0 : ∀ k, zcnt k 0 = 0
  | 0 => rfl
  | k + 1 => by simp [zcnt, zcnt_0 k]

/-! THE REFERENCE: small methods -/
set_option maxHeartbeats 1000000 in
set_option maxRecDepth 100000 in
theorem s4_isIn_y {h : List zC} {v n : Nat} (hv : v < n) (hn : n < 2 ^ 31) : Mi mX4_isIn 1 [.int (nI (v)), .int (nI (n))] h (fun r h' => r = nI 1 ∧ h' = h) := by
  refine Mi.of (by decide) rfl (Nat.le_of_ble_eq_true rfl) ?_
  refine r_iload_n eX4_isIn_0 rfl rfl ?_
  refine n_if_lt eX4_isIn_1 (by first | omega | exact zlt (hs _) | exact hou _ | exact hop _) ?_
  refine r_iload_n eX4_isIn_4 rfl rfl ?_
  refine r_iload_n eX4_isIn_5 rfl rfl ?_
  refine n_icmp_ge eX4_isIn_6 (by first | omega | exact zlt (hs _) | exact hou _ | exact hop _) (by first | omega | exact zlt (hs _) | exact hou _ | exact hop _) (fun hc6 => absurd hc6 (by omega)) (fun hc6 => ?_)
  refine n_iconst 1 eX4_isIn_9 rfl ?_
  refine r_goto eX4_isIn_10 ?_
  exact z_iret eX4_isIn_14 rfl (by decide) ⟨_, rfl, rfl, rfl⟩
set_option maxHeartbeats 1000000 in
set_option maxRecDepth 100000 in
theorem s4_isIn_n {h : List zC} {v : Int32} {n : Nat} (hv : v < 0 ∨ nI n ≤ v) : Mi mX4_isIn 1 [.int (v), .int (nI (n))] h (fun r h' => r = nI 0 ∧ h' = h) := by
  refine Mi.of (by decide) rfl (Nat.le_of_ble_eq_true rfl) ?_
  refine r_iload_n eX4_isIn_0 rfl rfl ?_
  refine r_if_lt eX4_isIn_1 (fun hc1 => ?_) (fun hc1 => ?_)
  · refine n_iconst 0 eX4_isIn_13 rfl ?_
    exact z_iret eX4_isIn_14 rfl (by decide) ⟨_, rfl, rfl, rfl⟩
  · refine r_iload_n eX4_isIn_4 rfl rfl ?_
    refine r_iload_n eX4_isIn_5 rfl rfl ?_
    refine r_icmp_ge eX4_isIn_6 (fun hc6 => ?_) (fun hc6 => absurd hc6 (fun z => z (hv.resolve_left hc1)))
    refine n_iconst 0 eX4_isIn_13 rfl ?_
    exact z_iret eX4_isIn_14 rfl (by decide) ⟨_, rfl, rfl, rfl⟩
set_option maxHeartbeats 1000000 in
set_option maxRecDepth 100000 in
theorem s4_within_b {h : List zC} {v l m : Int32} (h1 : v < l) : Mi mX4_within 1 [.int (v), .int (l), .int (m)] h (fun r h' => r = (-4) ∧ h' = h) := by
  refine Mi.of (by decide) rfl (Nat.le_of_ble_eq_true rfl) ?_
  refine r_iload_n eX4_within_0 rfl rfl ?_
  refine r_iload_n eX4_within_1 rfl rfl ?_
  refine r_icmp_ge eX4_within_2 (fun hc2 => absurd hc2 (Int32.not_le.mpr h1)) (fun hc2 => ?_)
  refine r_bipush (v := (-4)) eX4_within_5 rfl ?_
  refine r_goto eX4_within_7 ?_
  exact z_iret eX4_within_21 rfl rfl ⟨_, rfl, rfl, rfl⟩
set_option maxHeartbeats 1000000 in
set_option maxRecDepth 100000 in
theorem s4_within_r {h : List zC} {v l m : Int32} (h1 : l ≤ v) (h2 : m < v) : Mi mX4_within 1 [.int (v), .int (l), .int (m)] h (fun r h' => r = (-6) ∧ h' = h) := by
  refine Mi.of (by decide) rfl (Nat.le_of_ble_eq_true rfl) ?_
  refine r_iload_n eX4_within_0 rfl rfl ?_
  refine r_iload_n eX4_within_1 rfl rfl ?_
  refine r_icmp_ge eX4_within_2 (fun hc2 => ?_) (fun hc2 => absurd hc2 (fun z => z h1))
  refine r_iload_n eX4_within_10 rfl rfl ?_
  refine r_iload_n eX4_within_11 rfl rfl ?_
  refine r_icmp_le eX4_within_12 (fun hc12 => absurd hc12 (Int32.not_le.mpr h2)) (fun hc12 => ?_)
  refine r_bipush (v := (-6)) eX4_within_15 rfl ?_
  refine r_goto eX4_within_17 ?_
  exact z_iret eX4_within_21 rfl rfl ⟨_, rfl, rfl, rfl⟩
set_option maxHeartbeats 1000000 in
set_option maxRecDepth 100000 in
theorem s4_within_k {h : List zC} {v l m : Int32} (h1 : l ≤ v) (h2 : v ≤ m) : Mi mX4_within 1 [.int (v), .int (l), .int (m)] h (fun r h' => r = nI 0 ∧ h' = h) := by
  refine Mi.of (by decide) rfl (Nat.le_of_ble_eq_true rfl) ?_
  refine r_iload_n eX4_within_0 rfl rfl ?_
  refine r_iload_n eX4_within_1 rfl rfl ?_
  refine r_icmp_ge eX4_within_2 (fun hc2 => ?_) (fun hc2 => absurd hc2 (fun z => z h1))
  refine r_iload_n eX4_within_10 rfl rfl ?_
  refine r_iload_n eX4_within_11 rfl rfl ?_
  refine r_icmp_le eX4_within_12 (fun hc12 => ?_) (fun hc12 => absurd hc12 (fun z => z h2))
  refine n_iconst 0 eX4_within_20 rfl ?_
  exact z_iret eX4_within_21 rfl rfl ⟨_, rfl, rfl, rfl⟩
set_option maxHeartbeats 1000000 in
set_option maxRecDepth 100000 in
theorem s4_refuse {t : zMod} {u : zCls} {x : Int32} {c : Nat} (hx : -x = nI c) (hc : c < 7) : Mi mX4_refuse 1 [.ref 0, .int (x)] (hA t u) (fun r h' => r = x ∧ h' = hA (va_up (mg_re t) c (mg_re t c + 1), mg_s t, mg_im t, mg_rd t, mg_ii t, mg_tp t, mg_tl t, mg_ta t, mg_at t, mg_ou t, mg_op t, mg_br t, mg_nw t, mg_fs t, mg_bc t, mg_kr t, mg_rw t, mg_rc t) u) := by
  refine Mi.of (by decide) rfl (Nat.le_of_ble_eq_true rfl) ?_
  refine r_aload_n eX4_refuse_0 rfl rfl ?_
  refine r_getf (v := .ref 1) eX4_refuse_1 fX4_7 rfl rfl ?_
  refine r_iload_n eX4_refuse_4 rfl rfl ?_
  refine r_ineg eX4_refuse_5 ?_
  refine r_dup2 eX4_refuse_6 rfl rfl ?_
  refine n_iald (f := mg_re t) (j := c) eX4_refuse_7 rfl hx (by first | omega | exact zlt (hs _) | exact hou _ | exact hop _) (by decide) ?_
  refine n_iconst 1 eX4_refuse_8 rfl ?_
  refine n_add eX4_refuse_9 ?_
  refine z_h (h' := hA (mg_re t, mg_s t, mg_im t, mg_rd t, mg_ii t, mg_tp t, mg_tl t, mg_ta t, mg_at t, mg_ou t, mg_op t, mg_br t, mg_nw t, mg_fs t, mg_bc t, mg_kr t, mg_rw t, mg_rc t) u) rfl ?_
  refine mw_re (j := c) (v := ((mg_re t) (c)) + 1) eX4_refuse_10 hx rfl (by first | omega | exact zlt (hs _) | exact hou _ | exact hop _) ?_
  refine r_iload_n eX4_refuse_11 rfl rfl ?_
  exact z_iret eX4_refuse_12 rfl rfl ⟨_, rfl, rfl, rfl⟩
set_option maxHeartbeats 1000000 in
set_option maxRecDepth 100000 in
theorem s4_get {t : zMod} {u : zCls} {p k : Nat} (hk : 5 + 5 * p + k < 64) : Mi mX4_get 1 [.ref 0, .int (nI (p)), .int (nI (k))] (hA t u) (fun r h' => r = nI (mg_s t (5 + 5 * p + k)) ∧ h' = hA t u) := by
  refine Mi.of (by decide) rfl (Nat.le_of_ble_eq_true rfl) ?_
  refine r_aload_n eX4_get_0 rfl rfl ?_
  refine r_getf (v := .ref 2) eX4_get_1 fX4_13 rfl rfl ?_
  refine n_iconst 5 eX4_get_4 rfl ?_
  refine n_iconst 5 eX4_get_5 rfl ?_
  refine r_iload_n eX4_get_6 rfl rfl ?_
  refine n_mul eX4_get_7 ?_
  refine n_add eX4_get_8 ?_
  refine r_iload_n eX4_get_9 rfl rfl ?_
  refine n_add eX4_get_10 ?_
  refine n_iald (f := mg_s t) (j := (5 + (5 * p)) + k) eX4_get_11 rfl rfl (by first | omega | exact zlt (hs _) | exact hou _ | exact hop _) (by decide) ?_
  exact z_iret eX4_get_12 rfl rfl ⟨_, rfl, rfl, rfl⟩
set_option maxHeartbeats 1000000 in
set_option maxRecDepth 100000 in
theorem s4_door {t : zMod} {u : zCls} {k : Nat} (hk : k < 12) : Mi mX4_door 1 [.ref 0, .int (nI (k))] (hA t u) (fun r h' => r = nI (mg_s t (40 + 2 * k)) ∧ h' = hA t u) := by
  refine Mi.of (by decide) rfl (Nat.le_of_ble_eq_true rfl) ?_
  refine r_aload_n eX4_door_0 rfl rfl ?_
  refine r_getf (v := .ref 2) eX4_door_1 fX4_13 rfl rfl ?_
  refine n_bipush 40 eX4_door_4 rfl ?_
  refine n_iconst 2 eX4_door_6 rfl ?_
  refine r_iload_n eX4_door_7 rfl rfl ?_
  refine n_mul eX4_door_8 ?_
  refine n_add eX4_door_9 ?_
  refine n_iald (f := mg_s t) (j := 40 + (2 * k)) eX4_door_10 rfl rfl (by first | omega | exact zlt (hs _) | exact hou _ | exact hop _) (by decide) ?_
  exact z_iret eX4_door_11 rfl rfl ⟨_, rfl, rfl, rfl⟩
set_option maxHeartbeats 1000000 in
set_option maxRecDepth 100000 in
theorem s4_held {t : zMod} {u : zCls} {k : Nat} (hk : k < 12) : Mi mX4_held 1 [.ref 0, .int (nI (k))] (hA t u) (fun r h' => r = nI (mg_s t (40 + 2 * k + 1)) ∧ h' = hA t u) := by
  refine Mi.of (by decide) rfl (Nat.le_of_ble_eq_true rfl) ?_
  refine r_aload_n eX4_held_0 rfl rfl ?_
  refine r_getf (v := .ref 2) eX4_held_1 fX4_13 rfl rfl ?_
  refine n_bipush 40 eX4_held_4 rfl ?_
  refine n_iconst 2 eX4_held_6 rfl ?_
  refine r_iload_n eX4_held_7 rfl rfl ?_
  refine n_mul eX4_held_8 ?_
  refine n_add eX4_held_9 ?_
  refine n_iconst 1 eX4_held_10 rfl ?_
  refine n_add eX4_held_11 ?_
  refine n_iald (f := mg_s t) (j := (40 + (2 * k)) + 1) eX4_held_12 rfl rfl (by first | omega | exact zlt (hs _) | exact hou _ | exact hop _) (by decide) ?_
  exact z_iret eX4_held_13 rfl rfl ⟨_, rfl, rfl, rfl⟩
set_option maxHeartbeats 1000000 in
set_option maxRecDepth 100000 in
theorem s4_everybody {t : zMod} {u : zCls} (h0 : mg_s t 0 ≤ 7) : Mi mX4_everybody 1 [.ref 0] (hA t u) (fun r h' => r = nI (2 ^ mg_s t 0 - 1) ∧ h' = hA t u) := by
  refine Mi.of (by decide) rfl (Nat.le_of_ble_eq_true rfl) ?_
  refine n_iconst 1 eX4_everybody_0 rfl ?_
  refine r_aload_n eX4_everybody_1 rfl rfl ?_
  refine r_getf (v := .ref 2) eX4_everybody_2 fX4_13 rfl rfl ?_
  refine n_iconst 0 eX4_everybody_5 rfl ?_
  refine n_iald (f := mg_s t) (j := 0) eX4_everybody_6 rfl rfl (by first | omega | exact zlt (hs _) | exact hou _ | exact hop _) (by decide) ?_
  refine n_shl eX4_everybody_7 (by first | omega | exact zlt (hs _) | exact hou _ | exact hop _) (by have := Nat.pow_le_pow_right (show 0 < 2 by omega) h0; omega) ?_
  refine n_iconst 1 eX4_everybody_8 rfl ?_
  refine n_sub eX4_everybody_9 (by have := Nat.pos_of_ne_zero (fun z => absurd z (Nat.ne_of_gt (Nat.two_pow_pos (mg_s t 0)))); omega) ?_
  exact z_iret eX4_everybody_10 rfl rfl ⟨_, rfl, by rw [Nat.one_mul], rfl⟩
set_option maxHeartbeats 1000000 in
set_option maxRecDepth 100000 in
theorem s4_isPerson_y {t : zMod} {u : zCls} {v : Nat} (h0 : mg_s t 0 ≤ 7) (hv : v < mg_s t 0) : Mi mX4_isPerson 2 [.ref 0, .int (nI (v))] (hA t u) (fun r h' => r = nI 1 ∧ h' = hA t u) := by
  refine Mi.of (by decide) rfl (Nat.le_of_ble_eq_true rfl) ?_
  refine r_iload_n eX4_isPerson_0 rfl rfl ?_
  refine r_aload_n eX4_isPerson_1 rfl rfl ?_
  refine r_getf (v := .ref 2) eX4_isPerson_2 fX4_13 rfl rfl ?_
  refine n_iconst 0 eX4_isPerson_5 rfl ?_
  refine n_iald (f := mg_s t) (j := 0) eX4_isPerson_6 rfl rfl (by first | omega | exact zlt (hs _) | exact hou _ | exact hop _) (by decide) ?_
  refine r_callSi2 eX4_isPerson_7 lX4_40 (s4_isIn_y (by omega) (by omega)) (by omega) (Nat.le_of_ble_eq_true rfl) (fun r1 h1 hq => ?_)
  obtain ⟨rfl, rfl⟩ := hq
  exact z_iret eX4_isPerson_10 rfl (by decide) ⟨_, rfl, rfl, rfl⟩
set_option maxHeartbeats 1000000 in
set_option maxRecDepth 100000 in
theorem s4_isPerson_n {t : zMod} {u : zCls} {v : Int32} (hv : v < 0 ∨ nI (mg_s t 0) ≤ v) : Mi mX4_isPerson 2 [.ref 0, .int (v)] (hA t u) (fun r h' => r = nI 0 ∧ h' = hA t u) := by
  refine Mi.of (by decide) rfl (Nat.le_of_ble_eq_true rfl) ?_
  refine r_iload_n eX4_isPerson_0 rfl rfl ?_
  refine r_aload_n eX4_isPerson_1 rfl rfl ?_
  refine r_getf (v := .ref 2) eX4_isPerson_2 fX4_13 rfl rfl ?_
  refine n_iconst 0 eX4_isPerson_5 rfl ?_
  refine n_iald (f := mg_s t) (j := 0) eX4_isPerson_6 rfl rfl (by first | omega | exact zlt (hs _) | exact hou _ | exact hop _) (by decide) ?_
  refine r_callSi2 eX4_isPerson_7 lX4_40 (s4_isIn_n hv) (by omega) (Nat.le_of_ble_eq_true rfl) (fun r1 h1 hq => ?_)
  obtain ⟨rfl, rfl⟩ := hq
  exact z_iret eX4_isPerson_10 rfl (by decide) ⟨_, rfl, rfl, rfl⟩
set_option maxHeartbeats 1000000 in
set_option maxRecDepth 100000 in
theorem s4_isKey_y {t : zMod} {u : zCls} {v : Nat} (h1 : mg_s t 1 ≤ 12) (hv : v < mg_s t 1) : Mi mX4_isKey 2 [.ref 0, .int (nI (v))] (hA t u) (fun r h' => r = nI 1 ∧ h' = hA t u) := by
  refine Mi.of (by decide) rfl (Nat.le_of_ble_eq_true rfl) ?_
  refine r_iload_n eX4_isKey_0 rfl rfl ?_
  refine r_aload_n eX4_isKey_1 rfl rfl ?_
  refine r_getf (v := .ref 2) eX4_isKey_2 fX4_13 rfl rfl ?_
  refine n_iconst 1 eX4_isKey_5 rfl ?_
  refine n_iald (f := mg_s t) (j := 1) eX4_isKey_6 rfl rfl (by first | omega | exact zlt (hs _) | exact hou _ | exact hop _) (by decide) ?_
  refine r_callSi2 eX4_isKey_7 lX4_40 (s4_isIn_y (by omega) (by omega)) (by omega) (Nat.le_of_ble_eq_true rfl) (fun r1 h1 hq => ?_)
  obtain ⟨rfl, rfl⟩ := hq
  exact z_iret eX4_isKey_10 rfl (by decide) ⟨_, rfl, rfl, rfl⟩
set_option maxHeartbeats 1000000 in
set_option maxRecDepth 100000 in
theorem s4_isKey_n {t : zMod} {u : zCls} {v : Int32} (hv : v < 0 ∨ nI (mg_s t 1) ≤ v) : Mi mX4_isKey 2 [.ref 0, .int (v)] (hA t u) (fun r h' => r = nI 0 ∧ h' = hA t u) := by
  refine Mi.of (by decide) rfl (Nat.le_of_ble_eq_true rfl) ?_
  refine r_iload_n eX4_isKey_0 rfl rfl ?_
  refine r_aload_n eX4_isKey_1 rfl rfl ?_
  refine r_getf (v := .ref 2) eX4_isKey_2 fX4_13 rfl rfl ?_
  refine n_iconst 1 eX4_isKey_5 rfl ?_
  refine n_iald (f := mg_s t) (j := 1) eX4_isKey_6 rfl rfl (by first | omega | exact zlt (hs _) | exact hou _ | exact hop _) (by decide) ?_
  refine r_callSi2 eX4_isKey_7 lX4_40 (s4_isIn_n hv) (by omega) (Nat.le_of_ble_eq_true rfl) (fun r1 h1 hq => ?_)
  obtain ⟨rfl, rfl⟩ := hq
  exact z_iret eX4_isKey_10 rfl (by decide) ⟨_, rfl, rfl, rfl⟩
set_option maxHeartbeats 1000000 in
set_option maxRecDepth 100000 in
theorem s4_upOf {t : zMod} {u : zCls} (hs : ∀ i, mg_s t i ≤ 1000) {p : Nat} (hp : p < 7) : Mi mX4_upOf 2 [.ref 0, .int (nI (p))] (hA t u) (fun r h' => r = nI (zup (mg_s t (5 + 5 * p + 0)) (mg_s t (5 + 5 * p + 1))) ∧ h' = hA t u) := by
  refine Mi.of (by decide) rfl (Nat.le_of_ble_eq_true rfl) ?_
  refine r_aload_n eX4_upOf_0 rfl rfl ?_
  refine r_iload_n eX4_upOf_1 rfl rfl ?_
  refine n_iconst 0 eX4_upOf_2 rfl ?_
  refine r_callVi2 eX4_upOf_3 lX4_90 (Or.inl ⟨_, _, _, rfl, rfl, rfl⟩) (s4_get (t := t) (u := u) (by omega)) (by omega) (Nat.le_of_ble_eq_true rfl) (fun r1 h1 hq => ?_)
  obtain ⟨rfl, rfl⟩ := (show r1 = nI (mg_s t (5 + 5 * p + 0)) ∧ h1 = hA t u from hq)
  refine n_iconst 2 eX4_upOf_6 rfl ?_
  refine n_icmp_ne eX4_upOf_7 (by first | omega | exact zlt (hs _) | exact hou _ | exact hop _) (by first | omega | exact zlt (hs _) | exact hou _ | exact hop _) (fun hc7 => ?_) (fun hc7 => ?_)
  · refine r_aload_n eX4_upOf_21 rfl rfl ?_
    refine r_iload_n eX4_upOf_22 rfl rfl ?_
    refine n_iconst 0 eX4_upOf_23 rfl ?_
    refine r_callVi2 eX4_upOf_24 lX4_90 (Or.inl ⟨_, _, _, rfl, rfl, rfl⟩) (s4_get (t := t) (u := u) (by omega)) (by omega) (Nat.le_of_ble_eq_true rfl) (fun r1 h1 hq => ?_)
    obtain ⟨rfl, rfl⟩ := (show r1 = nI (mg_s t (5 + 5 * p + 0)) ∧ h1 = hA t u from hq)
    refine n_iconst 4 eX4_upOf_27 rfl ?_
    refine n_icmp_ne eX4_upOf_28 (by first | omega | exact zlt (hs _) | exact hou _ | exact hop _) (by first | omega | exact zlt (hs _) | exact hou _ | exact hop _) (fun hc28 => ?_) (fun hc28 => ?_)
    · refine r_aload_n eX4_upOf_35 rfl rfl ?_
      refine r_iload_n eX4_upOf_36 rfl rfl ?_
      refine n_iconst 1 eX4_upOf_37 rfl ?_
      refine r_callVi2 eX4_upOf_38 lX4_90 (Or.inl ⟨_, _, _, rfl, rfl, rfl⟩) (s4_get (t := t) (u := u) (by omega)) (by omega) (Nat.le_of_ble_eq_true rfl) (fun r1 h1 hq => ?_)
      obtain ⟨rfl, rfl⟩ := (show r1 = nI (mg_s t (5 + 5 * p + 1)) ∧ h1 = hA t u from hq)
      exact z_iret eX4_upOf_41 rfl rfl ⟨_, rfl, congrArg nI (by unfold zup; (repeat' split) <;> omega), rfl⟩
    · refine n_iconst 0 eX4_upOf_31 rfl ?_
      refine r_goto eX4_upOf_32 ?_
      exact z_iret eX4_upOf_41 rfl rfl ⟨_, rfl, congrArg nI (by unfold zup; (repeat' split) <;> omega), rfl⟩
  · refine n_iconst 2 eX4_upOf_10 rfl ?_
    refine r_aload_n eX4_upOf_11 rfl rfl ?_
    refine r_iload_n eX4_upOf_12 rfl rfl ?_
    refine n_iconst 1 eX4_upOf_13 rfl ?_
    refine r_callVi2 eX4_upOf_14 lX4_90 (Or.inl ⟨_, _, _, rfl, rfl, rfl⟩) (s4_get (t := t) (u := u) (by omega)) (by omega) (Nat.le_of_ble_eq_true rfl) (fun r1 h1 hq => ?_)
    obtain ⟨rfl, rfl⟩ := (show r1 = nI (mg_s t (5 + 5 * p + 1)) ∧ h1 = hA t u from hq)
    refine n_mul eX4_upOf_17 ?_
    refine r_goto eX4_upOf_18 ?_
    exact z_iret eX4_upOf_41 rfl rfl ⟨_, rfl, congrArg nI (by unfold zup; (repeat' split) <;> omega), rfl⟩
set_option maxHeartbeats 1000000 in
set_option maxRecDepth 100000 in
theorem s4_needsOf {t : zMod} {u : zCls} (hs : ∀ i, mg_s t i ≤ 1000) {p : Nat} (hp : p < 7) : Mi mX4_needsOf 2 [.ref 0, .int (nI (p))] (hA t u) (fun r h' => r = nI (zneed (mg_s t (5 + 5 * p + 0)) (mg_s t (5 + 5 * p + 2))) ∧ h' = hA t u) := by
  refine Mi.of (by decide) rfl (Nat.le_of_ble_eq_true rfl) ?_
  refine r_aload_n eX4_needsOf_0 rfl rfl ?_
  refine r_iload_n eX4_needsOf_1 rfl rfl ?_
  refine n_iconst 0 eX4_needsOf_2 rfl ?_
  refine r_callVi2 eX4_needsOf_3 lX4_90 (Or.inl ⟨_, _, _, rfl, rfl, rfl⟩) (s4_get (t := t) (u := u) (by omega)) (by omega) (Nat.le_of_ble_eq_true rfl) (fun r1 h1 hq => ?_)
  obtain ⟨rfl, rfl⟩ := (show r1 = nI (mg_s t (5 + 5 * p + 0)) ∧ h1 = hA t u from hq)
  refine r_istore_n eX4_needsOf_6 rfl (by decide) ?_
  refine r_iload_n eX4_needsOf_7 rfl rfl ?_
  refine n_iconst 1 eX4_needsOf_8 rfl ?_
  refine n_icmp_eq eX4_needsOf_9 (by first | omega | exact zlt (hs _) | exact hou _ | exact hop _) (by first | omega | exact zlt (hs _) | exact hou _ | exact hop _) (fun hc9 => ?_) (fun hc9 => ?_)
  · refine r_aload_n eX4_needsOf_22 rfl rfl ?_
    refine r_iload_n eX4_needsOf_23 rfl rfl ?_
    refine n_iconst 2 eX4_needsOf_24 rfl ?_
    refine r_callVi2 eX4_needsOf_25 lX4_90 (Or.inl ⟨_, _, _, rfl, rfl, rfl⟩) (s4_get (t := t) (u := u) (by omega)) (by omega) (Nat.le_of_ble_eq_true rfl) (fun r1 h1 hq => ?_)
    obtain ⟨rfl, rfl⟩ := (show r1 = nI (mg_s t (5 + 5 * p + 2)) ∧ h1 = hA t u from hq)
    refine n_iconst 2 eX4_needsOf_28 rfl ?_
    refine n_div eX4_needsOf_29 (by first | omega | exact zlt (hs _) | exact hou _ | exact hop _) (by first | omega | exact zlt (hs _) | exact hou _ | exact hop _) (by first | omega | exact zlt (hs _) | exact hou _ | exact hop _) ?_
    refine r_goto eX4_needsOf_30 ?_
    exact z_iret eX4_needsOf_39 rfl rfl ⟨_, rfl, congrArg nI (by unfold zneed; (repeat' split) <;> omega), rfl⟩
  · refine r_iload_n eX4_needsOf_12 rfl rfl ?_
    refine n_iconst 4 eX4_needsOf_13 rfl ?_
    refine n_icmp_eq eX4_needsOf_14 (by first | omega | exact zlt (hs _) | exact hou _ | exact hop _) (by first | omega | exact zlt (hs _) | exact hou _ | exact hop _) (fun hc14 => ?_) (fun hc14 => ?_)
    · refine r_aload_n eX4_needsOf_22 rfl rfl ?_
      refine r_iload_n eX4_needsOf_23 rfl rfl ?_
      refine n_iconst 2 eX4_needsOf_24 rfl ?_
      refine r_callVi2 eX4_needsOf_25 lX4_90 (Or.inl ⟨_, _, _, rfl, rfl, rfl⟩) (s4_get (t := t) (u := u) (by omega)) (by omega) (Nat.le_of_ble_eq_true rfl) (fun r1 h1 hq => ?_)
      obtain ⟨rfl, rfl⟩ := (show r1 = nI (mg_s t (5 + 5 * p + 2)) ∧ h1 = hA t u from hq)
      refine n_iconst 2 eX4_needsOf_28 rfl ?_
      refine n_div eX4_needsOf_29 (by first | omega | exact zlt (hs _) | exact hou _ | exact hop _) (by first | omega | exact zlt (hs _) | exact hou _ | exact hop _) (by first | omega | exact zlt (hs _) | exact hou _ | exact hop _) ?_
      refine r_goto eX4_needsOf_30 ?_
      exact z_iret eX4_needsOf_39 rfl rfl ⟨_, rfl, congrArg nI (by unfold zneed; (repeat' split) <;> omega), rfl⟩
    · refine r_iload_n eX4_needsOf_17 rfl rfl ?_
      refine n_iconst 5 eX4_needsOf_18 rfl ?_
      refine n_icmp_ne eX4_needsOf_19 (by first | omega | exact zlt (hs _) | exact hou _ | exact hop _) (by first | omega | exact zlt (hs _) | exact hou _ | exact hop _) (fun hc19 => ?_) (fun hc19 => ?_)
      · refine r_aload_n eX4_needsOf_33 rfl rfl ?_
        refine r_iload_n eX4_needsOf_34 rfl rfl ?_
        refine n_iconst 2 eX4_needsOf_35 rfl ?_
        refine r_callVi2 eX4_needsOf_36 lX4_90 (Or.inl ⟨_, _, _, rfl, rfl, rfl⟩) (s4_get (t := t) (u := u) (by omega)) (by omega) (Nat.le_of_ble_eq_true rfl) (fun r1 h1 hq => ?_)
        obtain ⟨rfl, rfl⟩ := (show r1 = nI (mg_s t (5 + 5 * p + 2)) ∧ h1 = hA t u from hq)
        exact z_iret eX4_needsOf_39 rfl rfl ⟨_, rfl, congrArg nI (by unfold zneed; (repeat' split) <;> omega), rfl⟩
      · refine r_aload_n eX4_needsOf_22 rfl rfl ?_
        refine r_iload_n eX4_needsOf_23 rfl rfl ?_
        refine n_iconst 2 eX4_needsOf_24 rfl ?_
        refine r_callVi2 eX4_needsOf_25 lX4_90 (Or.inl ⟨_, _, _, rfl, rfl, rfl⟩) (s4_get (t := t) (u := u) (by omega)) (by omega) (Nat.le_of_ble_eq_true rfl) (fun r1 h1 hq => ?_)
        obtain ⟨rfl, rfl⟩ := (show r1 = nI (mg_s t (5 + 5 * p + 2)) ∧ h1 = hA t u from hq)
        refine n_iconst 2 eX4_needsOf_28 rfl ?_
        refine n_div eX4_needsOf_29 (by first | omega | exact zlt (hs _) | exact hou _ | exact hop _) (by first | omega | exact zlt (hs _) | exact hou _ | exact hop _) (by first | omega | exact zlt (hs _) | exact hou _ | exact hop _) ?_
        refine r_goto eX4_needsOf_30 ?_
        exact z_iret eX4_needsOf_39 rfl rfl ⟨_, rfl, congrArg nI (by unfold zneed; (repeat' split) <;> omega), rfl⟩
set_option maxHeartbeats 1000000 in
set_option maxRecDepth 100000 in
theorem s4_wayOf {t : zMod} {u : zCls} (hs : ∀ i, mg_s t i ≤ 1000) {a b : Nat} (h0 : mg_s t 0 ≤ 7) (ha : a < mg_s t 0) (hb : b < mg_s t 0) : Mi mX4_wayOf 1 [.ref 0, .int (nI (a)), .int (nI (b))] (hA t u) (fun r h' => r = nI (zway (mg_s t 4) (mg_s t 0) a b) ∧ h' = hA t u) := by
  refine Mi.of (by decide) rfl (Nat.le_of_ble_eq_true rfl) ?_
  refine r_iload_n eX4_wayOf_0 rfl rfl ?_
  refine r_iload_n eX4_wayOf_1 rfl rfl ?_
  refine n_icmp_le eX4_wayOf_2 (by first | omega | exact zlt (hs _) | exact hou _ | exact hop _) (by first | omega | exact zlt (hs _) | exact hou _ | exact hop _) (fun hc2 => ?_) (fun hc2 => ?_)
  · refine r_iload_n eX4_wayOf_11 rfl rfl ?_
    refine r_iload_n eX4_wayOf_12 rfl rfl ?_
    refine n_sub eX4_wayOf_13 (by first | omega | exact zlt (hs _) | exact hou _ | exact hop _) ?_
    refine r_istore_n eX4_wayOf_14 rfl (by decide) ?_
    refine r_aload_n eX4_wayOf_15 rfl rfl ?_
    refine r_getf (v := .ref 2) eX4_wayOf_16 fX4_13 rfl rfl ?_
    refine n_iconst 4 eX4_wayOf_19 rfl ?_
    refine n_iald (f := mg_s t) (j := 4) eX4_wayOf_20 rfl rfl (by first | omega | exact zlt (hs _) | exact hou _ | exact hop _) (by decide) ?_
    refine n_iconst 1 eX4_wayOf_21 rfl ?_
    refine n_icmp_ne eX4_wayOf_22 (by first | omega | exact zlt (hs _) | exact hou _ | exact hop _) (by first | omega | exact zlt (hs _) | exact hou _ | exact hop _) (fun hc22 => ?_) (fun hc22 => ?_)
    · refine r_iload_n eX4_wayOf_48 rfl rfl ?_
      refine z_iret eX4_wayOf_49 rfl rfl ⟨_, rfl, ?_, rfl⟩
      congr 1
      unfold zway zfar
      split <;> split <;> omega
    · refine r_aload_n eX4_wayOf_25 rfl rfl ?_
      refine r_getf (v := .ref 2) eX4_wayOf_26 fX4_13 rfl rfl ?_
      refine n_iconst 0 eX4_wayOf_29 rfl ?_
      refine n_iald (f := mg_s t) (j := 0) eX4_wayOf_30 rfl rfl (by first | omega | exact zlt (hs _) | exact hou _ | exact hop _) (by decide) ?_
      refine r_iload_n eX4_wayOf_31 rfl rfl ?_
      refine n_sub eX4_wayOf_32 (by first | omega | exact zlt (hs _) | exact hou _ | exact hop _) ?_
      refine r_iload_n eX4_wayOf_33 rfl rfl ?_
      refine n_icmp_ge eX4_wayOf_34 (by first | omega | exact zlt (hs _) | exact hou _ | exact hop _) (by first | omega | exact zlt (hs _) | exact hou _ | exact hop _) (fun hc34 => ?_) (fun hc34 => ?_)
      · refine r_iload_n eX4_wayOf_48 rfl rfl ?_
        refine z_iret eX4_wayOf_49 rfl rfl ⟨_, rfl, ?_, rfl⟩
        congr 1
        unfold zway zfar
        split <;> split <;> omega
      · refine r_aload_n eX4_wayOf_37 rfl rfl ?_
        refine r_getf (v := .ref 2) eX4_wayOf_38 fX4_13 rfl rfl ?_
        refine n_iconst 0 eX4_wayOf_41 rfl ?_
        refine n_iald (f := mg_s t) (j := 0) eX4_wayOf_42 rfl rfl (by first | omega | exact zlt (hs _) | exact hou _ | exact hop _) (by decide) ?_
        refine r_iload_n eX4_wayOf_43 rfl rfl ?_
        refine n_sub eX4_wayOf_44 (by first | omega | exact zlt (hs _) | exact hou _ | exact hop _) ?_
        refine r_goto eX4_wayOf_45 ?_
        refine z_iret eX4_wayOf_49 rfl rfl ⟨_, rfl, ?_, rfl⟩
        congr 1
        unfold zway zfar
        split <;> split <;> omega
  · refine r_iload_n eX4_wayOf_5 rfl rfl ?_
    refine r_iload_n eX4_wayOf_6 rfl rfl ?_
    refine n_sub eX4_wayOf_7 (by first | omega | exact zlt (hs _) | exact hou _ | exact hop _) ?_
    refine r_goto eX4_wayOf_8 ?_
    refine r_istore_n eX4_wayOf_14 rfl (by decide) ?_
    refine r_aload_n eX4_wayOf_15 rfl rfl ?_
    refine r_getf (v := .ref 2) eX4_wayOf_16 fX4_13 rfl rfl ?_
    refine n_iconst 4 eX4_wayOf_19 rfl ?_
    refine n_iald (f := mg_s t) (j := 4) eX4_wayOf_20 rfl rfl (by first | omega | exact zlt (hs _) | exact hou _ | exact hop _) (by decide) ?_
    refine n_iconst 1 eX4_wayOf_21 rfl ?_
    refine n_icmp_ne eX4_wayOf_22 (by first | omega | exact zlt (hs _) | exact hou _ | exact hop _) (by first | omega | exact zlt (hs _) | exact hou _ | exact hop _) (fun hc22 => ?_) (fun hc22 => ?_)
    · refine r_iload_n eX4_wayOf_48 rfl rfl ?_
      refine z_iret eX4_wayOf_49 rfl rfl ⟨_, rfl, ?_, rfl⟩
      congr 1
      unfold zway zfar
      split <;> split <;> omega
    · refine r_aload_n eX4_wayOf_25 rfl rfl ?_
      refine r_getf (v := .ref 2) eX4_wayOf_26 fX4_13 rfl rfl ?_
      refine n_iconst 0 eX4_wayOf_29 rfl ?_
      refine n_iald (f := mg_s t) (j := 0) eX4_wayOf_30 rfl rfl (by first | omega | exact zlt (hs _) | exact hou _ | exact hop _) (by decide) ?_
      refine r_iload_n eX4_wayOf_31 rfl rfl ?_
      refine n_sub eX4_wayOf_32 (by first | omega | exact zlt (hs _) | exact hou _ | exact hop _) ?_
      refine r_iload_n eX4_wayOf_33 rfl rfl ?_
      refine n_icmp_ge eX4_wayOf_34 (by first | omega | exact zlt (hs _) | exact hou _ | exact hop _) (by first | omega | exact zlt (hs _) | exact hou _ | exact hop _) (fun hc34 => ?_) (fun hc34 => ?_)
      · refine r_iload_n eX4_wayOf_48 rfl rfl ?_
        refine z_iret eX4_wayOf_49 rfl rfl ⟨_, rfl, ?_, rfl⟩
        congr 1
        unfold zway zfar
        split <;> split <;> omega
      · refine r_aload_n eX4_wayOf_37 rfl rfl ?_
        refine r_getf (v := .ref 2) eX4_wayOf_38 fX4_13 rfl rfl ?_
        refine n_iconst 0 eX4_wayOf_41 rfl ?_
        refine n_iald (f := mg_s t) (j := 0) eX4_wayOf_42 rfl rfl (by first | omega | exact zlt (hs _) | exact hou _ | exact hop _) (by decide) ?_
        refine r_iload_n eX4_wayOf_43 rfl rfl ?_
        refine n_sub eX4_wayOf_44 (by first | omega | exact zlt (hs _) | exact hou _ | exact hop _) ?_
        refine r_goto eX4_wayOf_45 ?_
        refine z_iret eX4_wayOf_49 rfl rfl ⟨_, rfl, ?_, rfl⟩
        congr 1
        unfold zway zfar
        split <;> split <;> omega
set_option maxHeartbeats 1000000 in
set_option maxRecDepth 100000 in
theorem s4_orNone_n {h : List zC} : Mi mX4_orNone 1 [.int (nI (1000000))] h (fun r h' => r = (-9) ∧ h' = h) := by
  refine Mi.of (by decide) rfl (Nat.le_of_ble_eq_true rfl) ?_
  refine r_iload_n eX4_orNone_0 rfl rfl ?_
  refine n_ldc 1000000 eX4_orNone_1 kX4_129 rfl ?_
  refine n_icmp_ne eX4_orNone_3 (by first | omega | exact zlt (hs _) | exact hou _ | exact hop _) (by first | omega | exact zlt (hs _) | exact hou _ | exact hop _) (fun hc3 => absurd hc3 (by decide)) (fun hc3 => ?_)
  refine r_bipush (v := (-9)) eX4_orNone_6 rfl ?_
  refine r_goto eX4_orNone_8 ?_
  exact z_iret eX4_orNone_12 rfl rfl ⟨_, rfl, rfl, rfl⟩
set_option maxHeartbeats 1000000 in
set_option maxRecDepth 100000 in
theorem s4_orNone_y {h : List zC} {v : Nat} (hv : v < 1000000) : Mi mX4_orNone 1 [.int (nI (v))] h (fun r h' => r = nI v ∧ h' = h) := by
  refine Mi.of (by decide) rfl (Nat.le_of_ble_eq_true rfl) ?_
  refine r_iload_n eX4_orNone_0 rfl rfl ?_
  refine n_ldc 1000000 eX4_orNone_1 kX4_129 rfl ?_
  refine n_icmp_ne eX4_orNone_3 (by first | omega | exact zlt (hs _) | exact hou _ | exact hop _) (by first | omega | exact zlt (hs _) | exact hou _ | exact hop _) (fun hc3 => ?_) (fun hc3 => absurd hc3 (by omega))
  refine r_iload_n eX4_orNone_11 rfl rfl ?_
  exact z_iret eX4_orNone_12 rfl rfl ⟨_, rfl, rfl, rfl⟩
set_option maxHeartbeats 1000000 in
set_option maxRecDepth 100000 in
theorem s4_holds_l {t : zMod} {u : zCls} (hs : ∀ i, mg_s t i ≤ 1000) {p d0 : Nat} (h1 : mg_s t 1 ≤ 12) (hp : p < 7) (hd : d0 < 7) : ∀ (k : Nat) (k0 : Nat) (hk : k0 + k = mg_s t 1) (hno : ∀ j, j < k0 → ¬ (mg_s t (40 + 2 * j + 1) = p ∧ mg_s t (40 + 2 * j) = d0)), Rq mX4_holds 2 none 2 [.ref 0, .int (nI (p)), .int (nI (d0)), .int (nI (k0))] [] (hA t u) (fun r h' => ∃ x, r = some x ∧ (x = nI (zhold (fun k => mg_s t (40 + 2 * k)) (fun k => mg_s t (40 + 2 * k + 1)) (mg_s t 1) p d0).toNat ∧ h' = hA t u)) := by
  intro k
  induction k with
  | zero =>
    intro k0 hk hno
    refine r_iload_n eX4_holds_2 rfl rfl ?_
    refine r_aload_n eX4_holds_3 rfl rfl ?_
    refine r_getf (v := .ref 2) eX4_holds_4 fX4_13 rfl rfl ?_
    refine n_iconst 1 eX4_holds_7 rfl ?_
    refine n_iald (f := mg_s t) (j := 1) eX4_holds_8 rfl rfl (by first | omega | exact zlt (hs _) | exact hou _ | exact hop _) (by decide) ?_
    refine n_icmp_ge eX4_holds_9 (by first | omega | exact zlt (hs _) | exact hou _ | exact hop _) (by first | omega | exact zlt (hs _) | exact hou _ | exact hop _) (fun hc9 => ?_) (fun hc9 => absurd hc9 (by omega))
    refine n_iconst 0 eX4_holds_38 rfl ?_
    exact z_iret eX4_holds_39 rfl (by decide) ⟨_, rfl, (congrArg (fun b => nI (Bool.toNat b)) (zhold_no (fun j hj => hno j (by omega))).symm), rfl⟩
  | succ k ih =>
    intro k0 hk hno
    refine r_iload_n eX4_holds_2 rfl rfl ?_
    refine r_aload_n eX4_holds_3 rfl rfl ?_
    refine r_getf (v := .ref 2) eX4_holds_4 fX4_13 rfl rfl ?_
    refine n_iconst 1 eX4_holds_7 rfl ?_
    refine n_iald (f := mg_s t) (j := 1) eX4_holds_8 rfl rfl (by first | omega | exact zlt (hs _) | exact hou _ | exact hop _) (by decide) ?_
    refine n_icmp_ge eX4_holds_9 (by first | omega | exact zlt (hs _) | exact hou _ | exact hop _) (by first | omega | exact zlt (hs _) | exact hou _ | exact hop _) (fun hc9 => absurd hc9 (by omega)) (fun hc9 => ?_)
    refine r_aload_n eX4_holds_12 rfl rfl ?_
    refine r_iload_n eX4_holds_13 rfl rfl ?_
    refine r_callVi1 eX4_holds_14 lX4_106 (Or.inl ⟨_, _, _, rfl, rfl, rfl⟩) (s4_held (t := t) (u := u) (by omega)) (by omega) (Nat.le_of_ble_eq_true rfl) (fun r1 h1 hq => ?_)
    obtain ⟨rfl, rfl⟩ := (show r1 = nI (mg_s t (40 + 2 * k0 + 1)) ∧ h1 = hA t u from hq)
    refine r_iload_n eX4_holds_17 rfl rfl ?_
    refine n_icmp_ne eX4_holds_18 (by first | omega | exact zlt (hs _) | exact hou _ | exact hop _) (by first | omega | exact zlt (hs _) | exact hou _ | exact hop _) (fun hc18 => ?_) (fun hc18 => ?_)
    · refine n_iinc (k := 1) eX4_holds_32 rfl (by decide) rfl ?_
      refine r_goto eX4_holds_35 ?_
      exact ih (k0 + 1) (by omega) (fun j hj => by
        by_cases e : j = k0
        · subst e
          omega
        · exact hno j (by omega))
    · refine r_aload_n eX4_holds_21 rfl rfl ?_
      refine r_iload_n eX4_holds_22 rfl rfl ?_
      refine r_callVi1 eX4_holds_23 lX4_120 (Or.inl ⟨_, _, _, rfl, rfl, rfl⟩) (s4_door (t := t) (u := u) (by omega)) (by omega) (Nat.le_of_ble_eq_true rfl) (fun r1 h1 hq => ?_)
      obtain ⟨rfl, rfl⟩ := (show r1 = nI (mg_s t (40 + 2 * k0)) ∧ h1 = hA t u from hq)
      refine r_iload_n eX4_holds_26 rfl rfl ?_
      refine n_icmp_ne eX4_holds_27 (by first | omega | exact zlt (hs _) | exact hou _ | exact hop _) (by first | omega | exact zlt (hs _) | exact hou _ | exact hop _) (fun hc27 => ?_) (fun hc27 => ?_)
      · refine n_iinc (k := 1) eX4_holds_32 rfl (by decide) rfl ?_
        refine r_goto eX4_holds_35 ?_
        exact ih (k0 + 1) (by omega) (fun j hj => by
          by_cases e : j = k0
          · subst e
            omega
          · exact hno j (by omega))
      · refine n_iconst 1 eX4_holds_30 rfl ?_
        exact z_iret eX4_holds_31 rfl (by decide) ⟨_, rfl, (congrArg (fun b => nI (Bool.toNat b)) (zhold_yes (k := k0) (by omega) (by omega) (by omega)).symm), rfl⟩
set_option maxHeartbeats 1000000 in
set_option maxRecDepth 100000 in
theorem s4_holds {t : zMod} {u : zCls} (hs : ∀ i, mg_s t i ≤ 1000) {p d0 : Nat} (h1 : mg_s t 1 ≤ 12) (hp : p < 7) (hd : d0 < 7) : Mi mX4_holds 2 [.ref 0, .int (nI (p)), .int (nI (d0))] (hA t u) (fun r h' => r = nI (zhold (fun k => mg_s t (40 + 2 * k)) (fun k => mg_s t (40 + 2 * k + 1)) (mg_s t 1) p d0).toNat ∧ h' = hA t u) := by
  refine Mi.of (by decide) rfl (Nat.le_of_ble_eq_true rfl) ?_
  refine n_iconst 0 eX4_holds_0 rfl ?_
  refine r_istore_n eX4_holds_1 rfl (by decide) ?_
  exact s4_holds_l hs h1 hp hd (mg_s t 1) 0 (by omega) (fun j hj => absurd hj (by omega))
