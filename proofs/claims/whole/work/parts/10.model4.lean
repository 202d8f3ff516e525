/-! THE REFERENCE: what stands on finds -/
def mOk (t : zMod) : Prop := sOk (mg_s t) ∧ mg_br t < 128 ∧ mg_nw t < 2 ∧ (∀ i, mg_ou t i ≤ 1000000) ∧ ∀ i, mg_op t i ≤ 1000000
def sP (S : Nat → Nat) (nw br i : Nat) : Nat := (sRun S nw br (fun _ => 1000000)).2.2 i
theorem Mv.mono {Y : zM} {d : Nat} {As : List Value} {h : List zC} {Q Q' : List zC → Prop} (k : Mv Y d As h Q) (hQ : ∀ h', Q h' → Q' h') : Mv Y d As h Q' := by
  intro l ad D cA cB sz
  have := k l ad D cA cB sz
  intro p e ha hc hk s m args below hf hap hP hK
  obtain ⟨t, o, q1, q2, q3, ⟨⟨v, q4, q5, q6⟩, q7⟩, q8⟩ := this p e ha hc hk s m args below hf hap hP hK
  exact ⟨t, o, q1, q2, q3, ⟨⟨v, q4, hQ v q5, q6⟩, q7⟩, q8⟩
theorem Mi.mono {Y : zM} {d : Nat} {As : List Value} {h : List zC} {Q Q' : Int32 → List zC → Prop} (k : Mi Y d As h Q) (hQ : ∀ r h', Q r h' → Q' r h') : Mi Y d As h Q' := by
  intro l ad D cA cB sz
  have := k l ad D cA cB sz
  intro p e ha hc hk s m args below hf hap hP hK
  obtain ⟨t, o, q1, q2, q3, ⟨⟨r, v, q4, q5, q6⟩, q7⟩, q8⟩ := this p e ha hc hk s m args below hf hap hP hK
  exact ⟨t, o, q1, q2, q3, ⟨⟨r, v, q4, hQ r v q5, q6⟩, q7⟩, q8⟩
theorem s4_findsM {t : zMod} {u : zCls} (hm : mOk t) : Mv mX4_finds 5 [.ref 0] (hA t u) (fun h' => ∃ (O' P' : Nat → Nat), h' = hA (mg_re t, mg_s t, mg_im t, mg_rd t, mg_ii t, mg_tp t, mg_tl t, mg_ta t, mg_at t, O', P', mg_br t, mg_nw t, mg_fs t, mg_bc t, mg_kr t, mg_rw t, mg_rc t) u ∧ (∀ i, i < mg_s t 0 → O' i = sO (mg_s t) (mg_nw t) (mg_br t) i) ∧ (∀ i, O' i ≤ 1000000) ∧ (∀ i, i < mg_s t 0 → P' i = sP (mg_s t) (mg_nw t) (mg_br t) i) ∧ ∀ i, P' i ≤ 1000000) := by
  obtain ⟨hk, hbr, hnw, hou, hop⟩ := hm
  refine Mv.mono (s4_finds hk.1 hk.2.1 hk.2.2 hnw hbr hou hop) (fun h' hq => ?_)
  obtain ⟨O', P', q1, q2, q3, q4, q5⟩ := hq
  refine ⟨O', P', q1, fun i hi => (q2 i hi).trans (sOut_sO hk hi), q3, fun i hi => ?_, q5⟩
  have := (sRun_cong (nw := mg_nw t) (br := mg_br t) (op := mg_op t) (op' := fun _ => 1000000) hk).2.2 i hi
  rw [q4]
  unfold zV2 at this
  unfold sP
  omega
def zon (NV v : Nat) : Int32 := if v = NV then -9 else nI v
/-- bits -/
def zbs (f : Nat → Bool) : Nat → Nat
  | 0 => 0
  | n + 1 => zbs f n ||| (if f n = true then 1 * 2 ^ n else 0)
theorem zbs_cong {f g : Nat → Bool} : ∀ {n : Nat}, (∀ i, i < n → f i = g i) → zbs f n = zbs g n
  | 0, _ => rfl
  | n + 1, h => by rw [zbs, zbs, zbs_cong (fun i hi => h i (by omega)), h n (by omega)]
theorem zbs_lt (f : Nat → Bool) : ∀ n, zbs f n < 2 ^ n
  | 0 => Nat.zero_lt_one
  | n + 1 => by
    have h := zbs_lt f n
    have h2 : 2 ^ (n + 1) = 2 * 2 ^ n := by rw [Nat.pow_succ]; omega
    rw [zbs]
    refine Nat.or_lt_two_pow (by omega) ?_
    split <;> omega
theorem zbs_bit (f : Nat → Bool) : ∀ n i, (zbs f n).testBit i = (decide (i < n) && f i)
  | 0, i => by simp [zbs]
  | n + 1, i => by
    rw [zbs, Nat.testBit_or, zbs_bit f n i]
    by_cases e : i = n
    · subst e
      by_cases hf : f i = true
      · simp [hf, Nat.testBit_two_pow]
      · simp [hf]
    · have e2 : (if f n = true then 1 * 2 ^ n else 0).testBit i = false := by
        split
        · rw [Nat.one_mul, Nat.testBit_two_pow]
          simp
          omega
        · exact Nat.zero_testBit i
      rw [e2, Bool.or_false]
      congr 1
      exact decide_eq_decide.mpr (by omega)
theorem zpow7 {p : Nat} (h : p < 7) : 2 ^ p < 128 := Nat.pow_lt_pow_right (by omega) (show p < 7 from h)
set_option maxHeartbeats 1000000 in
set_option maxRecDepth 100000 in
theorem s4_orNone {h : List zC} {v : Nat} (hv : v ≤ 1000000) : Mi mX4_orNone 1 [.int (nI (v))] h (fun r h' => r = zon 1000000 v ∧ h' = h) := by
  refine Mi.of (by decide) rfl (Nat.le_of_ble_eq_true rfl) ?_
  refine r_iload_n eX4_orNone_0 rfl rfl ?_
  refine n_ldc 1000000 eX4_orNone_1 kX4_129 rfl ?_
  refine n_icmp_ne eX4_orNone_3 (by first | omega | exact zlt (hs _) | exact hou _ | exact hop _) (by first | omega | exact zlt (hs _) | exact hou _ | exact hop _) (fun hc3 => ?_) (fun hc3 => ?_)
  · refine r_iload_n eX4_orNone_11 rfl rfl ?_
    exact z_iret eX4_orNone_12 rfl rfl ⟨_, rfl, by rw [zon, if_neg hc3], rfl⟩
  · refine r_bipush (v := (-9)) eX4_orNone_6 rfl ?_
    refine r_goto eX4_orNone_8 ?_
    exact z_iret eX4_orNone_12 rfl rfl ⟨_, rfl, by rw [zon, if_pos hc3], rfl⟩
set_option maxHeartbeats 1000000 in
set_option maxRecDepth 100000 in
theorem s4_allOut_l {t : zMod} {u : zCls} (hm : mOk t) : ∀ (k : Nat) (pp : Nat) (la : Nat) (hd : pp + k = mg_s t 0) (hla : zmx (mg_ou t) pp = la) (hl2 : la ≤ 1000000), Rq mX4_allOut 6 none 8 [.ref 0, .int (nI (la)), .int (nI (pp))] [] (hA t u) (fun r h' => ∃ x, r = some x ∧ (x = nI (zmx (mg_ou t) (mg_s t 0)) ∧ h' = hA t u)) := by
  intro k
  induction k with
  | zero =>
    intro pp la hd hla hl2
    obtain ⟨⟨hs, h0, h1⟩, hbr, hnw, hou, hop⟩ := id hm
    refine r_iload_n eX4_allOut_8 rfl rfl ?_
    refine r_aload_n eX4_allOut_9 rfl rfl ?_
    refine r_getf (v := .ref 2) eX4_allOut_10 fX4_13 rfl rfl ?_
    refine n_iconst 0 eX4_allOut_13 rfl ?_
    refine n_iald (f := mg_s t) (j := 0) eX4_allOut_14 rfl rfl (by first | omega | exact zlt (hs _) | exact hou _ | exact hop _) (by decide) ?_
    refine n_icmp_ge eX4_allOut_15 (by first | omega | exact zlt (hs _) | exact hou _ | exact hop _) (by first | omega | exact zlt (hs _) | exact hou _ | exact hop _) (fun hc15 => ?_) (fun hc15 => absurd hc15 (by omega))
    refine r_iload_n eX4_allOut_45 rfl rfl ?_
    exact z_iret eX4_allOut_46 rfl rfl ⟨_, rfl, by rw [← hla, show pp = mg_s t 0 by omega], rfl⟩
  | succ k ih =>
    intro pp la hd hla hl2
    obtain ⟨⟨hs, h0, h1⟩, hbr, hnw, hou, hop⟩ := id hm
    have hoo := hou pp
    refine r_iload_n eX4_allOut_8 rfl rfl ?_
    refine r_aload_n eX4_allOut_9 rfl rfl ?_
    refine r_getf (v := .ref 2) eX4_allOut_10 fX4_13 rfl rfl ?_
    refine n_iconst 0 eX4_allOut_13 rfl ?_
    refine n_iald (f := mg_s t) (j := 0) eX4_allOut_14 rfl rfl (by first | omega | exact zlt (hs _) | (have := hou pp; omega)) (by decide) ?_
    refine n_icmp_ge eX4_allOut_15 (by first | omega | exact zlt (hs _) | (have := hou pp; omega)) (by first | omega | exact zlt (hs _) | (have := hou pp; omega)) (fun hc15 => absurd hc15 (by omega)) (fun hc15 => ?_)
    refine r_aload_n eX4_allOut_18 rfl rfl ?_
    refine r_getf (v := .ref 7) eX4_allOut_19 fX4_28 rfl rfl ?_
    refine r_iload_n eX4_allOut_22 rfl rfl ?_
    refine n_iald (f := mg_ou t) (j := pp) eX4_allOut_23 rfl rfl (by first | omega | exact zlt (hs _) | (have := hou pp; omega)) (by decide) ?_
    refine r_iload_n eX4_allOut_24 rfl rfl ?_
    refine n_icmp_le eX4_allOut_25 (by first | omega | exact zlt (hs _) | (have := hou pp; omega)) (by first | omega | exact zlt (hs _) | (have := hou pp; omega)) (fun hc25 => ?_) (fun hc25 => ?_)
    · refine r_iload_n eX4_allOut_37 rfl rfl ?_
      refine r_istore_n eX4_allOut_38 rfl (by decide) ?_
      refine n_iinc (k := 1) eX4_allOut_39 rfl (by decide) rfl ?_
      refine r_goto eX4_allOut_42 ?_
      exact ih (pp + 1) (la) (by omega) (by rw [zmx, hla]; omega) (by omega)
    · refine r_aload_n eX4_allOut_28 rfl rfl ?_
      refine r_getf (v := .ref 7) eX4_allOut_29 fX4_28 rfl rfl ?_
      refine r_iload_n eX4_allOut_32 rfl rfl ?_
      refine n_iald (f := mg_ou t) (j := pp) eX4_allOut_33 rfl rfl (by first | omega | exact zlt (hs _) | (have := hou pp; omega)) (by decide) ?_
      refine r_goto eX4_allOut_34 ?_
      refine r_istore_n eX4_allOut_38 rfl (by decide) ?_
      refine n_iinc (k := 1) eX4_allOut_39 rfl (by decide) rfl ?_
      refine r_goto eX4_allOut_42 ?_
      exact ih (pp + 1) ((mg_ou t) (pp)) (by omega) (by rw [zmx, hla]; omega) (by omega)
set_option maxHeartbeats 1000000 in
set_option maxRecDepth 100000 in
theorem s4_allOut {t : zMod} {u : zCls} (hm : mOk t) : Mi mX4_allOut 6 [.ref 0] (hA t u) (fun r h' => ∃ (O' P' : Nat → Nat), h' = hA (mg_re t, mg_s t, mg_im t, mg_rd t, mg_ii t, mg_tp t, mg_tl t, mg_ta t, mg_at t, O', P', mg_br t, mg_nw t, mg_fs t, mg_bc t, mg_kr t, mg_rw t, mg_rc t) u ∧ r = nI (sAll (mg_s t) (mg_nw t) (mg_br t)) ∧ (∀ i, O' i ≤ 1000000) ∧ ∀ i, P' i ≤ 1000000) := by
  obtain ⟨⟨hs, h0, h1⟩, hbr, hnw, hou, hop⟩ := id hm
  refine Mi.of (by decide) rfl (Nat.le_of_ble_eq_true rfl) ?_
  refine r_aload_n eX4_allOut_0 rfl rfl ?_
  refine r_callVv0 eX4_allOut_1 lX4_146 (Or.inl ⟨_, _, _, rfl, rfl, rfl⟩) (s4_findsM (t := t) (u := u) hm) (by omega) (Nat.le_of_ble_eq_true rfl) (fun h1 hq => ?_)
  obtain ⟨O1, P1, hh, hO1, hou1, hP1, hop1⟩ := hq
  obtain rfl := (show h1 = hA (mg_re t, mg_s t, mg_im t, mg_rd t, mg_ii t, mg_tp t, mg_tl t, mg_ta t, mg_at t, O1, P1, mg_br t, mg_nw t, mg_fs t, mg_bc t, mg_kr t, mg_rw t, mg_rc t) u from hh)
  refine n_iconst 0 eX4_allOut_4 rfl ?_
  refine r_istore_n eX4_allOut_5 rfl (by decide) ?_
  refine n_iconst 0 eX4_allOut_6 rfl ?_
  refine r_istore_n eX4_allOut_7 rfl (by decide) ?_
  refine Rq.mono (s4_allOut_l (t := (mg_re t, mg_s t, mg_im t, mg_rd t, mg_ii t, mg_tp t, mg_tl t, mg_ta t, mg_at t, O1, P1, mg_br t, mg_nw t, mg_fs t, mg_bc t, mg_kr t, mg_rw t, mg_rc t)) ⟨⟨hs, h0, h1⟩, hbr, hnw, hou1, hop1⟩ (mg_s t 0) 0 0 (Nat.zero_add _) rfl (Nat.zero_le _)) (fun r h' hq => ?_)
  obtain ⟨x, rfl, rfl, rfl⟩ := hq
  exact ⟨_, rfl, O1, P1, rfl, congrArg nI (zmx_cong hO1), hou1, hop1⟩
set_option maxHeartbeats 1000000 in
set_option maxRecDepth 100000 in
theorem s4_out_n {t : zMod} {u : zCls} (hm : mOk t) {v : Int32} (hv : v < 0 ∨ nI (mg_s t 0) ≤ v) : Mi mX4_out 8 [.ref 0, .int (v)] (hA t u) (fun r h' => r = (-1) ∧ h' = hA ((va_up (mg_re t) 1 (mg_re t 1 + 1)), mg_s t, mg_im t, mg_rd t, mg_ii t, mg_tp t, mg_tl t, mg_ta t, mg_at t, mg_ou t, mg_op t, mg_br t, mg_nw t, mg_fs t, mg_bc t, mg_kr t, mg_rw t, mg_rc t) u) := by
  refine Mi.of (by decide) rfl (Nat.le_of_ble_eq_true rfl) ?_
  refine r_aload_n eX4_out_0 rfl rfl ?_
  refine r_iload_n eX4_out_1 rfl rfl ?_
  refine r_callVi1 eX4_out_2 lX4_94 (Or.inl ⟨_, _, _, rfl, rfl, rfl⟩) (s4_isPerson_n (t := t) (u := u) hv) (by omega) (Nat.le_of_ble_eq_true rfl) (fun r1 h1 hq => ?_)
  obtain ⟨rfl, rfl⟩ := (show r1 = nI (0) ∧ h1 = hA t u from hq)
  refine n_if_ne eX4_out_5 (by first | omega | exact zlt (hs _) | exact hou _ | exact hop _) (fun hc5 => absurd hc5 (by decide)) (fun hc5 => ?_)
  refine r_aload_n eX4_out_8 rfl rfl ?_
  refine r_iconst (v := (-1)) eX4_out_9 rfl ?_
  refine r_callVi1 eX4_out_10 lX4_52 (Or.inl ⟨_, _, _, rfl, rfl, rfl⟩) (s4_refuse (t := t) (u := u) (x := (-1)) (c := 1) (by decide) (by decide)) (by omega) (Nat.le_of_ble_eq_true rfl) (fun r1 h1 hq => ?_)
  obtain ⟨rfl, rfl⟩ := (show r1 = (-1) ∧ h1 = hA ((va_up (mg_re t) 1 ((mg_re t) 1 + 1)), mg_s t, mg_im t, mg_rd t, mg_ii t, mg_tp t, mg_tl t, mg_ta t, mg_at t, mg_ou t, mg_op t, mg_br t, mg_nw t, mg_fs t, mg_bc t, mg_kr t, mg_rw t, mg_rc t) u from hq)
  exact z_iret eX4_out_13 rfl rfl ⟨_, rfl, rfl, rfl⟩
set_option maxHeartbeats 1000000 in
set_option maxRecDepth 100000 in
theorem s4_out_y {t : zMod} {u : zCls} (hm : mOk t) {v : Nat} (hv : v < mg_s t 0) : Mi mX4_out 8 [.ref 0, .int (nI (v))] (hA t u) (fun r h' => ∃ (O' P' : Nat → Nat), h' = hA (mg_re t, mg_s t, mg_im t, mg_rd t, mg_ii t, mg_tp t, mg_tl t, mg_ta t, mg_at t, O', P', mg_br t, mg_nw t, mg_fs t, mg_bc t, mg_kr t, mg_rw t, mg_rc t) u ∧ r = zon 1000000 (sO (mg_s t) (mg_nw t) (mg_br t) v) ∧ (∀ i, O' i ≤ 1000000) ∧ ∀ i, P' i ≤ 1000000) := by
  obtain ⟨⟨hs, h0, h1⟩, hbr, hnw, hou, hop⟩ := id hm
  refine Mi.of (by decide) rfl (Nat.le_of_ble_eq_true rfl) ?_
  refine r_aload_n eX4_out_0 rfl rfl ?_
  refine r_iload_n eX4_out_1 rfl rfl ?_
  refine r_callVi1 eX4_out_2 lX4_94 (Or.inl ⟨_, _, _, rfl, rfl, rfl⟩) (s4_isPerson_y (t := t) (u := u) h0 hv) (by omega) (Nat.le_of_ble_eq_true rfl) (fun r1 h1 hq => ?_)
  obtain ⟨rfl, rfl⟩ := (show r1 = nI (1) ∧ h1 = hA t u from hq)
  refine n_if_ne eX4_out_5 (by first | omega | exact zlt (hs _) | exact hou _ | exact hop _) (fun hc5 => ?_) (fun hc5 => absurd hc5 (by decide))
  refine r_aload_n eX4_out_14 rfl rfl ?_
  refine r_callVv0 eX4_out_15 lX4_146 (Or.inl ⟨_, _, _, rfl, rfl, rfl⟩) (s4_findsM (t := t) (u := u) hm) (by omega) (Nat.le_of_ble_eq_true rfl) (fun h1 hq => ?_)
  obtain ⟨O15, P15, hh, hO15, hou15, hP15, hop15⟩ := hq
  obtain rfl := (show h1 = hA (mg_re t, mg_s t, mg_im t, mg_rd t, mg_ii t, mg_tp t, mg_tl t, mg_ta t, mg_at t, O15, P15, mg_br t, mg_nw t, mg_fs t, mg_bc t, mg_kr t, mg_rw t, mg_rc t) u from hh)
  refine r_aload_n eX4_out_18 rfl rfl ?_
  refine r_getf (v := .ref 7) eX4_out_19 fX4_28 rfl rfl ?_
  refine r_iload_n eX4_out_22 rfl rfl ?_
  refine n_iald (f := O15) (j := v) eX4_out_23 rfl rfl (by first | omega | exact zlt (hs _) | exact hou _ | exact hop _) (by decide) ?_
  refine r_callSi1 eX4_out_24 lX4_149 (s4_orNone (hou15 v)) (by omega) (Nat.le_of_ble_eq_true rfl) (fun r1 h1 hq => ?_)
  obtain ⟨rfl, rfl⟩ := hq
  exact z_iret eX4_out_27 rfl rfl ⟨_, rfl, O15, P15, rfl, by rw [hO15 v hv], hou15, hop15⟩
set_option maxHeartbeats 1000000 in
set_option maxRecDepth 100000 in
theorem s4_all {t : zMod} {u : zCls} (hm : mOk t) : Mi mX4_all 8 [.ref 0] (hA t u) (fun r h' => ∃ (O' P' : Nat → Nat), h' = hA (mg_re t, mg_s t, mg_im t, mg_rd t, mg_ii t, mg_tp t, mg_tl t, mg_ta t, mg_at t, O', P', mg_br t, mg_nw t, mg_fs t, mg_bc t, mg_kr t, mg_rw t, mg_rc t) u ∧ r = zon 1000000 (sAll (mg_s t) (mg_nw t) (mg_br t)) ∧ (∀ i, O' i ≤ 1000000) ∧ ∀ i, P' i ≤ 1000000) := by
  obtain ⟨⟨hs, h0, h1⟩, hbr, hnw, hou, hop⟩ := id hm
  refine Mi.of (by decide) rfl (Nat.le_of_ble_eq_true rfl) ?_
  refine r_aload_n eX4_all_0 rfl rfl ?_
  refine r_callVi0 eX4_all_1 lX4_152 (Or.inl ⟨_, _, _, rfl, rfl, rfl⟩) (s4_allOut (t := t) (u := u) hm) (by omega) (Nat.le_of_ble_eq_true rfl) (fun r1 h1 hq => ?_)
  obtain ⟨O1, P1, hh, hr, hou1, hop1⟩ := hq
  obtain rfl := (show h1 = hA (mg_re t, mg_s t, mg_im t, mg_rd t, mg_ii t, mg_tp t, mg_tl t, mg_ta t, mg_at t, O1, P1, mg_br t, mg_nw t, mg_fs t, mg_bc t, mg_kr t, mg_rw t, mg_rc t) u from hh)
  obtain rfl := (show r1 = nI (sAll (mg_s t) (mg_nw t) (mg_br t)) from hr)
  refine r_callSi1 eX4_all_4 lX4_149 (s4_orNone (zmx_le (fun i hi => by have := sO_is (nw := mg_nw t) (br := mg_br t) ⟨hs, h0, h1⟩ hi; omega))) (by omega) (Nat.le_of_ble_eq_true rfl) (fun r1 h1 hq => ?_)
  obtain ⟨rfl, rfl⟩ := hq
  exact z_iret eX4_all_7 rfl rfl ⟨_, rfl, O1, P1, rfl, rfl, hou1, hop1⟩
set_option maxHeartbeats 1000000 in
set_option maxRecDepth 100000 in
theorem s4_late_l {t : zMod} {u : zCls} (hm : mOk t) : ∀ (k : Nat) (pp : Nat) (la : Nat) (hd : pp + k = mg_s t 0) (hla : zbs (fun p => decide (mg_s t (5 + 5 * p + 3) < mg_ou t p)) pp = la), Rq mX4_late 6 none 8 [.ref 0, .int (nI (la)), .int (nI (pp))] [] (hA t u) (fun r h' => ∃ x, r = some x ∧ (x = nI (zbs (fun p => decide (mg_s t (5 + 5 * p + 3) < mg_ou t p)) (mg_s t 0)) ∧ h' = hA t u)) := by
  intro k
  induction k with
  | zero =>
    intro pp la hd hla
    obtain ⟨⟨hs, h0, h1⟩, hbr, hnw, hou, hop⟩ := id hm
    refine r_iload_n eX4_late_8 rfl rfl ?_
    refine r_aload_n eX4_late_9 rfl rfl ?_
    refine r_getf (v := .ref 2) eX4_late_10 fX4_13 rfl rfl ?_
    refine n_iconst 0 eX4_late_13 rfl ?_
    refine n_iald (f := mg_s t) (j := 0) eX4_late_14 rfl rfl (by first | omega | exact zlt (hs _) | exact hou _ | exact hop _) (by decide) ?_
    refine n_icmp_ge eX4_late_15 (by first | omega | exact zlt (hs _) | exact hou _ | exact hop _) (by first | omega | exact zlt (hs _) | exact hou _ | exact hop _) (fun hc15 => ?_) (fun hc15 => absurd hc15 (by omega))
    refine r_iload_n eX4_late_49 rfl rfl ?_
    exact z_iret eX4_late_50 rfl rfl ⟨_, rfl, by rw [← hla, show pp = mg_s t 0 by omega], rfl⟩
  | succ k ih =>
    intro pp la hd hla
    obtain ⟨⟨hs, h0, h1⟩, hbr, hnw, hou, hop⟩ := id hm
    have hoo := hou pp
    have hp7 := zpow7 (p := pp) (by omega)
    refine r_iload_n eX4_late_8 rfl rfl ?_
    refine r_aload_n eX4_late_9 rfl rfl ?_
    refine r_getf (v := .ref 2) eX4_late_10 fX4_13 rfl rfl ?_
    refine n_iconst 0 eX4_late_13 rfl ?_
    refine n_iald (f := mg_s t) (j := 0) eX4_late_14 rfl rfl (by first | omega | exact zlt (hs _) | (have := hou pp; omega)) (by decide) ?_
    refine n_icmp_ge eX4_late_15 (by first | omega | exact zlt (hs _) | (have := hou pp; omega)) (by first | omega | exact zlt (hs _) | (have := hou pp; omega)) (fun hc15 => absurd hc15 (by omega)) (fun hc15 => ?_)
    refine r_iload_n eX4_late_18 rfl rfl ?_
    refine r_aload_n eX4_late_19 rfl rfl ?_
    refine r_getf (v := .ref 7) eX4_late_20 fX4_28 rfl rfl ?_
    refine r_iload_n eX4_late_23 rfl rfl ?_
    refine n_iald (f := mg_ou t) (j := pp) eX4_late_24 rfl rfl (by first | omega | exact zlt (hs _) | (have := hou pp; omega)) (by decide) ?_
    refine r_aload_n eX4_late_25 rfl rfl ?_
    refine r_iload_n eX4_late_26 rfl rfl ?_
    refine n_iconst 3 eX4_late_27 rfl ?_
    refine r_callVi2 eX4_late_28 lX4_90 (Or.inl ⟨_, _, _, rfl, rfl, rfl⟩) (s4_get (t := t) (u := u) (by omega)) (by omega) (Nat.le_of_ble_eq_true rfl) (fun r1 h1 hq => ?_)
    obtain ⟨rfl, rfl⟩ := (show r1 = nI ((mg_s t) (5 + 5 * pp + 3)) ∧ h1 = hA t u from hq)
    refine n_icmp_le eX4_late_31 (by first | omega | exact zlt (hs _) | (have := hou pp; omega)) (by first | omega | exact zlt (hs _) | (have := hou pp; omega)) (fun hc31 => ?_) (fun hc31 => ?_)
    · refine n_iconst 0 eX4_late_40 rfl ?_
      refine n_or eX4_late_41 ?_
      refine r_istore_n eX4_late_42 rfl (by decide) ?_
      refine n_iinc (k := 1) eX4_late_43 rfl (by decide) rfl ?_
      refine r_goto eX4_late_46 ?_
      refine ih (pp + 1) (la ||| 0) (by omega) ?_
      rw [zbs, hla, if_neg (by simp; omega)]
    · refine n_iconst 1 eX4_late_34 rfl ?_
      refine r_iload_n eX4_late_35 rfl rfl ?_
      refine n_shl eX4_late_36 (by first | omega | exact zlt (hs _) | (have := hou pp; omega)) (by first | omega | exact zlt (hs _) | (have := hou pp; omega)) ?_
      refine r_goto eX4_late_37 ?_
      refine n_or eX4_late_41 ?_
      refine r_istore_n eX4_late_42 rfl (by decide) ?_
      refine n_iinc (k := 1) eX4_late_43 rfl (by decide) rfl ?_
      refine r_goto eX4_late_46 ?_
      refine ih (pp + 1) (la ||| (1 * 2 ^ pp)) (by omega) ?_
      rw [zbs, hla, if_pos (by simp; omega)]
set_option maxHeartbeats 1000000 in
set_option maxRecDepth 100000 in
theorem s4_neverOut_l {t : zMod} {u : zCls} (hm : mOk t) : ∀ (k : Nat) (pp : Nat) (la : Nat) (hd : pp + k = mg_s t 0) (hla : zbs (fun p => decide (mg_ou t p = 1000000)) pp = la), Rq mX4_neverOut 6 none 8 [.ref 0, .int (nI (la)), .int (nI (pp))] [] (hA t u) (fun r h' => ∃ x, r = some x ∧ (x = nI (zbs (fun p => decide (mg_ou t p = 1000000)) (mg_s t 0)) ∧ h' = hA t u)) := by
  intro k
  induction k with
  | zero =>
    intro pp la hd hla
    obtain ⟨⟨hs, h0, h1⟩, hbr, hnw, hou, hop⟩ := id hm
    refine r_iload_n eX4_neverOut_8 rfl rfl ?_
    refine r_aload_n eX4_neverOut_9 rfl rfl ?_
    refine r_getf (v := .ref 2) eX4_neverOut_10 fX4_13 rfl rfl ?_
    refine n_iconst 0 eX4_neverOut_13 rfl ?_
    refine n_iald (f := mg_s t) (j := 0) eX4_neverOut_14 rfl rfl (by first | omega | exact zlt (hs _) | exact hou _ | exact hop _) (by decide) ?_
    refine n_icmp_ge eX4_neverOut_15 (by first | omega | exact zlt (hs _) | exact hou _ | exact hop _) (by first | omega | exact zlt (hs _) | exact hou _ | exact hop _) (fun hc15 => ?_) (fun hc15 => absurd hc15 (by omega))
    refine r_iload_n eX4_neverOut_45 rfl rfl ?_
    exact z_iret eX4_neverOut_46 rfl rfl ⟨_, rfl, by rw [← hla, show pp = mg_s t 0 by omega], rfl⟩
  | succ k ih =>
    intro pp la hd hla
    obtain ⟨⟨hs, h0, h1⟩, hbr, hnw, hou, hop⟩ := id hm
    have hoo := hou pp
    have hp7 := zpow7 (p := pp) (by omega)
    refine r_iload_n eX4_neverOut_8 rfl rfl ?_
    refine r_aload_n eX4_neverOut_9 rfl rfl ?_
    refine r_getf (v := .ref 2) eX4_neverOut_10 fX4_13 rfl rfl ?_
    refine n_iconst 0 eX4_neverOut_13 rfl ?_
    refine n_iald (f := mg_s t) (j := 0) eX4_neverOut_14 rfl rfl (by first | omega | exact zlt (hs _) | (have := hou pp; omega)) (by decide) ?_
    refine n_icmp_ge eX4_neverOut_15 (by first | omega | exact zlt (hs _) | (have := hou pp; omega)) (by first | omega | exact zlt (hs _) | (have := hou pp; omega)) (fun hc15 => absurd hc15 (by omega)) (fun hc15 => ?_)
    refine r_iload_n eX4_neverOut_18 rfl rfl ?_
    refine r_aload_n eX4_neverOut_19 rfl rfl ?_
    refine r_getf (v := .ref 7) eX4_neverOut_20 fX4_28 rfl rfl ?_
    refine r_iload_n eX4_neverOut_23 rfl rfl ?_
    refine n_iald (f := mg_ou t) (j := pp) eX4_neverOut_24 rfl rfl (by first | omega | exact zlt (hs _) | (have := hou pp; omega)) (by decide) ?_
    refine n_ldc 1000000 eX4_neverOut_25 kX4_129 rfl ?_
    refine n_icmp_ne eX4_neverOut_27 (by first | omega | exact zlt (hs _) | (have := hou pp; omega)) (by first | omega | exact zlt (hs _) | (have := hou pp; omega)) (fun hc27 => ?_) (fun hc27 => ?_)
    · refine n_iconst 0 eX4_neverOut_36 rfl ?_
      refine n_or eX4_neverOut_37 ?_
      refine r_istore_n eX4_neverOut_38 rfl (by decide) ?_
      refine n_iinc (k := 1) eX4_neverOut_39 rfl (by decide) rfl ?_
      refine r_goto eX4_neverOut_42 ?_
      refine ih (pp + 1) (la ||| 0) (by omega) ?_
      rw [zbs, hla, if_neg (by simp; omega)]
    · refine n_iconst 1 eX4_neverOut_30 rfl ?_
      refine r_iload_n eX4_neverOut_31 rfl rfl ?_
      refine n_shl eX4_neverOut_32 (by first | omega | exact zlt (hs _) | (have := hou pp; omega)) (by first | omega | exact zlt (hs _) | (have := hou pp; omega)) ?_
      refine r_goto eX4_neverOut_33 ?_
      refine n_or eX4_neverOut_37 ?_
      refine r_istore_n eX4_neverOut_38 rfl (by decide) ?_
      refine n_iinc (k := 1) eX4_neverOut_39 rfl (by decide) rfl ?_
      refine r_goto eX4_neverOut_42 ?_
      refine ih (pp + 1) (la ||| (1 * 2 ^ pp)) (by omega) ?_
      rw [zbs, hla, if_pos (by simp; omega)]
set_option maxHeartbeats 1000000 in
set_option maxRecDepth 100000 in
theorem s4_late {t : zMod} {u : zCls} (hm : mOk t) : Mi mX4_late 6 [.ref 0] (hA t u) (fun r h' => ∃ (O' P' : Nat → Nat), h' = hA (mg_re t, mg_s t, mg_im t, mg_rd t, mg_ii t, mg_tp t, mg_tl t, mg_ta t, mg_at t, O', P', mg_br t, mg_nw t, mg_fs t, mg_bc t, mg_kr t, mg_rw t, mg_rc t) u ∧ r = nI (zbs (fun p => decide (mg_s t (5 + 5 * p + 3) < sO (mg_s t) (mg_nw t) (mg_br t) p)) (mg_s t 0)) ∧ (∀ i, O' i ≤ 1000000) ∧ ∀ i, P' i ≤ 1000000) := by
  obtain ⟨⟨hs, h0, h1⟩, hbr, hnw, hou, hop⟩ := id hm
  refine Mi.of (by decide) rfl (Nat.le_of_ble_eq_true rfl) ?_
  refine r_aload_n eX4_late_0 rfl rfl ?_
  refine r_callVv0 eX4_late_1 lX4_146 (Or.inl ⟨_, _, _, rfl, rfl, rfl⟩) (s4_findsM (t := t) (u := u) hm) (by omega) (Nat.le_of_ble_eq_true rfl) (fun h1 hq => ?_)
  obtain ⟨O1, P1, hh, hO1, hou1, hP1, hop1⟩ := hq
  obtain rfl := (show h1 = hA (mg_re t, mg_s t, mg_im t, mg_rd t, mg_ii t, mg_tp t, mg_tl t, mg_ta t, mg_at t, O1, P1, mg_br t, mg_nw t, mg_fs t, mg_bc t, mg_kr t, mg_rw t, mg_rc t) u from hh)
  refine n_iconst 0 eX4_late_4 rfl ?_
  refine r_istore_n eX4_late_5 rfl (by decide) ?_
  refine n_iconst 0 eX4_late_6 rfl ?_
  refine r_istore_n eX4_late_7 rfl (by decide) ?_
  refine Rq.mono (s4_late_l (t := (mg_re t, mg_s t, mg_im t, mg_rd t, mg_ii t, mg_tp t, mg_tl t, mg_ta t, mg_at t, O1, P1, mg_br t, mg_nw t, mg_fs t, mg_bc t, mg_kr t, mg_rw t, mg_rc t)) ⟨⟨hs, h0, h1⟩, hbr, hnw, hou1, hop1⟩ (mg_s t 0) 0 0 (Nat.zero_add _) rfl) (fun r h' hq => ?_)
  obtain ⟨x, rfl, rfl, rfl⟩ := hq
  exact ⟨_, rfl, O1, P1, rfl, congrArg nI (zbs_cong (fun i hi => by show decide (mg_s t (5 + 5 * i + 3) < O1 i) = _; rw [hO1 i hi])), hou1, hop1⟩
set_option maxHeartbeats 1000000 in
set_option maxRecDepth 100000 in
theorem s4_neverOut {t : zMod} {u : zCls} (hm : mOk t) : Mi mX4_neverOut 6 [.ref 0] (hA t u) (fun r h' => ∃ (O' P' : Nat → Nat), h' = hA (mg_re t, mg_s t, mg_im t, mg_rd t, mg_ii t, mg_tp t, mg_tl t, mg_ta t, mg_at t, O', P', mg_br t, mg_nw t, mg_fs t, mg_bc t, mg_kr t, mg_rw t, mg_rc t) u ∧ r = nI (zbs (fun p => decide (sO (mg_s t) (mg_nw t) (mg_br t) p = 1000000)) (mg_s t 0)) ∧ (∀ i, O' i ≤ 1000000) ∧ ∀ i, P' i ≤ 1000000) := by
  obtain ⟨⟨hs, h0, h1⟩, hbr, hnw, hou, hop⟩ := id hm
  refine Mi.of (by decide) rfl (Nat.le_of_ble_eq_true rfl) ?_
  refine r_aload_n eX4_neverOut_0 rfl rfl ?_
  refine r_callVv0 eX4_neverOut_1 lX4_146 (Or.inl ⟨_, _, _, rfl, rfl, rfl⟩) (s4_findsM (t := t) (u := u) hm) (by omega) (Nat.le_of_ble_eq_true rfl) (fun h1 hq => ?_)
  obtain ⟨O1, P1, hh, hO1, hou1, hP1, hop1⟩ := hq
  obtain rfl := (show h1 = hA (mg_re t, mg_s t, mg_im t, mg_rd t, mg_ii t, mg_tp t, mg_tl t, mg_ta t, mg_at t, O1, P1, mg_br t, mg_nw t, mg_fs t, mg_bc t, mg_kr t, mg_rw t, mg_rc t) u from hh)
  refine n_iconst 0 eX4_neverOut_4 rfl ?_
  refine r_istore_n eX4_neverOut_5 rfl (by decide) ?_
  refine n_iconst 0 eX4_neverOut_6 rfl ?_
  refine r_istore_n eX4_neverOut_7 rfl (by decide) ?_
  refine Rq.mono (s4_neverOut_l (t := (mg_re t, mg_s t, mg_im t, mg_rd t, mg_ii t, mg_tp t, mg_tl t, mg_ta t, mg_at t, O1, P1, mg_br t, mg_nw t, mg_fs t, mg_bc t, mg_kr t, mg_rw t, mg_rc t)) ⟨⟨hs, h0, h1⟩, hbr, hnw, hou1, hop1⟩ (mg_s t 0) 0 0 (Nat.zero_add _) rfl) (fun r h' hq => ?_)
  obtain ⟨x, rfl, rfl, rfl⟩ := hq
  exact ⟨_, rfl, O1, P1, rfl, congrArg nI (zbs_cong (fun i hi => by show decide (O1 i = 1000000) = _; rw [hO1 i hi])), hou1, hop1⟩
