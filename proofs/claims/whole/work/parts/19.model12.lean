/-! THE REFERENCE: two keys whose holders are changed -/
def sSw (S : Nat → Nat) (a b : Nat) : Nat → Nat := va_up (va_up S (40 + 2 * a + 1) (S (40 + 2 * b + 1))) (40 + 2 * b + 1) (S (40 + 2 * a + 1))
theorem sSw_o {S : Nat → Nat} {a b i : Nat} (h1 : ¬ i = 40 + 2 * a + 1) (h2 : ¬ i = 40 + 2 * b + 1) : sSw S a b i = S i := by
  unfold sSw
  rw [zu_n h2, zu_n h1]
theorem sSw_a {S : Nat → Nat} {a b : Nat} (h : ¬ a = b) : sSw S a b (40 + 2 * a + 1) = S (40 + 2 * b + 1) := by
  unfold sSw
  rw [zu_n (by omega), zu_s]
theorem sSw_b (S : Nat → Nat) (a b : Nat) : sSw S a b (40 + 2 * b + 1) = S (40 + 2 * a + 1) := zu_s
theorem sSw_back {S : Nat → Nat} {a b : Nat} (h : ¬ a = b) : sSw (sSw S a b) a b = S := by
  funext i
  by_cases h1 : i = 40 + 2 * a + 1
  · rw [h1, sSw_a h, sSw_b]
  · by_cases h2 : i = 40 + 2 * b + 1
    · rw [h2, sSw_b, sSw_a h]
    · rw [sSw_o h1 h2, sSw_o h1 h2]
theorem sSw_ok {S : Nat → Nat} {a b : Nat} (h : sOk S) : sOk (sSw S a b) := by
  obtain ⟨hs, h0, h1⟩ := h
  refine ⟨fun i => ?_, ?_, ?_⟩
  · unfold sSw va_up
    split
    · exact hs _
    · split
      · exact hs _
      · exact hs _
  · rw [sSw_o (by omega) (by omega)]; exact h0
  · rw [sSw_o (by omega) (by omega)]; exact h1
theorem sSw_ky {S : Nat → Nat} {a b : Nat} (h : tKy S) (ha : a < S 1) (hb : b < S 1) : tKy (sSw S a b) := by
  intro k hk
  rw [sSw_o (by omega) (by omega)] at hk
  rw [sSw_o (S := S) (i := 0) (by omega) (by omega), sSw_o (i := 40 + 2 * k) (by omega) (by omega)]
  refine ⟨(h k hk).1, ?_⟩
  by_cases e1 : k = b
  · rw [e1, sSw_b]; exact (h a ha).2
  · by_cases e2 : k = a
    · rw [e2, sSw_a (by omega)]; exact (h b hb).2
    · rw [sSw_o (by omega) (by omega)]; exact (h k hk).2
def sRg (S : Nat → Nat) : Int32 := zrings (fun k => S (40 + 2 * k)) (fun k => S (40 + 2 * k + 1)) (S 1) (S 0)
/-- the first two, the lesser ahead -/
def zsa (f : Nat → Nat → Bool) (m : Nat) : Nat → Option Nat
  | 0 => none
  | a + 1 => match zsa f m a with
    | some x => some x
    | none => (zfind (fun b => decide (a < b) && f a b) m).map (fun b => 10 * a + b)
theorem zsa_some {f : Nat → Nat → Bool} {m a x : Nat} (h : zsa f m a = some x) : ∀ {c : Nat}, a ≤ c → zsa f m c = some x
  | 0, hc => by
    have : a = 0 := by omega
    subst this
    exact h
  | c + 1, hc => by
    by_cases e : a = c + 1
    · subst e; exact h
    · rw [zsa, zsa_some h (c := c) (by omega)]
def sSf (S : Nat → Nat) (a b : Nat) : Bool := decide (0 ≤ sRg (sSw S a b) ∧ sRg (sSw S a b) < sRg S)
set_option maxHeartbeats 1000000 in
set_option maxRecDepth 100000 in
theorem s4_changes {t : zMod} {u : zCls} {a b : Nat} (ha : a < 12) (hb : b < 12) : Mv mX4_changes 4 [.ref 0, .int (nI (a)), .int (nI (b))] (hA t u) (fun h' => h' = hA (mg_re t, (sSw (mg_s t) a b), mg_im t, mg_rd t, mg_ii t, mg_tp t, mg_tl t, mg_ta t, mg_at t, mg_ou t, mg_op t, mg_br t, mg_nw t, mg_fs t, mg_bc t, mg_kr t, mg_rw t, mg_rc t) u) := by
  refine Mv.of (by decide) rfl rfl (Nat.le_of_ble_eq_true rfl) ?_
  refine r_aload_n eX4_changes_0 rfl rfl ?_
  refine r_iload_n eX4_changes_1 rfl rfl ?_
  refine r_callVi1 eX4_changes_2 lX4_106 (Or.inl ⟨_, _, _, rfl, rfl, rfl⟩) (s4_held (t := t) (u := u) ha) (by omega) (Nat.le_of_ble_eq_true rfl) (fun r1 h1 hq => ?_)
  obtain ⟨rfl, rfl⟩ := (show r1 = nI (mg_s t (40 + 2 * a + 1)) ∧ h1 = hA t u from hq)
  refine r_istore_n eX4_changes_5 rfl (by decide) ?_
  refine r_aload_n eX4_changes_6 rfl rfl ?_
  refine r_getf (v := .ref 2) eX4_changes_7 fX4_13 rfl rfl ?_
  refine n_bipush 40 eX4_changes_10 rfl ?_
  refine n_iconst 2 eX4_changes_12 rfl ?_
  refine r_iload_n eX4_changes_13 rfl rfl ?_
  refine n_mul eX4_changes_14 ?_
  refine n_add eX4_changes_15 ?_
  refine n_iconst 1 eX4_changes_16 rfl ?_
  refine n_add eX4_changes_17 ?_
  refine r_aload_n eX4_changes_18 rfl rfl ?_
  refine r_iload_n eX4_changes_19 rfl rfl ?_
  refine r_callVi1 eX4_changes_20 lX4_106 (Or.inl ⟨_, _, _, rfl, rfl, rfl⟩) (s4_held (t := t) (u := u) hb) (by omega) (Nat.le_of_ble_eq_true rfl) (fun r1 h1 hq => ?_)
  obtain ⟨rfl, rfl⟩ := (show r1 = nI (mg_s t (40 + 2 * b + 1)) ∧ h1 = hA t u from hq)
  refine z_h (h' := hA (mg_re t, mg_s t, mg_im t, mg_rd t, mg_ii t, mg_tp t, mg_tl t, mg_ta t, mg_at t, mg_ou t, mg_op t, mg_br t, mg_nw t, mg_fs t, mg_bc t, mg_kr t, mg_rw t, mg_rc t) u) rfl ?_
  refine mw_s (j := (40 + (2 * a)) + 1) (v := mg_s t (40 + 2 * b + 1)) eX4_changes_23 rfl rfl (by omega) ?_
  refine r_aload_n eX4_changes_24 rfl rfl ?_
  refine r_getf (v := .ref 2) eX4_changes_25 fX4_13 rfl rfl ?_
  refine n_bipush 40 eX4_changes_28 rfl ?_
  refine n_iconst 2 eX4_changes_30 rfl ?_
  refine r_iload_n eX4_changes_31 rfl rfl ?_
  refine n_mul eX4_changes_32 ?_
  refine n_add eX4_changes_33 ?_
  refine n_iconst 1 eX4_changes_34 rfl ?_
  refine n_add eX4_changes_35 ?_
  refine r_iload_n eX4_changes_36 rfl rfl ?_
  refine mw_s (j := (40 + (2 * b)) + 1) (v := mg_s t (40 + 2 * a + 1)) eX4_changes_37 rfl rfl (by omega) ?_
  exact z_vret eX4_changes_38 ⟨rfl, rfl⟩
set_option maxHeartbeats 1000000 in
set_option maxRecDepth 100000 in
theorem s4_swap_i {t : zMod} {u : zCls} (hm : mOk t) (hk : tKy (mg_s t)) {a : Nat} (ha : a < mg_s t 1) (hza : zsa (sSf (mg_s t)) (mg_s t 1) a = none) (kk : ∀ (b9 : Nat) (v9 : Value), zsa (sSf (mg_s t)) (mg_s t 1) (a + 1) = none → Rq mX4_swap 10 none 77 [.ref 0, .int (sRg (mg_s t)), .int (nI a), .int (nI b9), v9] [] (hA (mg_re t, (mg_s t), mg_im t, mg_rd t, mg_ii t, mg_tp t, mg_tl t, mg_ta t, mg_at t, mg_ou t, mg_op t, mg_br t, mg_nw t, mg_fs t, mg_bc t, mg_kr t, mg_rw t, mg_rc t) u) (fun r h' => ∃ x, r = some x ∧ (x = zor (zsa (sSf (mg_s t)) (mg_s t 1) (mg_s t 1)) ∧ h' = hA t u))) : ∀ (k : Nat) (b : Nat) (v4 : Value) (hd : b + k = mg_s t 1) (hab : a < b) (hno : ∀ j, j < b → (decide (a < j) && sSf (mg_s t) a j) = false), Rq mX4_swap 10 none 25 [.ref 0, .int (sRg (mg_s t)), .int (nI (a)), .int (nI (b)), v4] [] (hA (mg_re t, (mg_s t), mg_im t, mg_rd t, mg_ii t, mg_tp t, mg_tl t, mg_ta t, mg_at t, mg_ou t, mg_op t, mg_br t, mg_nw t, mg_fs t, mg_bc t, mg_kr t, mg_rw t, mg_rc t) u) (fun r h' => ∃ x, r = some x ∧ (x = zor (zsa (sSf (mg_s t)) (mg_s t 1) (mg_s t 1)) ∧ h' = hA t u)) := by
  intro k
  induction k with
  | zero =>
    intro b v4 hd hab hno
    obtain ⟨⟨hs, h0, h1⟩, hbr, hnw, hou, hop⟩ := id hm
    have hs1 : mg_s t 1 ≤ 12 := h1
    refine r_iload_n eX4_swap_25 rfl rfl ?_
    refine r_aload_n eX4_swap_26 rfl rfl ?_
    refine r_getf (v := .ref 2) eX4_swap_27 fX4_13 rfl rfl ?_
    refine n_iconst 1 eX4_swap_30 rfl ?_
    refine n_iald (f := (mg_s t)) (j := 1) eX4_swap_31 rfl rfl (by omega) (by decide) ?_
    refine n_icmp_ge eX4_swap_32 (by omega) (by omega) (fun hc32 => ?_) (fun hc32 => absurd hc32 (by omega))
    exact kk b v4 (by rw [zsa, hza]; dsimp only; rw [zfind_none (fun j hj => hno j (by omega))]; rfl)
  | succ k ih =>
    intro b v4 hd hab hno
    obtain ⟨⟨hs, h0, h1⟩, hbr, hnw, hou, hop⟩ := id hm
    have hs1 : mg_s t 1 ≤ 12 := h1
    refine r_iload_n eX4_swap_25 rfl rfl ?_
    refine r_aload_n eX4_swap_26 rfl rfl ?_
    refine r_getf (v := .ref 2) eX4_swap_27 fX4_13 rfl rfl ?_
    refine n_iconst 1 eX4_swap_30 rfl ?_
    refine n_iald (f := (mg_s t)) (j := 1) eX4_swap_31 rfl rfl (by omega) (by decide) ?_
    refine n_icmp_ge eX4_swap_32 (by omega) (by omega) (fun hc32 => absurd hc32 (by omega)) (fun hc32 => ?_)
    refine r_aload_n eX4_swap_35 rfl rfl ?_
    refine r_iload_n eX4_swap_36 rfl rfl ?_
    refine r_iload_n eX4_swap_37 rfl rfl ?_
    refine r_callVv2 eX4_swap_38 lX4_183 (Or.inl ⟨_, _, _, rfl, rfl, rfl⟩) (s4_changes (t := (mg_re t, (mg_s t), mg_im t, mg_rd t, mg_ii t, mg_tp t, mg_tl t, mg_ta t, mg_at t, mg_ou t, mg_op t, mg_br t, mg_nw t, mg_fs t, mg_bc t, mg_kr t, mg_rw t, mg_rc t)) (u := u) (a := a) (b := b) (by omega) (by omega)) (by omega) (Nat.le_of_ble_eq_true rfl) (fun h1 hq => ?_)
    obtain rfl := (show h1 = hA (mg_re t, (sSw (mg_s t) a b), mg_im t, mg_rd t, mg_ii t, mg_tp t, mg_tl t, mg_ta t, mg_at t, mg_ou t, mg_op t, mg_br t, mg_nw t, mg_fs t, mg_bc t, mg_kr t, mg_rw t, mg_rc t) u from hq)
    refine r_aload_n eX4_swap_41 rfl rfl ?_
    refine r_callVi0 eX4_swap_42 lX4_180 (Or.inl ⟨_, _, _, rfl, rfl, rfl⟩) (s4_ringsNow (t := (mg_re t, (sSw (mg_s t) a b), mg_im t, mg_rd t, mg_ii t, mg_tp t, mg_tl t, mg_ta t, mg_at t, mg_ou t, mg_op t, mg_br t, mg_nw t, mg_fs t, mg_bc t, mg_kr t, mg_rw t, mg_rc t)) (u := u) ⟨sSw_ok ⟨hs, h0, h1⟩, hbr, hnw, hou, hop⟩ (sSw_ky hk ha (by omega))) (by omega) (Nat.le_of_ble_eq_true rfl) (fun r1 h1 hq => ?_)
    obtain ⟨rfl, rfl⟩ := (show r1 = sRg (sSw (mg_s t) a b) ∧ h1 = hA (mg_re t, (sSw (mg_s t) a b), mg_im t, mg_rd t, mg_ii t, mg_tp t, mg_tl t, mg_ta t, mg_at t, mg_ou t, mg_op t, mg_br t, mg_nw t, mg_fs t, mg_bc t, mg_kr t, mg_rw t, mg_rc t) u from hq)
    refine r_istore eX4_swap_45 (by decide) ?_
    refine r_aload_n eX4_swap_47 rfl rfl ?_
    refine r_iload_n eX4_swap_48 rfl rfl ?_
    refine r_iload_n eX4_swap_49 rfl rfl ?_
    refine r_callVv2 eX4_swap_50 lX4_183 (Or.inl ⟨_, _, _, rfl, rfl, rfl⟩) (s4_changes (t := (mg_re t, (sSw (mg_s t) a b), mg_im t, mg_rd t, mg_ii t, mg_tp t, mg_tl t, mg_ta t, mg_at t, mg_ou t, mg_op t, mg_br t, mg_nw t, mg_fs t, mg_bc t, mg_kr t, mg_rw t, mg_rc t)) (u := u) (a := a) (b := b) (by omega) (by omega)) (by omega) (Nat.le_of_ble_eq_true rfl) (fun h1 hq => ?_)
    obtain rfl := (show h1 = hA (mg_re t, (mg_s t), mg_im t, mg_rd t, mg_ii t, mg_tp t, mg_tl t, mg_ta t, mg_at t, mg_ou t, mg_op t, mg_br t, mg_nw t, mg_fs t, mg_bc t, mg_kr t, mg_rw t, mg_rc t) u by rw [← sSw_back (S := mg_s t) (a := a) (b := b) (by omega)]; exact hq)
    refine r_iload eX4_swap_53 rfl ?_
    refine r_if_lt eX4_swap_55 (fun hc55 => ?_) (fun hc55 => ?_)
    · refine n_iinc (k := 1) eX4_swap_71 rfl (by decide) rfl ?_
      refine r_goto eX4_swap_74 ?_
      refine ih (b + 1) _ (by omega) (by omega) (fun j hj => ?_)
      by_cases e : j = b
      · subst e
        have hf9 : sSf (mg_s t) a j = false := by
          cases h9 : sSf (mg_s t) a j with
          | false => rfl
          | true => exact absurd h9 (fun z => by have := of_decide_eq_true z; exact absurd this.1 (Int32.not_le.mpr hc55))
        rw [hf9, Bool.and_false]
      · exact hno j (by omega)
    · refine r_iload eX4_swap_58 rfl ?_
      refine r_iload_n eX4_swap_60 rfl rfl ?_
      refine r_icmp_ge eX4_swap_61 (fun hc61 => ?_) (fun hc61 => ?_)
      · refine n_iinc (k := 1) eX4_swap_71 rfl (by decide) rfl ?_
        refine r_goto eX4_swap_74 ?_
        refine ih (b + 1) _ (by omega) (by omega) (fun j hj => ?_)
        by_cases e : j = b
        · subst e
          have hf9 : sSf (mg_s t) a j = false := by
            cases h9 : sSf (mg_s t) a j with
            | false => rfl
            | true => exact absurd h9 (fun z => by have := of_decide_eq_true z; exact absurd this.2 (Int32.not_lt.mpr hc61))
          rw [hf9, Bool.and_false]
        · exact hno j (by omega)
      · refine n_bipush 10 eX4_swap_64 rfl ?_
        refine r_iload_n eX4_swap_66 rfl rfl ?_
        refine n_mul eX4_swap_67 ?_
        refine r_iload_n eX4_swap_68 rfl rfl ?_
        refine n_add eX4_swap_69 ?_
        have hf9 : (decide (a < b) && sSf (mg_s t) a b) = true := by
          rw [decide_eq_true hab, Bool.true_and]
          exact decide_eq_true ⟨Int32.not_lt.mp hc55, Int32.not_le.mp hc61⟩
        have hz9 : zsa (sSf (mg_s t)) (mg_s t 1) (a + 1) = some (10 * a + b) := by
          rw [zsa, hza]
          dsimp only
          rw [zfind_some hno hf9 (by omega)]
          rfl
        exact z_iret eX4_swap_70 rfl rfl ⟨_, rfl, by rw [zsa_some hz9 (by omega)]; rfl, rfl⟩
set_option maxHeartbeats 1000000 in
set_option maxRecDepth 100000 in
theorem s4_swap_o {t : zMod} {u : zCls} (hm : mOk t) (hk : tKy (mg_s t)) : ∀ (k : Nat) (a : Nat) (v3 : Value) (v4 : Value) (hd : a + k = mg_s t 1) (hza : zsa (sSf (mg_s t)) (mg_s t 1) a = none), Rq mX4_swap 10 none 7 [.ref 0, .int (sRg (mg_s t)), .int (nI (a)), v3, v4] [] (hA (mg_re t, (mg_s t), mg_im t, mg_rd t, mg_ii t, mg_tp t, mg_tl t, mg_ta t, mg_at t, mg_ou t, mg_op t, mg_br t, mg_nw t, mg_fs t, mg_bc t, mg_kr t, mg_rw t, mg_rc t) u) (fun r h' => ∃ x, r = some x ∧ (x = zor (zsa (sSf (mg_s t)) (mg_s t 1) (mg_s t 1)) ∧ h' = hA t u)) := by
  intro k
  induction k with
  | zero =>
    intro a v3 v4 hd hza
    obtain ⟨⟨hs, h0, h1⟩, hbr, hnw, hou, hop⟩ := id hm
    have hs1 : mg_s t 1 ≤ 12 := h1
    refine r_iload_n eX4_swap_7 rfl rfl ?_
    refine r_aload_n eX4_swap_8 rfl rfl ?_
    refine r_getf (v := .ref 2) eX4_swap_9 fX4_13 rfl rfl ?_
    refine n_iconst 1 eX4_swap_12 rfl ?_
    refine n_iald (f := (mg_s t)) (j := 1) eX4_swap_13 rfl rfl (by omega) (by decide) ?_
    refine n_icmp_ge eX4_swap_14 (by omega) (by omega) (fun hc14 => ?_) (fun hc14 => absurd hc14 (by omega))
    refine r_bipush (v := (-9)) eX4_swap_83 rfl ?_
    rw [show a = mg_s t 1 by omega] at hza
    exact z_iret eX4_swap_85 rfl rfl ⟨_, rfl, by rw [hza]; rfl, rfl⟩
  | succ k ih =>
    intro a v3 v4 hd hza
    obtain ⟨⟨hs, h0, h1⟩, hbr, hnw, hou, hop⟩ := id hm
    have hs1 : mg_s t 1 ≤ 12 := h1
    refine r_iload_n eX4_swap_7 rfl rfl ?_
    refine r_aload_n eX4_swap_8 rfl rfl ?_
    refine r_getf (v := .ref 2) eX4_swap_9 fX4_13 rfl rfl ?_
    refine n_iconst 1 eX4_swap_12 rfl ?_
    refine n_iald (f := (mg_s t)) (j := 1) eX4_swap_13 rfl rfl (by omega) (by decide) ?_
    refine n_icmp_ge eX4_swap_14 (by omega) (by omega) (fun hc14 => absurd hc14 (by omega)) (fun hc14 => ?_)
    refine r_iload_n eX4_swap_17 rfl rfl ?_
    refine r_if_lt eX4_swap_18 (fun hc18 => ?_) (fun hc18 => ?_)
    · refine r_bipush (v := (-9)) eX4_swap_83 rfl ?_
      have hall : ∀ c, zsa (sSf (mg_s t)) (mg_s t 1) c = none := fun c => by
        induction c with
        | zero => rfl
        | succ c ihc =>
          rw [zsa, ihc]
          dsimp only
          rw [zfind_none (fun j hj => ?_)]
          · rfl
          · have : sSf (mg_s t) c j = false := decide_eq_false (fun z => absurd hc18 (Int32.not_lt.mpr (Int32.le_trans z.1 (Int32.le_of_lt z.2))))
            rw [this, Bool.and_false]
      exact z_iret eX4_swap_85 rfl rfl ⟨_, rfl, by rw [hall]; rfl, rfl⟩
    · refine r_iload_n eX4_swap_21 rfl rfl ?_
      refine n_iconst 1 eX4_swap_22 rfl ?_
      refine n_add eX4_swap_23 ?_
      refine r_istore_n eX4_swap_24 rfl (by decide) ?_
      refine s4_swap_i hm hk (by omega) hza (fun b9 v9 hz9 => ?_) (mg_s t 1 - (a + 1)) (a + 1) v4 (by omega) (by omega) (fun j hj => ?_)
      · refine n_iinc (k := 1) eX4_swap_77 rfl (by decide) rfl ?_
        refine r_goto eX4_swap_80 ?_
        exact ih (a + 1) (.int (nI b9)) v9 (by omega) hz9
      · rw [decide_eq_false (by omega)]; rfl
set_option maxHeartbeats 1000000 in
set_option maxRecDepth 100000 in
theorem s4_swap {t : zMod} {u : zCls} (hm : mOk t) (hk : tKy (mg_s t)) : Mi mX4_swap 10 [.ref 0] (hA t u) (fun r h' => r = zor (zsa (sSf (mg_s t)) (mg_s t 1) (mg_s t 1)) ∧ h' = hA t u) := by
  refine Mi.of (by decide) rfl (Nat.le_of_ble_eq_true rfl) ?_
  refine r_aload_n eX4_swap_0 rfl rfl ?_
  refine r_callVi0 eX4_swap_1 lX4_180 (Or.inl ⟨_, _, _, rfl, rfl, rfl⟩) (s4_ringsNow (t := t) (u := u) hm hk) (by omega) (Nat.le_of_ble_eq_true rfl) (fun r1 h1 hq => ?_)
  obtain ⟨rfl, rfl⟩ := (show r1 = sRg (mg_s t) ∧ h1 = hA t u from hq)
  refine r_istore_n eX4_swap_4 rfl (by decide) ?_
  refine n_iconst 0 eX4_swap_5 rfl ?_
  refine r_istore_n eX4_swap_6 rfl (by decide) ?_
  refine z_h (h' := hA (mg_re t, (mg_s t), mg_im t, mg_rd t, mg_ii t, mg_tp t, mg_tl t, mg_ta t, mg_at t, mg_ou t, mg_op t, mg_br t, mg_nw t, mg_fs t, mg_bc t, mg_kr t, mg_rw t, mg_rc t) u) rfl ?_
  exact s4_swap_o hm hk (mg_s t 1) 0 (.retAddr 0) (.retAddr 0) (Nat.zero_add _) rfl
