/-! THE REFERENCE: seeds; the fewest, the best, doors broken -/
set_option maxHeartbeats 1000000 in
set_option maxRecDepth 100000 in
theorem s4_seeds_k {t : zMod} {u : zCls} (hm : mOk t) {n : Nat} {z : Int32} (hn1 : 1 ≤ n) (hn : n ≤ 20) : Mi mX4_seeds 9 [.ref 0, .int (nI (n)), .int (z)] (hA t u) (fun r h' => ∃ (O' P' : Nat → Nat), h' = hA (mg_re t, mg_s t, mg_im t, mg_rd t, mg_ii t, mg_tp t, mg_tl t, mg_ta t, mg_at t, O', P', mg_br t, mg_nw t, mg_fs t, mg_bc t, (zcp (mg_s t) (mg_kr t) 64), mg_rw t, mg_rc t) u ∧ r = nI (zss (sSeedV (mg_s t) (mg_nw t) (mg_br t)) (mg_s t 0) z n).1 ∧ (∀ i, O' i ≤ 1000000) ∧ ∀ i, P' i ≤ 1000000) := by
  obtain ⟨⟨hs, h0, h1⟩, hbr, hnw, hou, hop⟩ := id hm
  refine Mi.of (by decide) rfl (Nat.le_of_ble_eq_true rfl) ?_
  refine r_iload_n eX4_seeds_0 rfl rfl ?_
  refine n_iconst 1 eX4_seeds_1 rfl ?_
  refine n_bipush 20 eX4_seeds_2 rfl ?_
  refine r_callSi3 eX4_seeds_4 lX4_44 (s4_within_k (nI_le (by omega) (by omega)) (nI_le (by omega) (by omega))) (by omega) (Nat.le_of_ble_eq_true rfl) (fun r1 h1 hq => ?_)
  obtain ⟨rfl, rfl⟩ := hq
  refine r_istore_n eX4_seeds_7 rfl (by decide) ?_
  refine r_iload_n eX4_seeds_8 rfl rfl ?_
  refine n_if_eq eX4_seeds_9 (by first | omega | exact zlt (hs _) | exact hou _ | exact hop _) (fun hc9 => ?_) (fun hc9 => absurd hc9 (by decide))
  refine r_aload_n eX4_seeds_18 rfl rfl ?_
  refine r_getf (v := .ref 2) eX4_seeds_19 fX4_13 rfl rfl ?_
  refine r_aload_n eX4_seeds_22 rfl rfl ?_
  refine r_getf (v := .ref 9) eX4_seeds_23 fX4_34 rfl rfl ?_
  refine r_callSv2 eX4_seeds_26 lX4_80 (s4_copiesTo_s_kr (t := t) (u := u) ) (by omega) (Nat.le_of_ble_eq_true rfl) (fun h1 hq => ?_)
  obtain rfl := (show h1 = hA (mg_re t, mg_s t, mg_im t, mg_rd t, mg_ii t, mg_tp t, mg_tl t, mg_ta t, mg_at t, mg_ou t, mg_op t, mg_br t, mg_nw t, mg_fs t, mg_bc t, (zcp (mg_s t) (mg_kr t) 64), mg_rw t, mg_rc t) u from hq)
  refine r_iload_n eX4_seeds_29 rfl rfl ?_
  refine r_istore eX4_seeds_30 (by decide) ?_
  refine n_iconst 0 eX4_seeds_32 rfl ?_
  refine r_istore eX4_seeds_33 (by decide) ?_
  refine n_iconst 0 eX4_seeds_35 rfl ?_
  refine r_istore eX4_seeds_36 (by decide) ?_
  exact s4_seeds_o hm hn n 0 (mg_s t) 0 z (mg_ou t) (mg_op t) (.retAddr 0) (Nat.zero_add _) (fun _ _ => rfl) rfl rfl hou hop
def zlea (cost : Nat → Nat) (ok : Nat → Bool) : Nat → Option Nat
  | 0 => none
  | s + 1 => match zlea cost ok s with
    | none => if ok s = true then some s else none
    | some b => if cost s < cost b ∧ ok s = true then some s else some b
theorem zlea_lt {cost : Nat → Nat} {ok : Nat → Bool} : ∀ {s b : Nat}, zlea cost ok s = some b → b < s
  | 0, _, h => by cases h
  | s + 1, b, h => by
    rw [zlea] at h
    cases hz : zlea cost ok s with
    | none =>
      rw [hz] at h
      dsimp only at h
      split at h
      · cases h; omega
      · cases h
    | some c =>
      have := zlea_lt hz
      rw [hz] at h
      dsimp only at h
      split at h
      · cases h; omega
      · cases h; omega
theorem zlea_n {cost : Nat → Nat} {ok : Nat → Bool} {s : Nat} (h : zlea cost ok s = none) : zlea cost ok (s + 1) = if ok s = true then some s else none := by rw [zlea, h]
theorem zlea_s {cost : Nat → Nat} {ok : Nat → Bool} {s b : Nat} (h : zlea cost ok s = some b) : zlea cost ok (s + 1) = if cost s < cost b ∧ ok s = true then some s else some b := by rw [zlea, h]
/-- of those of count c the first of least value -/
def zsoo (c : Nat) (val : Nat → Nat) : Nat → Option Nat
  | 0 => none
  | s + 1 => match zsoo c val s with
    | none => if zcnt 7 s = c then some s else none
    | some b => if zcnt 7 s = c ∧ val s < val b then some s else some b
theorem zsoo_n {c : Nat} {val : Nat → Nat} {s : Nat} (h : zsoo c val s = none) : zsoo c val (s + 1) = if zcnt 7 s = c then some s else none := by rw [zsoo, h]
theorem zsoo_s {c : Nat} {val : Nat → Nat} {s b : Nat} (h : zsoo c val s = some b) : zsoo c val (s + 1) = if zcnt 7 s = c ∧ val s < val b then some s else some b := by rw [zsoo, h]
theorem zsoo_lt {c : Nat} {val : Nat → Nat} : ∀ {s b : Nat}, zsoo c val s = some b → b < s
  | 0, _, h => by cases h
  | s + 1, b, h => by
    cases hz : zsoo c val s with
    | none =>
      rw [zsoo_n hz] at h
      split at h
      · cases h; omega
      · cases h
    | some d =>
      have := zsoo_lt hz
      rw [zsoo_s hz] at h
      split at h
      · cases h; omega
      · cases h; omega
theorem zup2_ok {S : Nat → Nat} {v : Nat} (h : sOk S) (hv : v ≤ 1000) : sOk (va_up S 2 v) := by
  obtain ⟨hs, h0, h1⟩ := h
  refine ⟨fun i => ?_, ?_, ?_⟩
  · unfold va_up
    split
    · exact hv
    · exact hs i
  · rw [zu_n (by omega)]; exact h0
  · rw [zu_n (by omega)]; exact h1
theorem zup2_same {S X : Nat → Nat} {v : Nat} (h : ∀ i, ¬ i = 2 → X i = S i) : va_up X 2 v = va_up S 2 v := by
  funext i
  by_cases e : i = 2
  · rw [e, zu_s, zu_s]
  · rw [zu_n e, zu_n e]; exact h i e
theorem zup2_back {S X : Nat → Nat} (h : ∀ i, ¬ i = 2 → X i = S i) : va_up X 2 (S 2) = S := by
  funext i
  by_cases e : i = 2
  · rw [e, zu_s]
  · rw [zu_n e]; exact h i e
theorem sAll_is {S : Nat → Nat} {nw br : Nat} (h : sOk S) : sAll S nw br ≤ 500000 ∨ sAll S nw br = 1000000 := zmx_is fun _ hi => sO_is h hi
def sFew (S : Nat → Nat) (br : Nat) : Option Nat := zlea (zcnt 7) (fun s => decide (sAll (va_up S 2 s) 1 br < 1000000)) (2 ^ S 0)
theorem zcnt_le : ∀ k v, zcnt k v ≤ k
  | 0, _ => Nat.le_refl _
  | k + 1, v => by
    have := zcnt_le k (v / 2)
    rw [zcnt]
    omega
set_option maxHeartbeats 1000000 in
set_option maxRecDepth 100000 in
theorem s4_few_l {t : zMod} {u : zCls} (hm : mOk t) {g0 : Nat} (hg0 : sFew (mg_s t) (mg_br t) = some g0) : ∀ (k : Nat) (se : Nat) (f : Option Nat) (X : Nat → Nat) (O : Nat → Nat) (P : Nat → Nat) (hd : se + k = 2 ^ mg_s t 0) (hX : ∀ i, ¬ i = 2 → X i = mg_s t i) (hX2 : X 2 ≤ 127) (hf : zlea (zcnt 7) (fun s => decide (sAll (va_up (mg_s t) 2 s) 1 (mg_br t) < 1000000)) se = f) (hO : ∀ i, O i ≤ 1000000) (hP : ∀ i, P i ≤ 1000000), Rq mX4_fewestNow 8 none 20 [.ref 0, .int (nI (mg_s t 2)), .int (nI se)] [] (hA (mg_re t, X, mg_im t, mg_rd t, mg_ii t, mg_tp t, mg_tl t, mg_ta t, mg_at t, O, P, mg_br t, 1, (zor f), mg_bc t, mg_kr t, mg_rw t, mg_rc t) u) (fun r h' => ∃ x, r = some x ∧ (∃ (O' P' : Nat → Nat), h' = hA (mg_re t, mg_s t, mg_im t, mg_rd t, mg_ii t, mg_tp t, mg_tl t, mg_ta t, mg_at t, O', P', mg_br t, 0, (nI g0), mg_bc t, mg_kr t, mg_rw t, mg_rc t) u ∧ x = nI (zcnt 7 g0) ∧ (∀ i, O' i ≤ 1000000) ∧ ∀ i, P' i ≤ 1000000)) := by
  intro k
  induction k with
  | zero =>
    intro se f X O P hd hX hX2 hf hO hP
    obtain ⟨⟨hs, h0, h1⟩, hbr, hnw, hou, hop⟩ := id hm
    have hp7 : 2 ^ mg_s t 0 ≤ 2 ^ 7 := Nat.pow_le_pow_right (by omega) h0
    have hp1 : 0 < 2 ^ mg_s t 0 := Nat.two_pow_pos _
    have hX0 : X 0 = mg_s t 0 := hX 0 (by omega)
    have hXo : sOk X := ⟨fun i => by
      by_cases e : i = 2
      · subst e; omega
      · rw [hX i e]; exact hs i, by rw [hX0]; exact h0, by rw [hX 1 (by omega)]; exact h1⟩
    cases f with
    | none =>
      have e0 : se = 2 ^ mg_s t 0 := by omega
      rw [e0] at hf
      unfold sFew at hg0
      rw [hf] at hg0
      cases hg0
    | some g =>
      have e0 : se = 2 ^ mg_s t 0 := by omega
      rw [e0] at hf
      have hgg : g = g0 := by unfold sFew at hg0; rw [hf] at hg0; exact Option.some.inj hg0
      subst hgg
      have hgl := zlea_lt hf
      refine r_iload_n eX4_fewestNow_20 rfl rfl ?_
      refine r_aload_n eX4_fewestNow_21 rfl rfl ?_
      refine r_callVi0 eX4_fewestNow_22 lX4_117 (Or.inl ⟨_, _, _, rfl, rfl, rfl⟩) (s4_everybody (t := (mg_re t, X, mg_im t, mg_rd t, mg_ii t, mg_tp t, mg_tl t, mg_ta t, mg_at t, O, P, mg_br t, 1, (nI g), mg_bc t, mg_kr t, mg_rw t, mg_rc t)) (u := u) (hXo.2.1)) (by omega) (Nat.le_of_ble_eq_true rfl) (fun r1 h1 hq => ?_)
      obtain ⟨rfl, rfl⟩ := (show r1 = nI (2 ^ X 0 - 1) ∧ h1 = hA (mg_re t, X, mg_im t, mg_rd t, mg_ii t, mg_tp t, mg_tl t, mg_ta t, mg_at t, O, P, mg_br t, 1, (nI g), mg_bc t, mg_kr t, mg_rw t, mg_rc t) u from hq)
      refine z_top (y := nI (2 ^ mg_s t 0 - 1)) (congrArg (fun q => nI (2 ^ q - 1)) hX0) ?_
      refine n_icmp_gt eX4_fewestNow_25 (by first | omega | (have := zcnt_le 7 g; omega)) (by first | omega | (have := zcnt_le 7 g; omega)) (fun hc25 => ?_) (fun hc25 => absurd hc25 (by omega))
      refine r_aload_n eX4_fewestNow_79 rfl rfl ?_
      refine n_iconst 0 eX4_fewestNow_80 rfl ?_
      refine mp_nw (v := 0) eX4_fewestNow_81 fX4_130 rfl (by omega) ?_
      refine r_aload_n eX4_fewestNow_84 rfl rfl ?_
      refine r_getf (v := .ref 2) eX4_fewestNow_85 fX4_13 rfl rfl ?_
      refine n_iconst 2 eX4_fewestNow_88 rfl ?_
      refine r_iload_n eX4_fewestNow_89 rfl rfl ?_
      refine mw_s (j := 2) (v := mg_s t 2) eX4_fewestNow_90 rfl rfl (by first | omega | (have := zcnt_le 7 g; omega)) ?_
      refine r_aload_n eX4_fewestNow_91 rfl rfl ?_
      refine r_getf (v := .int ((nI g))) eX4_fewestNow_92 fX4_158 rfl rfl ?_
      refine r_callSi1 eX4_fewestNow_95 lX4_161 (s4_bits (v := g) (by omega)) (by omega) (Nat.le_of_ble_eq_true rfl) (fun r1 h1 hq => ?_)
      obtain ⟨rfl, rfl⟩ := hq
      refine z_iret eX4_fewestNow_98 rfl rfl ⟨_, rfl, O, P, ?_, rfl, hO, hP⟩
      rw [zup2_back hX]
  | succ k ih =>
    intro se f X O P hd hX hX2 hf hO hP
    obtain ⟨⟨hs, h0, h1⟩, hbr, hnw, hou, hop⟩ := id hm
    have hp7 : 2 ^ mg_s t 0 ≤ 2 ^ 7 := Nat.pow_le_pow_right (by omega) h0
    have hp1 : 0 < 2 ^ mg_s t 0 := Nat.two_pow_pos _
    have hX0 : X 0 = mg_s t 0 := hX 0 (by omega)
    have hXo : sOk X := ⟨fun i => by
      by_cases e : i = 2
      · subst e; omega
      · rw [hX i e]; exact hs i, by rw [hX0]; exact h0, by rw [hX 1 (by omega)]; exact h1⟩
    cases f with
    | none =>
      refine r_iload_n eX4_fewestNow_20 rfl rfl ?_
      refine r_aload_n eX4_fewestNow_21 rfl rfl ?_
      refine r_callVi0 eX4_fewestNow_22 lX4_117 (Or.inl ⟨_, _, _, rfl, rfl, rfl⟩) (s4_everybody (t := (mg_re t, X, mg_im t, mg_rd t, mg_ii t, mg_tp t, mg_tl t, mg_ta t, mg_at t, O, P, mg_br t, 1, (zor none), mg_bc t, mg_kr t, mg_rw t, mg_rc t)) (u := u) (hXo.2.1)) (by omega) (Nat.le_of_ble_eq_true rfl) (fun r1 h1 hq => ?_)
      obtain ⟨rfl, rfl⟩ := (show r1 = nI (2 ^ X 0 - 1) ∧ h1 = hA (mg_re t, X, mg_im t, mg_rd t, mg_ii t, mg_tp t, mg_tl t, mg_ta t, mg_at t, O, P, mg_br t, 1, (zor none), mg_bc t, mg_kr t, mg_rw t, mg_rc t) u from hq)
      refine z_top (y := nI (2 ^ mg_s t 0 - 1)) (congrArg (fun q => nI (2 ^ q - 1)) hX0) ?_
      refine n_icmp_gt eX4_fewestNow_25 (by first | omega | (have := sAll_is (nw := 1) (br := mg_br t) (zup2_ok (v := se) ⟨hs, h0, h1⟩ (by omega)); omega) | (have := zcnt_le 7 se; have := zcnt_le 7 g; omega)) (by first | omega | (have := sAll_is (nw := 1) (br := mg_br t) (zup2_ok (v := se) ⟨hs, h0, h1⟩ (by omega)); omega) | (have := zcnt_le 7 se; have := zcnt_le 7 g; omega)) (fun hc25 => absurd hc25 (by omega)) (fun hc25 => ?_)
      refine r_aload_n eX4_fewestNow_28 rfl rfl ?_
      refine r_getf (v := .int ((zor none))) eX4_fewestNow_29 fX4_158 rfl rfl ?_
      refine r_if_lt eX4_fewestNow_32 (fun hc32 => ?_) (fun hc32 => absurd hc32 (fun z => z (by decide)))
      refine r_aload_n eX4_fewestNow_52 rfl rfl ?_
      refine r_getf (v := .ref 2) eX4_fewestNow_53 fX4_13 rfl rfl ?_
      refine n_iconst 2 eX4_fewestNow_56 rfl ?_
      refine r_iload_n eX4_fewestNow_57 rfl rfl ?_
      refine mw_s (j := 2) (v := se) eX4_fewestNow_58 rfl rfl (by first | omega | (have := sAll_is (nw := 1) (br := mg_br t) (zup2_ok (v := se) ⟨hs, h0, h1⟩ (by omega)); omega) | (have := zcnt_le 7 se; have := zcnt_le 7 g; omega)) ?_
      refine r_aload_n eX4_fewestNow_59 rfl rfl ?_
      refine r_callVi0 eX4_fewestNow_60 lX4_152 (Or.inl ⟨_, _, _, rfl, rfl, rfl⟩) (s4_allOut (t := (mg_re t, (va_up (X) (2) (se)), mg_im t, mg_rd t, mg_ii t, mg_tp t, mg_tl t, mg_ta t, mg_at t, O, P, mg_br t, 1, (zor none), mg_bc t, mg_kr t, mg_rw t, mg_rc t)) (u := u) ⟨zup2_ok hXo (by omega), hbr, (show 1 < 2 by omega), hO, hP⟩) (by omega) (Nat.le_of_ble_eq_true rfl) (fun r1 h1 hq => ?_)
      obtain ⟨O9, P9, hh, hr, hou9, hop9⟩ := hq
      obtain rfl := (show h1 = hA (mg_re t, (va_up (X) (2) (se)), mg_im t, mg_rd t, mg_ii t, mg_tp t, mg_tl t, mg_ta t, mg_at t, O9, P9, mg_br t, 1, (zor none), mg_bc t, mg_kr t, mg_rw t, mg_rc t) u from hh)
      obtain rfl : r1 = nI (sAll (va_up (mg_s t) 2 se) 1 (mg_br t)) := by rw [hr]; exact congrArg (fun q => nI (sAll q _ _)) (zup2_same hX)
      refine n_ldc 1000000 eX4_fewestNow_63 kX4_129 rfl ?_
      refine n_icmp_ge eX4_fewestNow_65 (by first | omega | (have := sAll_is (nw := 1) (br := mg_br t) (zup2_ok (v := se) ⟨hs, h0, h1⟩ (by omega)); omega) | (have := zcnt_le 7 se; have := zcnt_le 7 g; omega)) (by first | omega | (have := sAll_is (nw := 1) (br := mg_br t) (zup2_ok (v := se) ⟨hs, h0, h1⟩ (by omega)); omega) | (have := zcnt_le 7 se; have := zcnt_le 7 g; omega)) (fun hc65 => ?_) (fun hc65 => ?_)
      · refine n_iinc (k := 1) eX4_fewestNow_73 rfl (by decide) rfl ?_
        refine r_goto eX4_fewestNow_76 ?_
        have hge : ¬ sAll (va_up (mg_s t) 2 se) 1 (mg_br t) < 1000000 := by omega
        exact ih (se + 1) none (va_up (X) (2) (se)) O9 P9 (by omega) (fun i hi => by rw [zu_n hi]; exact hX i hi) (by rw [zu_s]; omega) (by rw [zlea_n hf, if_neg (fun z => absurd (of_decide_eq_true z) hge)]) hou9 hop9
      · refine r_aload_n eX4_fewestNow_68 rfl rfl ?_
        refine r_iload_n eX4_fewestNow_69 rfl rfl ?_
        refine mp_fs eX4_fewestNow_70 fX4_158 ?_
        refine n_iinc (k := 1) eX4_fewestNow_73 rfl (by decide) rfl ?_
        refine r_goto eX4_fewestNow_76 ?_
        have hlt : sAll (va_up (mg_s t) 2 se) 1 (mg_br t) < 1000000 := by omega
        exact ih (se + 1) (some se) (va_up (X) (2) (se)) O9 P9 (by omega) (fun i hi => by rw [zu_n hi]; exact hX i hi) (by rw [zu_s]; omega) (by rw [zlea_n hf, if_pos (decide_eq_true hlt)]) hou9 hop9
    | some g =>
      have hgl := zlea_lt hf
      refine r_iload_n eX4_fewestNow_20 rfl rfl ?_
      refine r_aload_n eX4_fewestNow_21 rfl rfl ?_
      refine r_callVi0 eX4_fewestNow_22 lX4_117 (Or.inl ⟨_, _, _, rfl, rfl, rfl⟩) (s4_everybody (t := (mg_re t, X, mg_im t, mg_rd t, mg_ii t, mg_tp t, mg_tl t, mg_ta t, mg_at t, O, P, mg_br t, 1, (nI g), mg_bc t, mg_kr t, mg_rw t, mg_rc t)) (u := u) (hXo.2.1)) (by omega) (Nat.le_of_ble_eq_true rfl) (fun r1 h1 hq => ?_)
      obtain ⟨rfl, rfl⟩ := (show r1 = nI (2 ^ X 0 - 1) ∧ h1 = hA (mg_re t, X, mg_im t, mg_rd t, mg_ii t, mg_tp t, mg_tl t, mg_ta t, mg_at t, O, P, mg_br t, 1, (nI g), mg_bc t, mg_kr t, mg_rw t, mg_rc t) u from hq)
      refine z_top (y := nI (2 ^ mg_s t 0 - 1)) (congrArg (fun q => nI (2 ^ q - 1)) hX0) ?_
      refine n_icmp_gt eX4_fewestNow_25 (by first | omega | (have := sAll_is (nw := 1) (br := mg_br t) (zup2_ok (v := se) ⟨hs, h0, h1⟩ (by omega)); omega) | (have := zcnt_le 7 se; have := zcnt_le 7 g; omega)) (by first | omega | (have := sAll_is (nw := 1) (br := mg_br t) (zup2_ok (v := se) ⟨hs, h0, h1⟩ (by omega)); omega) | (have := zcnt_le 7 se; have := zcnt_le 7 g; omega)) (fun hc25 => absurd hc25 (by omega)) (fun hc25 => ?_)
      refine r_aload_n eX4_fewestNow_28 rfl rfl ?_
      refine r_getf (v := .int ((nI g))) eX4_fewestNow_29 fX4_158 rfl rfl ?_
      refine r_if_lt eX4_fewestNow_32 (fun hc32 => absurd hc32 (nI_pos (by omega))) (fun hc32 => ?_)
      refine r_iload_n eX4_fewestNow_35 rfl rfl ?_
      refine r_callSi1 eX4_fewestNow_36 lX4_161 (s4_bits (v := se) (by omega)) (by omega) (Nat.le_of_ble_eq_true rfl) (fun r1 h1 hq => ?_)
      obtain ⟨rfl, rfl⟩ := hq
      refine r_aload_n eX4_fewestNow_39 rfl rfl ?_
      refine r_getf (v := .int ((nI g))) eX4_fewestNow_40 fX4_158 rfl rfl ?_
      refine r_callSi1 eX4_fewestNow_43 lX4_161 (s4_bits (v := g) (by omega)) (by omega) (Nat.le_of_ble_eq_true rfl) (fun r1 h1 hq => ?_)
      obtain ⟨rfl, rfl⟩ := hq
      refine n_icmp_lt eX4_fewestNow_46 (by first | omega | (have := sAll_is (nw := 1) (br := mg_br t) (zup2_ok (v := se) ⟨hs, h0, h1⟩ (by omega)); omega) | (have := zcnt_le 7 se; have := zcnt_le 7 g; omega)) (by first | omega | (have := sAll_is (nw := 1) (br := mg_br t) (zup2_ok (v := se) ⟨hs, h0, h1⟩ (by omega)); omega) | (have := zcnt_le 7 se; have := zcnt_le 7 g; omega)) (fun hc46 => ?_) (fun hc46 => ?_)
      · refine r_aload_n eX4_fewestNow_52 rfl rfl ?_
        refine r_getf (v := .ref 2) eX4_fewestNow_53 fX4_13 rfl rfl ?_
        refine n_iconst 2 eX4_fewestNow_56 rfl ?_
        refine r_iload_n eX4_fewestNow_57 rfl rfl ?_
        refine mw_s (j := 2) (v := se) eX4_fewestNow_58 rfl rfl (by first | omega | (have := sAll_is (nw := 1) (br := mg_br t) (zup2_ok (v := se) ⟨hs, h0, h1⟩ (by omega)); omega) | (have := zcnt_le 7 se; have := zcnt_le 7 g; omega)) ?_
        refine r_aload_n eX4_fewestNow_59 rfl rfl ?_
        refine r_callVi0 eX4_fewestNow_60 lX4_152 (Or.inl ⟨_, _, _, rfl, rfl, rfl⟩) (s4_allOut (t := (mg_re t, (va_up (X) (2) (se)), mg_im t, mg_rd t, mg_ii t, mg_tp t, mg_tl t, mg_ta t, mg_at t, O, P, mg_br t, 1, (nI g), mg_bc t, mg_kr t, mg_rw t, mg_rc t)) (u := u) ⟨zup2_ok hXo (by omega), hbr, (show 1 < 2 by omega), hO, hP⟩) (by omega) (Nat.le_of_ble_eq_true rfl) (fun r1 h1 hq => ?_)
        obtain ⟨O9, P9, hh, hr, hou9, hop9⟩ := hq
        obtain rfl := (show h1 = hA (mg_re t, (va_up (X) (2) (se)), mg_im t, mg_rd t, mg_ii t, mg_tp t, mg_tl t, mg_ta t, mg_at t, O9, P9, mg_br t, 1, (nI g), mg_bc t, mg_kr t, mg_rw t, mg_rc t) u from hh)
        obtain rfl : r1 = nI (sAll (va_up (mg_s t) 2 se) 1 (mg_br t)) := by rw [hr]; exact congrArg (fun q => nI (sAll q _ _)) (zup2_same hX)
        refine n_ldc 1000000 eX4_fewestNow_63 kX4_129 rfl ?_
        refine n_icmp_ge eX4_fewestNow_65 (by first | omega | (have := sAll_is (nw := 1) (br := mg_br t) (zup2_ok (v := se) ⟨hs, h0, h1⟩ (by omega)); omega) | (have := zcnt_le 7 se; have := zcnt_le 7 g; omega)) (by first | omega | (have := sAll_is (nw := 1) (br := mg_br t) (zup2_ok (v := se) ⟨hs, h0, h1⟩ (by omega)); omega) | (have := zcnt_le 7 se; have := zcnt_le 7 g; omega)) (fun hc65 => ?_) (fun hc65 => ?_)
        · refine n_iinc (k := 1) eX4_fewestNow_73 rfl (by decide) rfl ?_
          refine r_goto eX4_fewestNow_76 ?_
          have hge : ¬ sAll (va_up (mg_s t) 2 se) 1 (mg_br t) < 1000000 := by omega
          exact ih (se + 1) (some g) (va_up (X) (2) (se)) O9 P9 (by omega) (fun i hi => by rw [zu_n hi]; exact hX i hi) (by rw [zu_s]; omega) (by rw [zlea_s hf, if_neg (fun z => absurd (of_decide_eq_true z.2) hge)]) hou9 hop9
        · refine r_aload_n eX4_fewestNow_68 rfl rfl ?_
          refine r_iload_n eX4_fewestNow_69 rfl rfl ?_
          refine mp_fs eX4_fewestNow_70 fX4_158 ?_
          refine n_iinc (k := 1) eX4_fewestNow_73 rfl (by decide) rfl ?_
          refine r_goto eX4_fewestNow_76 ?_
          have hlt : sAll (va_up (mg_s t) 2 se) 1 (mg_br t) < 1000000 := by omega
          exact ih (se + 1) (some se) (va_up (X) (2) (se)) O9 P9 (by omega) (fun i hi => by rw [zu_n hi]; exact hX i hi) (by rw [zu_s]; omega) (by rw [zlea_s hf, if_pos ⟨hc46, decide_eq_true hlt⟩]) hou9 hop9
      · refine r_goto eX4_fewestNow_49 ?_
        refine n_iinc (k := 1) eX4_fewestNow_73 rfl (by decide) rfl ?_
        refine r_goto eX4_fewestNow_76 ?_
        exact ih (se + 1) (some g) X O P (by omega) hX hX2 (by rw [zlea_s hf, if_neg (fun z => by omega)]) hO hP
set_option maxHeartbeats 1000000 in
set_option maxRecDepth 100000 in
theorem s4_fewestNow {t : zMod} {u : zCls} (hm : mOk t) {g0 : Nat} (hg0 : sFew (mg_s t) (mg_br t) = some g0) (hw : mg_s t 2 ≤ 127) : Mi mX4_fewestNow 8 [.ref 0] (hA t u) (fun r h' => ∃ (O' P' : Nat → Nat), h' = hA (mg_re t, mg_s t, mg_im t, mg_rd t, mg_ii t, mg_tp t, mg_tl t, mg_ta t, mg_at t, O', P', mg_br t, 0, (nI g0), mg_bc t, mg_kr t, mg_rw t, mg_rc t) u ∧ r = nI (zcnt 7 g0) ∧ (∀ i, O' i ≤ 1000000) ∧ ∀ i, P' i ≤ 1000000) := by
  obtain ⟨⟨hs, h0, h1⟩, hbr, hnw, hou, hop⟩ := id hm
  refine Mi.of (by decide) rfl (Nat.le_of_ble_eq_true rfl) ?_
  refine r_aload_n eX4_fewestNow_0 rfl rfl ?_
  refine r_getf (v := .ref 2) eX4_fewestNow_1 fX4_13 rfl rfl ?_
  refine n_iconst 2 eX4_fewestNow_4 rfl ?_
  refine n_iald (f := mg_s t) (j := 2) eX4_fewestNow_5 rfl rfl (by first | omega | exact zlt (hs _) | exact hou _ | exact hop _) (by decide) ?_
  refine r_istore_n eX4_fewestNow_6 rfl (by decide) ?_
  refine r_aload_n eX4_fewestNow_7 rfl rfl ?_
  refine r_bipush (v := (-9)) eX4_fewestNow_8 rfl ?_
  refine z_h (h' := hA (mg_re t, mg_s t, mg_im t, mg_rd t, mg_ii t, mg_tp t, mg_tl t, mg_ta t, mg_at t, mg_ou t, mg_op t, mg_br t, mg_nw t, mg_fs t, mg_bc t, mg_kr t, mg_rw t, mg_rc t) u) rfl ?_
  refine mp_fs eX4_fewestNow_10 fX4_158 ?_
  refine r_aload_n eX4_fewestNow_13 rfl rfl ?_
  refine n_iconst 1 eX4_fewestNow_14 rfl ?_
  refine mp_nw (v := 1) eX4_fewestNow_15 fX4_130 rfl (by omega) ?_
  refine n_iconst 0 eX4_fewestNow_18 rfl ?_
  refine r_istore_n eX4_fewestNow_19 rfl (by decide) ?_
  refine z_h (h' := hA (mg_re t, (mg_s t), mg_im t, mg_rd t, mg_ii t, mg_tp t, mg_tl t, mg_ta t, mg_at t, (mg_ou t), (mg_op t), mg_br t, 1, (zor none), mg_bc t, mg_kr t, mg_rw t, mg_rc t) u) rfl ?_
  exact s4_few_l hm hg0 (2 ^ mg_s t 0) 0 none (mg_s t) (mg_ou t) (mg_op t) (Nat.zero_add _) (fun _ _ => rfl) hw rfl hou hop
set_option maxHeartbeats 1000000 in
set_option maxRecDepth 100000 in
theorem s4_fewest_o {t : zMod} {u : zCls} (hm : mOk t) {x : Int32} (hx : x < 0 ∨ nI 2 ≤ x) : Mi mX4_fewest 10 [.ref 0, .int (x)] (hA t u) (fun r h' => r = (-2) ∧ h' = hA ((va_up (mg_re t) 2 (mg_re t 2 + 1)), mg_s t, mg_im t, mg_rd t, mg_ii t, mg_tp t, mg_tl t, mg_ta t, mg_at t, mg_ou t, mg_op t, mg_br t, mg_nw t, mg_fs t, mg_bc t, mg_kr t, mg_rw t, mg_rc t) u) := by
  refine Mi.of (by decide) rfl (Nat.le_of_ble_eq_true rfl) ?_
  refine r_iload_n eX4_fewest_0 rfl rfl ?_
  refine n_iconst 2 eX4_fewest_1 rfl ?_
  refine r_callSi2 eX4_fewest_2 lX4_40 (s4_isIn_n hx) (by omega) (Nat.le_of_ble_eq_true rfl) (fun r1 h1 hq => ?_)
  obtain ⟨rfl, rfl⟩ := hq
  refine n_if_ne eX4_fewest_5 (by first | omega | exact zlt (hs _) | exact hou _ | exact hop _) (fun hc5 => absurd hc5 (by decide)) (fun hc5 => ?_)
  refine r_aload_n eX4_fewest_8 rfl rfl ?_
  refine r_bipush (v := (-2)) eX4_fewest_9 rfl ?_
  refine r_callVi1 eX4_fewest_11 lX4_52 (Or.inl ⟨_, _, _, rfl, rfl, rfl⟩) (s4_refuse (t := t) (u := u) (x := (-2)) (c := 2) (by decide) (by decide)) (by omega) (Nat.le_of_ble_eq_true rfl) (fun r1 h1 hq => ?_)
  obtain ⟨rfl, rfl⟩ := (show r1 = (-2) ∧ h1 = hA ((va_up (mg_re t) 2 ((mg_re t) 2 + 1)), mg_s t, mg_im t, mg_rd t, mg_ii t, mg_tp t, mg_tl t, mg_ta t, mg_at t, mg_ou t, mg_op t, mg_br t, mg_nw t, mg_fs t, mg_bc t, mg_kr t, mg_rw t, mg_rc t) u from hq)
  exact z_iret eX4_fewest_14 rfl rfl ⟨_, rfl, rfl, rfl⟩
set_option maxHeartbeats 1000000 in
set_option maxRecDepth 100000 in
theorem s4_fewest_0 {t : zMod} {u : zCls} (hm : mOk t) {g0 : Nat} (hg0 : sFew (mg_s t) (mg_br t) = some g0) (hw : mg_s t 2 ≤ 127) : Mi mX4_fewest 10 [.ref 0, .int (nI (0))] (hA t u) (fun r h' => ∃ (O' P' : Nat → Nat), h' = hA (mg_re t, mg_s t, mg_im t, mg_rd t, mg_ii t, mg_tp t, mg_tl t, mg_ta t, mg_at t, O', P', mg_br t, 0, (nI g0), mg_bc t, mg_kr t, mg_rw t, mg_rc t) u ∧ r = nI (zcnt 7 g0) ∧ (∀ i, O' i ≤ 1000000) ∧ ∀ i, P' i ≤ 1000000) := by
  obtain ⟨⟨hs, h0, h1⟩, hbr, hnw, hou, hop⟩ := id hm
  refine Mi.of (by decide) rfl (Nat.le_of_ble_eq_true rfl) ?_
  refine r_iload_n eX4_fewest_0 rfl rfl ?_
  refine n_iconst 2 eX4_fewest_1 rfl ?_
  refine r_callSi2 eX4_fewest_2 lX4_40 (s4_isIn_y (by decide) (by decide)) (by omega) (Nat.le_of_ble_eq_true rfl) (fun r1 h1 hq => ?_)
  obtain ⟨rfl, rfl⟩ := hq
  refine n_if_ne eX4_fewest_5 (by first | omega | exact zlt (hs _) | exact hou _ | exact hop _) (fun hc5 => ?_) (fun hc5 => absurd hc5 (by decide))
  refine r_aload_n eX4_fewest_15 rfl rfl ?_
  refine r_callVi0 eX4_fewest_16 lX4_164 (Or.inl ⟨_, _, _, rfl, rfl, rfl⟩) (s4_fewestNow (t := t) (u := u) hm hg0 hw) (by omega) (Nat.le_of_ble_eq_true rfl) (fun r1 h1 hq => ?_)
  obtain ⟨O16, P16, hh, hr, hou16, hop16⟩ := hq
  obtain rfl := (show h1 = hA (mg_re t, mg_s t, mg_im t, mg_rd t, mg_ii t, mg_tp t, mg_tl t, mg_ta t, mg_at t, O16, P16, mg_br t, 0, (nI g0), mg_bc t, mg_kr t, mg_rw t, mg_rc t) u from hh)
  obtain rfl := (show r1 = nI (zcnt 7 g0) from hr)
  refine r_istore_n eX4_fewest_19 rfl (by decide) ?_
  refine r_iload_n eX4_fewest_20 rfl rfl ?_
  refine n_if_ne eX4_fewest_21 (by first | omega | exact zlt (hs _) | exact hou _ | exact hop _) (fun hc21 => absurd hc21 (by decide)) (fun hc21 => ?_)
  refine r_iload_n eX4_fewest_24 rfl rfl ?_
  refine r_goto eX4_fewest_25 ?_
  exact z_iret eX4_fewest_32 rfl rfl ⟨_, rfl, O16, P16, rfl, rfl, hou16, hop16⟩
set_option maxHeartbeats 1000000 in
set_option maxRecDepth 100000 in
theorem s4_fewest_1 {t : zMod} {u : zCls} (hm : mOk t) {g0 : Nat} (hg0 : sFew (mg_s t) (mg_br t) = some g0) (hw : mg_s t 2 ≤ 127) : Mi mX4_fewest 10 [.ref 0, .int (nI (1))] (hA t u) (fun r h' => ∃ (O' P' : Nat → Nat), h' = hA (mg_re t, mg_s t, mg_im t, mg_rd t, mg_ii t, mg_tp t, mg_tl t, mg_ta t, mg_at t, O', P', mg_br t, 0, (nI g0), mg_bc t, mg_kr t, mg_rw t, mg_rc t) u ∧ r = nI g0 ∧ (∀ i, O' i ≤ 1000000) ∧ ∀ i, P' i ≤ 1000000) := by
  obtain ⟨⟨hs, h0, h1⟩, hbr, hnw, hou, hop⟩ := id hm
  refine Mi.of (by decide) rfl (Nat.le_of_ble_eq_true rfl) ?_
  refine r_iload_n eX4_fewest_0 rfl rfl ?_
  refine n_iconst 2 eX4_fewest_1 rfl ?_
  refine r_callSi2 eX4_fewest_2 lX4_40 (s4_isIn_y (by decide) (by decide)) (by omega) (Nat.le_of_ble_eq_true rfl) (fun r1 h1 hq => ?_)
  obtain ⟨rfl, rfl⟩ := hq
  refine n_if_ne eX4_fewest_5 (by first | omega | exact zlt (hs _) | exact hou _ | exact hop _) (fun hc5 => ?_) (fun hc5 => absurd hc5 (by decide))
  refine r_aload_n eX4_fewest_15 rfl rfl ?_
  refine r_callVi0 eX4_fewest_16 lX4_164 (Or.inl ⟨_, _, _, rfl, rfl, rfl⟩) (s4_fewestNow (t := t) (u := u) hm hg0 hw) (by omega) (Nat.le_of_ble_eq_true rfl) (fun r1 h1 hq => ?_)
  obtain ⟨O16, P16, hh, hr, hou16, hop16⟩ := hq
  obtain rfl := (show h1 = hA (mg_re t, mg_s t, mg_im t, mg_rd t, mg_ii t, mg_tp t, mg_tl t, mg_ta t, mg_at t, O16, P16, mg_br t, 0, (nI g0), mg_bc t, mg_kr t, mg_rw t, mg_rc t) u from hh)
  obtain rfl := (show r1 = nI (zcnt 7 g0) from hr)
  refine r_istore_n eX4_fewest_19 rfl (by decide) ?_
  refine r_iload_n eX4_fewest_20 rfl rfl ?_
  refine n_if_ne eX4_fewest_21 (by first | omega | exact zlt (hs _) | exact hou _ | exact hop _) (fun hc21 => ?_) (fun hc21 => absurd hc21 (by decide))
  refine r_aload_n eX4_fewest_28 rfl rfl ?_
  refine r_getf (v := .int ((nI g0))) eX4_fewest_29 fX4_158 rfl rfl ?_
  exact z_iret eX4_fewest_32 rfl rfl ⟨_, rfl, O16, P16, rfl, rfl, hou16, hop16⟩
def zleast (val : Nat → Nat) : Option Nat → Nat
  | none => 0
  | some b => val b
set_option maxHeartbeats 1000000 in
set_option maxRecDepth 100000 in
theorem s4_soo_l0 {t : zMod} {u : zCls} (hm : mOk t) {c b0 : Nat} (hc : c ≤ 7) (hb0 : zsoo c (fun s => sAll (va_up (mg_s t) 2 s) (mg_nw t) (mg_br t)) (2 ^ mg_s t 0) = some b0) : ∀ (k : Nat) (se : Nat) (f : Option Nat) (X : Nat → Nat) (O : Nat → Nat) (P : Nat → Nat) (v7 : Value) (hd : se + k = 2 ^ mg_s t 0) (hX : ∀ i, ¬ i = 2 → X i = mg_s t i) (hX2 : X 2 ≤ 127) (hf : zsoo c (fun s => sAll (va_up (mg_s t) 2 s) (mg_nw t) (mg_br t)) se = f) (hO : ∀ i, O i ≤ 1000000) (hP : ∀ i, P i ≤ 1000000), Rq mX4_soonest 10 none 37 [.ref 0, .int (nI 0), .int (nI c), .int (nI (mg_s t 2)), .int (zor f), .int (nI (zleast (fun s => sAll (va_up (mg_s t) 2 s) (mg_nw t) (mg_br t)) f)), .int (nI se), v7] [] (hA (mg_re t, X, mg_im t, mg_rd t, mg_ii t, mg_tp t, mg_tl t, mg_ta t, mg_at t, O, P, mg_br t, mg_nw t, mg_fs t, mg_bc t, mg_kr t, mg_rw t, mg_rc t) u) (fun r h' => ∃ x, r = some x ∧ (∃ (O' P' : Nat → Nat), h' = hA (mg_re t, mg_s t, mg_im t, mg_rd t, mg_ii t, mg_tp t, mg_tl t, mg_ta t, mg_at t, O', P', mg_br t, mg_nw t, mg_fs t, mg_bc t, mg_kr t, mg_rw t, mg_rc t) u ∧ x = nI b0 ∧ (∀ i, O' i ≤ 1000000) ∧ ∀ i, P' i ≤ 1000000)) := by
  intro k
  induction k with
  | zero =>
    intro se f X O P v7 hd hX hX2 hf hO hP
    obtain ⟨⟨hs, h0, h1⟩, hbr, hnw, hou, hop⟩ := id hm
    have hp7 : 2 ^ mg_s t 0 ≤ 2 ^ 7 := Nat.pow_le_pow_right (by omega) h0
    have hp1 : 0 < 2 ^ mg_s t 0 := Nat.two_pow_pos _
    have hX0 : X 0 = mg_s t 0 := hX 0 (by omega)
    have hXo : sOk X := ⟨fun i => by
      by_cases e : i = 2
      · subst e; omega
      · rw [hX i e]; exact hs i, by rw [hX0]; exact h0, by rw [hX 1 (by omega)]; exact h1⟩
    cases f with
    | none =>
      have e0 : se = 2 ^ mg_s t 0 := by omega
      rw [e0, hb0] at hf
      cases hf
    | some b =>
      have e0 : se = 2 ^ mg_s t 0 := by omega
      rw [e0, hb0] at hf
      have hbb : b0 = b := Option.some.inj hf
      subst hbb
      have hgl := zsoo_lt hb0
      refine z_ls (ls' := [.ref 0, .int (nI 0), .int (nI c), .int (nI (mg_s t 2)), .int (nI (b0)), .int (nI (sAll (va_up (mg_s t) 2 b0) (mg_nw t) (mg_br t))), .int (nI se), v7]) rfl ?_
      refine r_iload eX4_soonest_37 rfl ?_
      refine r_aload_n eX4_soonest_39 rfl rfl ?_
      refine r_callVi0 eX4_soonest_40 lX4_117 (Or.inl ⟨_, _, _, rfl, rfl, rfl⟩) (s4_everybody (t := (mg_re t, X, mg_im t, mg_rd t, mg_ii t, mg_tp t, mg_tl t, mg_ta t, mg_at t, O, P, mg_br t, mg_nw t, mg_fs t, mg_bc t, mg_kr t, mg_rw t, mg_rc t)) (u := u) (hXo.2.1)) (by omega) (Nat.le_of_ble_eq_true rfl) (fun r1 h1 hq => ?_)
      obtain ⟨rfl, rfl⟩ := (show r1 = nI (2 ^ X 0 - 1) ∧ h1 = hA (mg_re t, X, mg_im t, mg_rd t, mg_ii t, mg_tp t, mg_tl t, mg_ta t, mg_at t, O, P, mg_br t, mg_nw t, mg_fs t, mg_bc t, mg_kr t, mg_rw t, mg_rc t) u from hq)
      refine z_top (y := nI (2 ^ mg_s t 0 - 1)) (congrArg (fun q => nI (2 ^ q - 1)) hX0) ?_
      refine n_icmp_gt eX4_soonest_43 (by first | omega | (have := sAll_is (nw := mg_nw t) (br := mg_br t) (zup2_ok (v := se) ⟨hs, h0, h1⟩ (by omega)); (try have := sAll_is (nw := mg_nw t) (br := mg_br t) (zup2_ok (v := b) ⟨hs, h0, h1⟩ (by omega))); omega) | (have := zcnt_le 7 se; omega)) (by first | omega | (have := sAll_is (nw := mg_nw t) (br := mg_br t) (zup2_ok (v := se) ⟨hs, h0, h1⟩ (by omega)); (try have := sAll_is (nw := mg_nw t) (br := mg_br t) (zup2_ok (v := b) ⟨hs, h0, h1⟩ (by omega))); omega) | (have := zcnt_le 7 se; omega)) (fun hc43 => ?_) (fun hc43 => absurd hc43 (by omega))
      refine r_aload_n eX4_soonest_101 rfl rfl ?_
      refine r_getf (v := .ref 2) eX4_soonest_102 fX4_13 rfl rfl ?_
      refine n_iconst 2 eX4_soonest_105 rfl ?_
      refine r_iload_n eX4_soonest_106 rfl rfl ?_
      refine mw_s (j := 2) (v := mg_s t 2) eX4_soonest_107 rfl rfl (by first | omega | (have := sAll_is (nw := mg_nw t) (br := mg_br t) (zup2_ok (v := se) ⟨hs, h0, h1⟩ (by omega)); (try have := sAll_is (nw := mg_nw t) (br := mg_br t) (zup2_ok (v := b) ⟨hs, h0, h1⟩ (by omega))); omega) | (have := zcnt_le 7 se; omega)) ?_
      refine r_iload_n eX4_soonest_108 rfl rfl ?_
      refine n_if_ne eX4_soonest_109 (by first | omega | (have := sAll_is (nw := mg_nw t) (br := mg_br t) (zup2_ok (v := se) ⟨hs, h0, h1⟩ (by omega)); (try have := sAll_is (nw := mg_nw t) (br := mg_br t) (zup2_ok (v := b) ⟨hs, h0, h1⟩ (by omega))); omega) | (have := zcnt_le 7 se; omega)) (fun hc109 => absurd hc109 (by decide)) (fun hc109 => ?_)
      refine r_iload eX4_soonest_112 rfl ?_
      refine r_goto eX4_soonest_114 ?_
      refine z_iret eX4_soonest_122 rfl rfl ⟨_, rfl, O, P, ?_, rfl, hO, hP⟩
      rw [zup2_back hX]
  | succ k ih =>
    intro se f X O P v7 hd hX hX2 hf hO hP
    obtain ⟨⟨hs, h0, h1⟩, hbr, hnw, hou, hop⟩ := id hm
    have hp7 : 2 ^ mg_s t 0 ≤ 2 ^ 7 := Nat.pow_le_pow_right (by omega) h0
    have hp1 : 0 < 2 ^ mg_s t 0 := Nat.two_pow_pos _
    have hX0 : X 0 = mg_s t 0 := hX 0 (by omega)
    have hXo : sOk X := ⟨fun i => by
      by_cases e : i = 2
      · subst e; omega
      · rw [hX i e]; exact hs i, by rw [hX0]; exact h0, by rw [hX 1 (by omega)]; exact h1⟩
    cases f with
    | none =>
      refine r_iload eX4_soonest_37 rfl ?_
      refine r_aload_n eX4_soonest_39 rfl rfl ?_
      refine r_callVi0 eX4_soonest_40 lX4_117 (Or.inl ⟨_, _, _, rfl, rfl, rfl⟩) (s4_everybody (t := (mg_re t, X, mg_im t, mg_rd t, mg_ii t, mg_tp t, mg_tl t, mg_ta t, mg_at t, O, P, mg_br t, mg_nw t, mg_fs t, mg_bc t, mg_kr t, mg_rw t, mg_rc t)) (u := u) (hXo.2.1)) (by omega) (Nat.le_of_ble_eq_true rfl) (fun r1 h1 hq => ?_)
      obtain ⟨rfl, rfl⟩ := (show r1 = nI (2 ^ X 0 - 1) ∧ h1 = hA (mg_re t, X, mg_im t, mg_rd t, mg_ii t, mg_tp t, mg_tl t, mg_ta t, mg_at t, O, P, mg_br t, mg_nw t, mg_fs t, mg_bc t, mg_kr t, mg_rw t, mg_rc t) u from hq)
      refine z_top (y := nI (2 ^ mg_s t 0 - 1)) (congrArg (fun q => nI (2 ^ q - 1)) hX0) ?_
      refine n_icmp_gt eX4_soonest_43 (by first | omega | (have := sAll_is (nw := mg_nw t) (br := mg_br t) (zup2_ok (v := se) ⟨hs, h0, h1⟩ (by omega)); (try have := sAll_is (nw := mg_nw t) (br := mg_br t) (zup2_ok (v := b) ⟨hs, h0, h1⟩ (by omega))); omega) | (have := zcnt_le 7 se; omega)) (by first | omega | (have := sAll_is (nw := mg_nw t) (br := mg_br t) (zup2_ok (v := se) ⟨hs, h0, h1⟩ (by omega)); (try have := sAll_is (nw := mg_nw t) (br := mg_br t) (zup2_ok (v := b) ⟨hs, h0, h1⟩ (by omega))); omega) | (have := zcnt_le 7 se; omega)) (fun hc43 => absurd hc43 (by omega)) (fun hc43 => ?_)
      refine r_iload eX4_soonest_46 rfl ?_
      refine r_callSi1 eX4_soonest_48 lX4_161 (s4_bits (v := se) (by omega)) (by omega) (Nat.le_of_ble_eq_true rfl) (fun r1 h1 hq => ?_)
      obtain ⟨rfl, rfl⟩ := hq
      refine r_iload_n eX4_soonest_51 rfl rfl ?_
      refine n_icmp_eq eX4_soonest_52 (by first | omega | (have := sAll_is (nw := mg_nw t) (br := mg_br t) (zup2_ok (v := se) ⟨hs, h0, h1⟩ (by omega)); (try have := sAll_is (nw := mg_nw t) (br := mg_br t) (zup2_ok (v := b) ⟨hs, h0, h1⟩ (by omega))); omega) | (have := zcnt_le 7 se; omega)) (by first | omega | (have := sAll_is (nw := mg_nw t) (br := mg_br t) (zup2_ok (v := se) ⟨hs, h0, h1⟩ (by omega)); (try have := sAll_is (nw := mg_nw t) (br := mg_br t) (zup2_ok (v := b) ⟨hs, h0, h1⟩ (by omega))); omega) | (have := zcnt_le 7 se; omega)) (fun hc52 => ?_) (fun hc52 => ?_)
      · refine r_aload_n eX4_soonest_58 rfl rfl ?_
        refine r_getf (v := .ref 2) eX4_soonest_59 fX4_13 rfl rfl ?_
        refine n_iconst 2 eX4_soonest_62 rfl ?_
        refine r_iload eX4_soonest_63 rfl ?_
        refine mw_s (j := 2) (v := se) eX4_soonest_65 rfl rfl (by first | omega | (have := sAll_is (nw := mg_nw t) (br := mg_br t) (zup2_ok (v := se) ⟨hs, h0, h1⟩ (by omega)); (try have := sAll_is (nw := mg_nw t) (br := mg_br t) (zup2_ok (v := b) ⟨hs, h0, h1⟩ (by omega))); omega) | (have := zcnt_le 7 se; omega)) ?_
        refine r_aload_n eX4_soonest_66 rfl rfl ?_
        refine r_callVi0 eX4_soonest_67 lX4_152 (Or.inl ⟨_, _, _, rfl, rfl, rfl⟩) (s4_allOut (t := (mg_re t, (va_up (X) (2) (se)), mg_im t, mg_rd t, mg_ii t, mg_tp t, mg_tl t, mg_ta t, mg_at t, O, P, mg_br t, mg_nw t, mg_fs t, mg_bc t, mg_kr t, mg_rw t, mg_rc t)) (u := u) ⟨zup2_ok hXo (by omega), hbr, hnw, hO, hP⟩) (by omega) (Nat.le_of_ble_eq_true rfl) (fun r1 h1 hq => ?_)
        obtain ⟨O9, P9, hh, hr, hou9, hop9⟩ := hq
        obtain rfl := (show h1 = hA (mg_re t, (va_up (X) (2) (se)), mg_im t, mg_rd t, mg_ii t, mg_tp t, mg_tl t, mg_ta t, mg_at t, O9, P9, mg_br t, mg_nw t, mg_fs t, mg_bc t, mg_kr t, mg_rw t, mg_rc t) u from hh)
        obtain rfl : r1 = nI (sAll (va_up (mg_s t) 2 se) (mg_nw t) (mg_br t)) := by rw [hr]; exact congrArg (fun q => nI (sAll q _ _)) (zup2_same hX)
        refine r_istore eX4_soonest_70 (by decide) ?_
        refine r_iload eX4_soonest_72 rfl ?_
        refine r_if_lt eX4_soonest_74 (fun hc74 => ?_) (fun hc74 => absurd hc74 (fun z => z (by decide)))
        refine r_iload eX4_soonest_87 rfl ?_
        refine r_istore eX4_soonest_89 (by decide) ?_
        refine r_iload eX4_soonest_91 rfl ?_
        refine r_istore eX4_soonest_93 (by decide) ?_
        refine n_iinc (k := 1) eX4_soonest_95 rfl (by decide) rfl ?_
        refine r_goto eX4_soonest_98 ?_
        exact ih (se + 1) (some se) (va_up (X) (2) (se)) O9 P9 _ (by omega) (fun i hi => by rw [zu_n hi]; exact hX i hi) (by rw [zu_s]; omega) (by rw [zsoo_n hf, if_pos hc52]) hou9 hop9
      · refine r_goto eX4_soonest_55 ?_
        refine n_iinc (k := 1) eX4_soonest_95 rfl (by decide) rfl ?_
        refine r_goto eX4_soonest_98 ?_
        exact ih (se + 1) none X O P _ (by omega) hX hX2 (by rw [zsoo_n hf, if_neg hc52]) hO hP
    | some b =>
      have hgl := zsoo_lt hf
      refine z_ls (ls' := [.ref 0, .int (nI 0), .int (nI c), .int (nI (mg_s t 2)), .int (nI (b)), .int (nI (sAll (va_up (mg_s t) 2 b) (mg_nw t) (mg_br t))), .int (nI se), v7]) rfl ?_
      refine r_iload eX4_soonest_37 rfl ?_
      refine r_aload_n eX4_soonest_39 rfl rfl ?_
      refine r_callVi0 eX4_soonest_40 lX4_117 (Or.inl ⟨_, _, _, rfl, rfl, rfl⟩) (s4_everybody (t := (mg_re t, X, mg_im t, mg_rd t, mg_ii t, mg_tp t, mg_tl t, mg_ta t, mg_at t, O, P, mg_br t, mg_nw t, mg_fs t, mg_bc t, mg_kr t, mg_rw t, mg_rc t)) (u := u) (hXo.2.1)) (by omega) (Nat.le_of_ble_eq_true rfl) (fun r1 h1 hq => ?_)
      obtain ⟨rfl, rfl⟩ := (show r1 = nI (2 ^ X 0 - 1) ∧ h1 = hA (mg_re t, X, mg_im t, mg_rd t, mg_ii t, mg_tp t, mg_tl t, mg_ta t, mg_at t, O, P, mg_br t, mg_nw t, mg_fs t, mg_bc t, mg_kr t, mg_rw t, mg_rc t) u from hq)
      refine z_top (y := nI (2 ^ mg_s t 0 - 1)) (congrArg (fun q => nI (2 ^ q - 1)) hX0) ?_
      refine n_icmp_gt eX4_soonest_43 (by first | omega | (have := sAll_is (nw := mg_nw t) (br := mg_br t) (zup2_ok (v := se) ⟨hs, h0, h1⟩ (by omega)); (try have := sAll_is (nw := mg_nw t) (br := mg_br t) (zup2_ok (v := b) ⟨hs, h0, h1⟩ (by omega))); omega) | (have := zcnt_le 7 se; omega)) (by first | omega | (have := sAll_is (nw := mg_nw t) (br := mg_br t) (zup2_ok (v := se) ⟨hs, h0, h1⟩ (by omega)); (try have := sAll_is (nw := mg_nw t) (br := mg_br t) (zup2_ok (v := b) ⟨hs, h0, h1⟩ (by omega))); omega) | (have := zcnt_le 7 se; omega)) (fun hc43 => absurd hc43 (by omega)) (fun hc43 => ?_)
      refine r_iload eX4_soonest_46 rfl ?_
      refine r_callSi1 eX4_soonest_48 lX4_161 (s4_bits (v := se) (by omega)) (by omega) (Nat.le_of_ble_eq_true rfl) (fun r1 h1 hq => ?_)
      obtain ⟨rfl, rfl⟩ := hq
      refine r_iload_n eX4_soonest_51 rfl rfl ?_
      refine n_icmp_eq eX4_soonest_52 (by first | omega | (have := sAll_is (nw := mg_nw t) (br := mg_br t) (zup2_ok (v := se) ⟨hs, h0, h1⟩ (by omega)); (try have := sAll_is (nw := mg_nw t) (br := mg_br t) (zup2_ok (v := b) ⟨hs, h0, h1⟩ (by omega))); omega) | (have := zcnt_le 7 se; omega)) (by first | omega | (have := sAll_is (nw := mg_nw t) (br := mg_br t) (zup2_ok (v := se) ⟨hs, h0, h1⟩ (by omega)); (try have := sAll_is (nw := mg_nw t) (br := mg_br t) (zup2_ok (v := b) ⟨hs, h0, h1⟩ (by omega))); omega) | (have := zcnt_le 7 se; omega)) (fun hc52 => ?_) (fun hc52 => ?_)
      · refine r_aload_n eX4_soonest_58 rfl rfl ?_
        refine r_getf (v := .ref 2) eX4_soonest_59 fX4_13 rfl rfl ?_
        refine n_iconst 2 eX4_soonest_62 rfl ?_
        refine r_iload eX4_soonest_63 rfl ?_
        refine mw_s (j := 2) (v := se) eX4_soonest_65 rfl rfl (by first | omega | (have := sAll_is (nw := mg_nw t) (br := mg_br t) (zup2_ok (v := se) ⟨hs, h0, h1⟩ (by omega)); (try have := sAll_is (nw := mg_nw t) (br := mg_br t) (zup2_ok (v := b) ⟨hs, h0, h1⟩ (by omega))); omega) | (have := zcnt_le 7 se; omega)) ?_
        refine r_aload_n eX4_soonest_66 rfl rfl ?_
        refine r_callVi0 eX4_soonest_67 lX4_152 (Or.inl ⟨_, _, _, rfl, rfl, rfl⟩) (s4_allOut (t := (mg_re t, (va_up (X) (2) (se)), mg_im t, mg_rd t, mg_ii t, mg_tp t, mg_tl t, mg_ta t, mg_at t, O, P, mg_br t, mg_nw t, mg_fs t, mg_bc t, mg_kr t, mg_rw t, mg_rc t)) (u := u) ⟨zup2_ok hXo (by omega), hbr, hnw, hO, hP⟩) (by omega) (Nat.le_of_ble_eq_true rfl) (fun r1 h1 hq => ?_)
        obtain ⟨O9, P9, hh, hr, hou9, hop9⟩ := hq
        obtain rfl := (show h1 = hA (mg_re t, (va_up (X) (2) (se)), mg_im t, mg_rd t, mg_ii t, mg_tp t, mg_tl t, mg_ta t, mg_at t, O9, P9, mg_br t, mg_nw t, mg_fs t, mg_bc t, mg_kr t, mg_rw t, mg_rc t) u from hh)
        obtain rfl : r1 = nI (sAll (va_up (mg_s t) 2 se) (mg_nw t) (mg_br t)) := by rw [hr]; exact congrArg (fun q => nI (sAll q _ _)) (zup2_same hX)
        refine r_istore eX4_soonest_70 (by decide) ?_
        refine r_iload eX4_soonest_72 rfl ?_
        refine n_if_lt eX4_soonest_74 (by first | omega | (have := sAll_is (nw := mg_nw t) (br := mg_br t) (zup2_ok (v := se) ⟨hs, h0, h1⟩ (by omega)); (try have := sAll_is (nw := mg_nw t) (br := mg_br t) (zup2_ok (v := b) ⟨hs, h0, h1⟩ (by omega))); omega) | (have := zcnt_le 7 se; omega)) ?_
        refine r_iload eX4_soonest_77 rfl ?_
        refine r_iload eX4_soonest_79 rfl ?_
        refine n_icmp_lt eX4_soonest_81 (by first | omega | (have := sAll_is (nw := mg_nw t) (br := mg_br t) (zup2_ok (v := se) ⟨hs, h0, h1⟩ (by omega)); (try have := sAll_is (nw := mg_nw t) (br := mg_br t) (zup2_ok (v := b) ⟨hs, h0, h1⟩ (by omega))); omega) | (have := zcnt_le 7 se; omega)) (by first | omega | (have := sAll_is (nw := mg_nw t) (br := mg_br t) (zup2_ok (v := se) ⟨hs, h0, h1⟩ (by omega)); (try have := sAll_is (nw := mg_nw t) (br := mg_br t) (zup2_ok (v := b) ⟨hs, h0, h1⟩ (by omega))); omega) | (have := zcnt_le 7 se; omega)) (fun hc81 => ?_) (fun hc81 => ?_)
        · refine r_iload eX4_soonest_87 rfl ?_
          refine r_istore eX4_soonest_89 (by decide) ?_
          refine r_iload eX4_soonest_91 rfl ?_
          refine r_istore eX4_soonest_93 (by decide) ?_
          refine n_iinc (k := 1) eX4_soonest_95 rfl (by decide) rfl ?_
          refine r_goto eX4_soonest_98 ?_
          exact ih (se + 1) (some se) (va_up (X) (2) (se)) O9 P9 _ (by omega) (fun i hi => by rw [zu_n hi]; exact hX i hi) (by rw [zu_s]; omega) (by rw [zsoo_s hf, if_pos ⟨hc52, hc81⟩]) hou9 hop9
        · refine r_goto eX4_soonest_84 ?_
          refine n_iinc (k := 1) eX4_soonest_95 rfl (by decide) rfl ?_
          refine r_goto eX4_soonest_98 ?_
          exact ih (se + 1) (some b) (va_up (X) (2) (se)) O9 P9 _ (by omega) (fun i hi => by rw [zu_n hi]; exact hX i hi) (by rw [zu_s]; omega) (by rw [zsoo_s hf, if_neg (fun z => Nat.not_lt.mpr hc81 z.2)]) hou9 hop9
      · refine r_goto eX4_soonest_55 ?_
        refine n_iinc (k := 1) eX4_soonest_95 rfl (by decide) rfl ?_
        refine r_goto eX4_soonest_98 ?_
        exact ih (se + 1) (some b) X O P _ (by omega) hX hX2 (by rw [zsoo_s hf, if_neg (fun z => hc52 z.1)]) hO hP
set_option maxHeartbeats 1000000 in
set_option maxRecDepth 100000 in
theorem s4_soo_l1 {t : zMod} {u : zCls} (hm : mOk t) {c b0 : Nat} (hc : c ≤ 7) (hb0 : zsoo c (fun s => sAll (va_up (mg_s t) 2 s) (mg_nw t) (mg_br t)) (2 ^ mg_s t 0) = some b0) : ∀ (k : Nat) (se : Nat) (f : Option Nat) (X : Nat → Nat) (O : Nat → Nat) (P : Nat → Nat) (v7 : Value) (hd : se + k = 2 ^ mg_s t 0) (hX : ∀ i, ¬ i = 2 → X i = mg_s t i) (hX2 : X 2 ≤ 127) (hf : zsoo c (fun s => sAll (va_up (mg_s t) 2 s) (mg_nw t) (mg_br t)) se = f) (hO : ∀ i, O i ≤ 1000000) (hP : ∀ i, P i ≤ 1000000), Rq mX4_soonest 10 none 37 [.ref 0, .int (nI 1), .int (nI c), .int (nI (mg_s t 2)), .int (zor f), .int (nI (zleast (fun s => sAll (va_up (mg_s t) 2 s) (mg_nw t) (mg_br t)) f)), .int (nI se), v7] [] (hA (mg_re t, X, mg_im t, mg_rd t, mg_ii t, mg_tp t, mg_tl t, mg_ta t, mg_at t, O, P, mg_br t, mg_nw t, mg_fs t, mg_bc t, mg_kr t, mg_rw t, mg_rc t) u) (fun r h' => ∃ x, r = some x ∧ (∃ (O' P' : Nat → Nat), h' = hA (mg_re t, mg_s t, mg_im t, mg_rd t, mg_ii t, mg_tp t, mg_tl t, mg_ta t, mg_at t, O', P', mg_br t, mg_nw t, mg_fs t, mg_bc t, mg_kr t, mg_rw t, mg_rc t) u ∧ x = zon 1000000 (sAll (va_up (mg_s t) 2 b0) (mg_nw t) (mg_br t)) ∧ (∀ i, O' i ≤ 1000000) ∧ ∀ i, P' i ≤ 1000000)) := by
  intro k
  induction k with
  | zero =>
    intro se f X O P v7 hd hX hX2 hf hO hP
    obtain ⟨⟨hs, h0, h1⟩, hbr, hnw, hou, hop⟩ := id hm
    have hp7 : 2 ^ mg_s t 0 ≤ 2 ^ 7 := Nat.pow_le_pow_right (by omega) h0
    have hp1 : 0 < 2 ^ mg_s t 0 := Nat.two_pow_pos _
    have hX0 : X 0 = mg_s t 0 := hX 0 (by omega)
    have hXo : sOk X := ⟨fun i => by
      by_cases e : i = 2
      · subst e; omega
      · rw [hX i e]; exact hs i, by rw [hX0]; exact h0, by rw [hX 1 (by omega)]; exact h1⟩
    cases f with
    | none =>
      have e0 : se = 2 ^ mg_s t 0 := by omega
      rw [e0, hb0] at hf
      cases hf
    | some b =>
      have e0 : se = 2 ^ mg_s t 0 := by omega
      rw [e0, hb0] at hf
      have hbb : b0 = b := Option.some.inj hf
      subst hbb
      have hgl := zsoo_lt hb0
      refine z_ls (ls' := [.ref 0, .int (nI 1), .int (nI c), .int (nI (mg_s t 2)), .int (nI (b0)), .int (nI (sAll (va_up (mg_s t) 2 b0) (mg_nw t) (mg_br t))), .int (nI se), v7]) rfl ?_
      refine r_iload eX4_soonest_37 rfl ?_
      refine r_aload_n eX4_soonest_39 rfl rfl ?_
      refine r_callVi0 eX4_soonest_40 lX4_117 (Or.inl ⟨_, _, _, rfl, rfl, rfl⟩) (s4_everybody (t := (mg_re t, X, mg_im t, mg_rd t, mg_ii t, mg_tp t, mg_tl t, mg_ta t, mg_at t, O, P, mg_br t, mg_nw t, mg_fs t, mg_bc t, mg_kr t, mg_rw t, mg_rc t)) (u := u) (hXo.2.1)) (by omega) (Nat.le_of_ble_eq_true rfl) (fun r1 h1 hq => ?_)
      obtain ⟨rfl, rfl⟩ := (show r1 = nI (2 ^ X 0 - 1) ∧ h1 = hA (mg_re t, X, mg_im t, mg_rd t, mg_ii t, mg_tp t, mg_tl t, mg_ta t, mg_at t, O, P, mg_br t, mg_nw t, mg_fs t, mg_bc t, mg_kr t, mg_rw t, mg_rc t) u from hq)
      refine z_top (y := nI (2 ^ mg_s t 0 - 1)) (congrArg (fun q => nI (2 ^ q - 1)) hX0) ?_
      refine n_icmp_gt eX4_soonest_43 (by first | omega | (have := sAll_is (nw := mg_nw t) (br := mg_br t) (zup2_ok (v := se) ⟨hs, h0, h1⟩ (by omega)); (try have := sAll_is (nw := mg_nw t) (br := mg_br t) (zup2_ok (v := b) ⟨hs, h0, h1⟩ (by omega))); omega) | (have := zcnt_le 7 se; omega)) (by first | omega | (have := sAll_is (nw := mg_nw t) (br := mg_br t) (zup2_ok (v := se) ⟨hs, h0, h1⟩ (by omega)); (try have := sAll_is (nw := mg_nw t) (br := mg_br t) (zup2_ok (v := b) ⟨hs, h0, h1⟩ (by omega))); omega) | (have := zcnt_le 7 se; omega)) (fun hc43 => ?_) (fun hc43 => absurd hc43 (by omega))
      refine r_aload_n eX4_soonest_101 rfl rfl ?_
      refine r_getf (v := .ref 2) eX4_soonest_102 fX4_13 rfl rfl ?_
      refine n_iconst 2 eX4_soonest_105 rfl ?_
      refine r_iload_n eX4_soonest_106 rfl rfl ?_
      refine mw_s (j := 2) (v := mg_s t 2) eX4_soonest_107 rfl rfl (by first | omega | (have := sAll_is (nw := mg_nw t) (br := mg_br t) (zup2_ok (v := se) ⟨hs, h0, h1⟩ (by omega)); (try have := sAll_is (nw := mg_nw t) (br := mg_br t) (zup2_ok (v := b) ⟨hs, h0, h1⟩ (by omega))); omega) | (have := zcnt_le 7 se; omega)) ?_
      refine r_iload_n eX4_soonest_108 rfl rfl ?_
      refine n_if_ne eX4_soonest_109 (by first | omega | (have := sAll_is (nw := mg_nw t) (br := mg_br t) (zup2_ok (v := se) ⟨hs, h0, h1⟩ (by omega)); (try have := sAll_is (nw := mg_nw t) (br := mg_br t) (zup2_ok (v := b) ⟨hs, h0, h1⟩ (by omega))); omega) | (have := zcnt_le 7 se; omega)) (fun hc109 => ?_) (fun hc109 => absurd hc109 (by decide))
      refine r_iload eX4_soonest_117 rfl ?_
      refine r_callSi1 eX4_soonest_119 lX4_149 (s4_orNone (by have := sAll_is (nw := mg_nw t) (br := mg_br t) (zup2_ok (v := b0) ⟨hs, h0, h1⟩ (by omega)); omega)) (by omega) (Nat.le_of_ble_eq_true rfl) (fun r1 h1 hq => ?_)
      obtain ⟨rfl, rfl⟩ := hq
      refine z_iret eX4_soonest_122 rfl rfl ⟨_, rfl, O, P, ?_, rfl, hO, hP⟩
      rw [zup2_back hX]
  | succ k ih =>
    intro se f X O P v7 hd hX hX2 hf hO hP
    obtain ⟨⟨hs, h0, h1⟩, hbr, hnw, hou, hop⟩ := id hm
    have hp7 : 2 ^ mg_s t 0 ≤ 2 ^ 7 := Nat.pow_le_pow_right (by omega) h0
    have hp1 : 0 < 2 ^ mg_s t 0 := Nat.two_pow_pos _
    have hX0 : X 0 = mg_s t 0 := hX 0 (by omega)
    have hXo : sOk X := ⟨fun i => by
      by_cases e : i = 2
      · subst e; omega
      · rw [hX i e]; exact hs i, by rw [hX0]; exact h0, by rw [hX 1 (by omega)]; exact h1⟩
    cases f with
    | none =>
      refine r_iload eX4_soonest_37 rfl ?_
      refine r_aload_n eX4_soonest_39 rfl rfl ?_
      refine r_callVi0 eX4_soonest_40 lX4_117 (Or.inl ⟨_, _, _, rfl, rfl, rfl⟩) (s4_everybody (t := (mg_re t, X, mg_im t, mg_rd t, mg_ii t, mg_tp t, mg_tl t, mg_ta t, mg_at t, O, P, mg_br t, mg_nw t, mg_fs t, mg_bc t, mg_kr t, mg_rw t, mg_rc t)) (u := u) (hXo.2.1)) (by omega) (Nat.le_of_ble_eq_true rfl) (fun r1 h1 hq => ?_)
      obtain ⟨rfl, rfl⟩ := (show r1 = nI (2 ^ X 0 - 1) ∧ h1 = hA (mg_re t, X, mg_im t, mg_rd t, mg_ii t, mg_tp t, mg_tl t, mg_ta t, mg_at t, O, P, mg_br t, mg_nw t, mg_fs t, mg_bc t, mg_kr t, mg_rw t, mg_rc t) u from hq)
      refine z_top (y := nI (2 ^ mg_s t 0 - 1)) (congrArg (fun q => nI (2 ^ q - 1)) hX0) ?_
      refine n_icmp_gt eX4_soonest_43 (by first | omega | (have := sAll_is (nw := mg_nw t) (br := mg_br t) (zup2_ok (v := se) ⟨hs, h0, h1⟩ (by omega)); (try have := sAll_is (nw := mg_nw t) (br := mg_br t) (zup2_ok (v := b) ⟨hs, h0, h1⟩ (by omega))); omega) | (have := zcnt_le 7 se; omega)) (by first | omega | (have := sAll_is (nw := mg_nw t) (br := mg_br t) (zup2_ok (v := se) ⟨hs, h0, h1⟩ (by omega)); (try have := sAll_is (nw := mg_nw t) (br := mg_br t) (zup2_ok (v := b) ⟨hs, h0, h1⟩ (by omega))); omega) | (have := zcnt_le 7 se; omega)) (fun hc43 => absurd hc43 (by omega)) (fun hc43 => ?_)
      refine r_iload eX4_soonest_46 rfl ?_
      refine r_callSi1 eX4_soonest_48 lX4_161 (s4_bits (v := se) (by omega)) (by omega) (Nat.le_of_ble_eq_true rfl) (fun r1 h1 hq => ?_)
      obtain ⟨rfl, rfl⟩ := hq
      refine r_iload_n eX4_soonest_51 rfl rfl ?_
      refine n_icmp_eq eX4_soonest_52 (by first | omega | (have := sAll_is (nw := mg_nw t) (br := mg_br t) (zup2_ok (v := se) ⟨hs, h0, h1⟩ (by omega)); (try have := sAll_is (nw := mg_nw t) (br := mg_br t) (zup2_ok (v := b) ⟨hs, h0, h1⟩ (by omega))); omega) | (have := zcnt_le 7 se; omega)) (by first | omega | (have := sAll_is (nw := mg_nw t) (br := mg_br t) (zup2_ok (v := se) ⟨hs, h0, h1⟩ (by omega)); (try have := sAll_is (nw := mg_nw t) (br := mg_br t) (zup2_ok (v := b) ⟨hs, h0, h1⟩ (by omega))); omega) | (have := zcnt_le 7 se; omega)) (fun hc52 => ?_) (fun hc52 => ?_)
      · refine r_aload_n eX4_soonest_58 rfl rfl ?_
        refine r_getf (v := .ref 2) eX4_soonest_59 fX4_13 rfl rfl ?_
        refine n_iconst 2 eX4_soonest_62 rfl ?_
        refine r_iload eX4_soonest_63 rfl ?_
        refine mw_s (j := 2) (v := se) eX4_soonest_65 rfl rfl (by first | omega | (have := sAll_is (nw := mg_nw t) (br := mg_br t) (zup2_ok (v := se) ⟨hs, h0, h1⟩ (by omega)); (try have := sAll_is (nw := mg_nw t) (br := mg_br t) (zup2_ok (v := b) ⟨hs, h0, h1⟩ (by omega))); omega) | (have := zcnt_le 7 se; omega)) ?_
        refine r_aload_n eX4_soonest_66 rfl rfl ?_
        refine r_callVi0 eX4_soonest_67 lX4_152 (Or.inl ⟨_, _, _, rfl, rfl, rfl⟩) (s4_allOut (t := (mg_re t, (va_up (X) (2) (se)), mg_im t, mg_rd t, mg_ii t, mg_tp t, mg_tl t, mg_ta t, mg_at t, O, P, mg_br t, mg_nw t, mg_fs t, mg_bc t, mg_kr t, mg_rw t, mg_rc t)) (u := u) ⟨zup2_ok hXo (by omega), hbr, hnw, hO, hP⟩) (by omega) (Nat.le_of_ble_eq_true rfl) (fun r1 h1 hq => ?_)
        obtain ⟨O9, P9, hh, hr, hou9, hop9⟩ := hq
        obtain rfl := (show h1 = hA (mg_re t, (va_up (X) (2) (se)), mg_im t, mg_rd t, mg_ii t, mg_tp t, mg_tl t, mg_ta t, mg_at t, O9, P9, mg_br t, mg_nw t, mg_fs t, mg_bc t, mg_kr t, mg_rw t, mg_rc t) u from hh)
        obtain rfl : r1 = nI (sAll (va_up (mg_s t) 2 se) (mg_nw t) (mg_br t)) := by rw [hr]; exact congrArg (fun q => nI (sAll q _ _)) (zup2_same hX)
        refine r_istore eX4_soonest_70 (by decide) ?_
        refine r_iload eX4_soonest_72 rfl ?_
        refine r_if_lt eX4_soonest_74 (fun hc74 => ?_) (fun hc74 => absurd hc74 (fun z => z (by decide)))
        refine r_iload eX4_soonest_87 rfl ?_
        refine r_istore eX4_soonest_89 (by decide) ?_
        refine r_iload eX4_soonest_91 rfl ?_
        refine r_istore eX4_soonest_93 (by decide) ?_
        refine n_iinc (k := 1) eX4_soonest_95 rfl (by decide) rfl ?_
        refine r_goto eX4_soonest_98 ?_
        exact ih (se + 1) (some se) (va_up (X) (2) (se)) O9 P9 _ (by omega) (fun i hi => by rw [zu_n hi]; exact hX i hi) (by rw [zu_s]; omega) (by rw [zsoo_n hf, if_pos hc52]) hou9 hop9
      · refine r_goto eX4_soonest_55 ?_
        refine n_iinc (k := 1) eX4_soonest_95 rfl (by decide) rfl ?_
        refine r_goto eX4_soonest_98 ?_
        exact ih (se + 1) none X O P _ (by omega) hX hX2 (by rw [zsoo_n hf, if_neg hc52]) hO hP
    | some b =>
      have hgl := zsoo_lt hf
      refine z_ls (ls' := [.ref 0, .int (nI 1), .int (nI c), .int (nI (mg_s t 2)), .int (nI (b)), .int (nI (sAll (va_up (mg_s t) 2 b) (mg_nw t) (mg_br t))), .int (nI se), v7]) rfl ?_
      refine r_iload eX4_soonest_37 rfl ?_
      refine r_aload_n eX4_soonest_39 rfl rfl ?_
      refine r_callVi0 eX4_soonest_40 lX4_117 (Or.inl ⟨_, _, _, rfl, rfl, rfl⟩) (s4_everybody (t := (mg_re t, X, mg_im t, mg_rd t, mg_ii t, mg_tp t, mg_tl t, mg_ta t, mg_at t, O, P, mg_br t, mg_nw t, mg_fs t, mg_bc t, mg_kr t, mg_rw t, mg_rc t)) (u := u) (hXo.2.1)) (by omega) (Nat.le_of_ble_eq_true rfl) (fun r1 h1 hq => ?_)
      obtain ⟨rfl, rfl⟩ := (show r1 = nI (2 ^ X 0 - 1) ∧ h1 = hA (mg_re t, X, mg_im t, mg_rd t, mg_ii t, mg_tp t, mg_tl t, mg_ta t, mg_at t, O, P, mg_br t, mg_nw t, mg_fs t, mg_bc t, mg_kr t, mg_rw t, mg_rc t) u from hq)
      refine z_top (y := nI (2 ^ mg_s t 0 - 1)) (congrArg (fun q => nI (2 ^ q - 1)) hX0) ?_
      refine n_icmp_gt eX4_soonest_43 (by first | omega | (have := sAll_is (nw := mg_nw t) (br := mg_br t) (zup2_ok (v := se) ⟨hs, h0, h1⟩ (by omega)); (try have := sAll_is (nw := mg_nw t) (br := mg_br t) (zup2_ok (v := b) ⟨hs, h0, h1⟩ (by omega))); omega) | (have := zcnt_le 7 se; omega)) (by first | omega | (have := sAll_is (nw := mg_nw t) (br := mg_br t) (zup2_ok (v := se) ⟨hs, h0, h1⟩ (by omega)); (try have := sAll_is (nw := mg_nw t) (br := mg_br t) (zup2_ok (v := b) ⟨hs, h0, h1⟩ (by omega))); omega) | (have := zcnt_le 7 se; omega)) (fun hc43 => absurd hc43 (by omega)) (fun hc43 => ?_)
      refine r_iload eX4_soonest_46 rfl ?_
      refine r_callSi1 eX4_soonest_48 lX4_161 (s4_bits (v := se) (by omega)) (by omega) (Nat.le_of_ble_eq_true rfl) (fun r1 h1 hq => ?_)
      obtain ⟨rfl, rfl⟩ := hq
      refine r_iload_n eX4_soonest_51 rfl rfl ?_
      refine n_icmp_eq eX4_soonest_52 (by first | omega | (have := sAll_is (nw := mg_nw t) (br := mg_br t) (zup2_ok (v := se) ⟨hs, h0, h1⟩ (by omega)); (try have := sAll_is (nw := mg_nw t) (br := mg_br t) (zup2_ok (v := b) ⟨hs, h0, h1⟩ (by omega))); omega) | (have := zcnt_le 7 se; omega)) (by first | omega | (have := sAll_is (nw := mg_nw t) (br := mg_br t) (zup2_ok (v := se) ⟨hs, h0, h1⟩ (by omega)); (try have := sAll_is (nw := mg_nw t) (br := mg_br t) (zup2_ok (v := b) ⟨hs, h0, h1⟩ (by omega))); omega) | (have := zcnt_le 7 se; omega)) (fun hc52 => ?_) (fun hc52 => ?_)
      · refine r_aload_n eX4_soonest_58 rfl rfl ?_
        refine r_getf (v := .ref 2) eX4_soonest_59 fX4_13 rfl rfl ?_
        refine n_iconst 2 eX4_soonest_62 rfl ?_
        refine r_iload eX4_soonest_63 rfl ?_
        refine mw_s (j := 2) (v := se) eX4_soonest_65 rfl rfl (by first | omega | (have := sAll_is (nw := mg_nw t) (br := mg_br t) (zup2_ok (v := se) ⟨hs, h0, h1⟩ (by omega)); (try have := sAll_is (nw := mg_nw t) (br := mg_br t) (zup2_ok (v := b) ⟨hs, h0, h1⟩ (by omega))); omega) | (have := zcnt_le 7 se; omega)) ?_
        refine r_aload_n eX4_soonest_66 rfl rfl ?_
        refine r_callVi0 eX4_soonest_67 lX4_152 (Or.inl ⟨_, _, _, rfl, rfl, rfl⟩) (s4_allOut (t := (mg_re t, (va_up (X) (2) (se)), mg_im t, mg_rd t, mg_ii t, mg_tp t, mg_tl t, mg_ta t, mg_at t, O, P, mg_br t, mg_nw t, mg_fs t, mg_bc t, mg_kr t, mg_rw t, mg_rc t)) (u := u) ⟨zup2_ok hXo (by omega), hbr, hnw, hO, hP⟩) (by omega) (Nat.le_of_ble_eq_true rfl) (fun r1 h1 hq => ?_)
        obtain ⟨O9, P9, hh, hr, hou9, hop9⟩ := hq
        obtain rfl := (show h1 = hA (mg_re t, (va_up (X) (2) (se)), mg_im t, mg_rd t, mg_ii t, mg_tp t, mg_tl t, mg_ta t, mg_at t, O9, P9, mg_br t, mg_nw t, mg_fs t, mg_bc t, mg_kr t, mg_rw t, mg_rc t) u from hh)
        obtain rfl : r1 = nI (sAll (va_up (mg_s t) 2 se) (mg_nw t) (mg_br t)) := by rw [hr]; exact congrArg (fun q => nI (sAll q _ _)) (zup2_same hX)
        refine r_istore eX4_soonest_70 (by decide) ?_
        refine r_iload eX4_soonest_72 rfl ?_
        refine n_if_lt eX4_soonest_74 (by first | omega | (have := sAll_is (nw := mg_nw t) (br := mg_br t) (zup2_ok (v := se) ⟨hs, h0, h1⟩ (by omega)); (try have := sAll_is (nw := mg_nw t) (br := mg_br t) (zup2_ok (v := b) ⟨hs, h0, h1⟩ (by omega))); omega) | (have := zcnt_le 7 se; omega)) ?_
        refine r_iload eX4_soonest_77 rfl ?_
        refine r_iload eX4_soonest_79 rfl ?_
        refine n_icmp_lt eX4_soonest_81 (by first | omega | (have := sAll_is (nw := mg_nw t) (br := mg_br t) (zup2_ok (v := se) ⟨hs, h0, h1⟩ (by omega)); (try have := sAll_is (nw := mg_nw t) (br := mg_br t) (zup2_ok (v := b) ⟨hs, h0, h1⟩ (by omega))); omega) | (have := zcnt_le 7 se; omega)) (by first | omega | (have := sAll_is (nw := mg_nw t) (br := mg_br t) (zup2_ok (v := se) ⟨hs, h0, h1⟩ (by omega)); (try have := sAll_is (nw := mg_nw t) (br := mg_br t) (zup2_ok (v := b) ⟨hs, h0, h1⟩ (by omega))); omega) | (have := zcnt_le 7 se; omega)) (fun hc81 => ?_) (fun hc81 => ?_)
        · refine r_iload eX4_soonest_87 rfl ?_
          refine r_istore eX4_soonest_89 (by decide) ?_
          refine r_iload eX4_soonest_91 rfl ?_
          refine r_istore eX4_soonest_93 (by decide) ?_
          refine n_iinc (k := 1) eX4_soonest_95 rfl (by decide) rfl ?_
          refine r_goto eX4_soonest_98 ?_
          exact ih (se + 1) (some se) (va_up (X) (2) (se)) O9 P9 _ (by omega) (fun i hi => by rw [zu_n hi]; exact hX i hi) (by rw [zu_s]; omega) (by rw [zsoo_s hf, if_pos ⟨hc52, hc81⟩]) hou9 hop9
        · refine r_goto eX4_soonest_84 ?_
          refine n_iinc (k := 1) eX4_soonest_95 rfl (by decide) rfl ?_
          refine r_goto eX4_soonest_98 ?_
          exact ih (se + 1) (some b) (va_up (X) (2) (se)) O9 P9 _ (by omega) (fun i hi => by rw [zu_n hi]; exact hX i hi) (by rw [zu_s]; omega) (by rw [zsoo_s hf, if_neg (fun z => Nat.not_lt.mpr hc81 z.2)]) hou9 hop9
      · refine r_goto eX4_soonest_55 ?_
        refine n_iinc (k := 1) eX4_soonest_95 rfl (by decide) rfl ?_
        refine r_goto eX4_soonest_98 ?_
        exact ih (se + 1) (some b) X O P _ (by omega) hX hX2 (by rw [zsoo_s hf, if_neg (fun z => hc52 z.1)]) hO hP
set_option maxHeartbeats 1000000 in
set_option maxRecDepth 100000 in
theorem s4_soonest_o {t : zMod} {u : zCls} (hm : mOk t) {x : Int32} (hx : x < 0 ∨ nI 2 ≤ x) : Mi mX4_soonest 10 [.ref 0, .int (x)] (hA t u) (fun r h' => r = (-2) ∧ h' = hA ((va_up (mg_re t) 2 (mg_re t 2 + 1)), mg_s t, mg_im t, mg_rd t, mg_ii t, mg_tp t, mg_tl t, mg_ta t, mg_at t, mg_ou t, mg_op t, mg_br t, mg_nw t, mg_fs t, mg_bc t, mg_kr t, mg_rw t, mg_rc t) u) := by
  refine Mi.of (by decide) rfl (Nat.le_of_ble_eq_true rfl) ?_
  refine r_iload_n eX4_soonest_0 rfl rfl ?_
  refine n_iconst 2 eX4_soonest_1 rfl ?_
  refine r_callSi2 eX4_soonest_2 lX4_40 (s4_isIn_n hx) (by omega) (Nat.le_of_ble_eq_true rfl) (fun r1 h1 hq => ?_)
  obtain ⟨rfl, rfl⟩ := hq
  refine n_if_ne eX4_soonest_5 (by first | omega | exact zlt (hs _) | exact hou _ | exact hop _) (fun hc5 => absurd hc5 (by decide)) (fun hc5 => ?_)
  refine r_aload_n eX4_soonest_8 rfl rfl ?_
  refine r_bipush (v := (-2)) eX4_soonest_9 rfl ?_
  refine r_callVi1 eX4_soonest_11 lX4_52 (Or.inl ⟨_, _, _, rfl, rfl, rfl⟩) (s4_refuse (t := t) (u := u) (x := (-2)) (c := 2) (by decide) (by decide)) (by omega) (Nat.le_of_ble_eq_true rfl) (fun r1 h1 hq => ?_)
  obtain ⟨rfl, rfl⟩ := (show r1 = (-2) ∧ h1 = hA ((va_up (mg_re t) 2 ((mg_re t) 2 + 1)), mg_s t, mg_im t, mg_rd t, mg_ii t, mg_tp t, mg_tl t, mg_ta t, mg_at t, mg_ou t, mg_op t, mg_br t, mg_nw t, mg_fs t, mg_bc t, mg_kr t, mg_rw t, mg_rc t) u from hq)
  exact z_iret eX4_soonest_14 rfl rfl ⟨_, rfl, rfl, rfl⟩
set_option maxHeartbeats 1000000 in
set_option maxRecDepth 100000 in
theorem s4_soonest_0 {t : zMod} {u : zCls} (hm : mOk t) {g0 : Nat} (hg0 : sFew (mg_s t) (mg_br t) = some g0) (hw : mg_s t 2 ≤ 127) {b0 : Nat} (hb0 : zsoo (zcnt 7 g0) (fun s => sAll (va_up (mg_s t) 2 s) 0 (mg_br t)) (2 ^ mg_s t 0) = some b0) : Mi mX4_soonest 10 [.ref 0, .int (nI (0))] (hA t u) (fun r h' => ∃ (O' P' : Nat → Nat), h' = hA (mg_re t, mg_s t, mg_im t, mg_rd t, mg_ii t, mg_tp t, mg_tl t, mg_ta t, mg_at t, O', P', mg_br t, 0, (nI g0), mg_bc t, mg_kr t, mg_rw t, mg_rc t) u ∧ r = nI b0 ∧ (∀ i, O' i ≤ 1000000) ∧ ∀ i, P' i ≤ 1000000) := by
  obtain ⟨⟨hs, h0, h1⟩, hbr, hnw, hou, hop⟩ := id hm
  refine Mi.of (by decide) rfl (Nat.le_of_ble_eq_true rfl) ?_
  refine r_iload_n eX4_soonest_0 rfl rfl ?_
  refine n_iconst 2 eX4_soonest_1 rfl ?_
  refine r_callSi2 eX4_soonest_2 lX4_40 (s4_isIn_y (by decide) (by decide)) (by omega) (Nat.le_of_ble_eq_true rfl) (fun r1 h1 hq => ?_)
  obtain ⟨rfl, rfl⟩ := hq
  refine n_if_ne eX4_soonest_5 (by first | omega | exact zlt (hs _) | exact hou _ | exact hop _) (fun hc5 => ?_) (fun hc5 => absurd hc5 (by decide))
  refine r_aload_n eX4_soonest_15 rfl rfl ?_
  refine r_callVi0 eX4_soonest_16 lX4_164 (Or.inl ⟨_, _, _, rfl, rfl, rfl⟩) (s4_fewestNow (t := t) (u := u) hm hg0 hw) (by omega) (Nat.le_of_ble_eq_true rfl) (fun r1 h1 hq => ?_)
  obtain ⟨O16, P16, hh, hr, hou16, hop16⟩ := hq
  obtain rfl := (show h1 = hA (mg_re t, mg_s t, mg_im t, mg_rd t, mg_ii t, mg_tp t, mg_tl t, mg_ta t, mg_at t, O16, P16, mg_br t, 0, (nI g0), mg_bc t, mg_kr t, mg_rw t, mg_rc t) u from hh)
  obtain rfl := (show r1 = nI (zcnt 7 g0) from hr)
  refine r_istore_n eX4_soonest_19 rfl (by decide) ?_
  refine r_aload_n eX4_soonest_20 rfl rfl ?_
  refine r_getf (v := .ref 2) eX4_soonest_21 fX4_13 rfl rfl ?_
  refine n_iconst 2 eX4_soonest_24 rfl ?_
  refine n_iald (f := mg_s t) (j := 2) eX4_soonest_25 rfl rfl (by first | omega | exact zlt (hs _) | exact hou _ | exact hop _) (by decide) ?_
  refine r_istore_n eX4_soonest_26 rfl (by decide) ?_
  refine r_bipush (v := (-9)) eX4_soonest_27 rfl ?_
  refine r_istore eX4_soonest_29 (by decide) ?_
  refine n_iconst 0 eX4_soonest_31 rfl ?_
  refine r_istore eX4_soonest_32 (by decide) ?_
  refine n_iconst 0 eX4_soonest_34 rfl ?_
  refine r_istore eX4_soonest_35 (by decide) ?_
  exact s4_soo_l0 (t := (mg_re t, mg_s t, mg_im t, mg_rd t, mg_ii t, mg_tp t, mg_tl t, mg_ta t, mg_at t, O16, P16, mg_br t, 0, (nI g0), mg_bc t, mg_kr t, mg_rw t, mg_rc t)) ⟨⟨hs, h0, h1⟩, hbr, (show 0 < 2 by omega), hou16, hop16⟩ (zcnt_le 7 g0) hb0 (2 ^ mg_s t 0) 0 none (mg_s t) O16 P16 (.retAddr 0) (Nat.zero_add _) (fun _ _ => rfl) hw rfl hou16 hop16
set_option maxHeartbeats 1000000 in
set_option maxRecDepth 100000 in
theorem s4_soonest_1 {t : zMod} {u : zCls} (hm : mOk t) {g0 : Nat} (hg0 : sFew (mg_s t) (mg_br t) = some g0) (hw : mg_s t 2 ≤ 127) {b0 : Nat} (hb0 : zsoo (zcnt 7 g0) (fun s => sAll (va_up (mg_s t) 2 s) 0 (mg_br t)) (2 ^ mg_s t 0) = some b0) : Mi mX4_soonest 10 [.ref 0, .int (nI (1))] (hA t u) (fun r h' => ∃ (O' P' : Nat → Nat), h' = hA (mg_re t, mg_s t, mg_im t, mg_rd t, mg_ii t, mg_tp t, mg_tl t, mg_ta t, mg_at t, O', P', mg_br t, 0, (nI g0), mg_bc t, mg_kr t, mg_rw t, mg_rc t) u ∧ r = zon 1000000 (sAll (va_up (mg_s t) 2 b0) 0 (mg_br t)) ∧ (∀ i, O' i ≤ 1000000) ∧ ∀ i, P' i ≤ 1000000) := by
  obtain ⟨⟨hs, h0, h1⟩, hbr, hnw, hou, hop⟩ := id hm
  refine Mi.of (by decide) rfl (Nat.le_of_ble_eq_true rfl) ?_
  refine r_iload_n eX4_soonest_0 rfl rfl ?_
  refine n_iconst 2 eX4_soonest_1 rfl ?_
  refine r_callSi2 eX4_soonest_2 lX4_40 (s4_isIn_y (by decide) (by decide)) (by omega) (Nat.le_of_ble_eq_true rfl) (fun r1 h1 hq => ?_)
  obtain ⟨rfl, rfl⟩ := hq
  refine n_if_ne eX4_soonest_5 (by first | omega | exact zlt (hs _) | exact hou _ | exact hop _) (fun hc5 => ?_) (fun hc5 => absurd hc5 (by decide))
  refine r_aload_n eX4_soonest_15 rfl rfl ?_
  refine r_callVi0 eX4_soonest_16 lX4_164 (Or.inl ⟨_, _, _, rfl, rfl, rfl⟩) (s4_fewestNow (t := t) (u := u) hm hg0 hw) (by omega) (Nat.le_of_ble_eq_true rfl) (fun r1 h1 hq => ?_)
  obtain ⟨O16, P16, hh, hr, hou16, hop16⟩ := hq
  obtain rfl := (show h1 = hA (mg_re t, mg_s t, mg_im t, mg_rd t, mg_ii t, mg_tp t, mg_tl t, mg_ta t, mg_at t, O16, P16, mg_br t, 0, (nI g0), mg_bc t, mg_kr t, mg_rw t, mg_rc t) u from hh)
  obtain rfl := (show r1 = nI (zcnt 7 g0) from hr)
  refine r_istore_n eX4_soonest_19 rfl (by decide) ?_
  refine r_aload_n eX4_soonest_20 rfl rfl ?_
  refine r_getf (v := .ref 2) eX4_soonest_21 fX4_13 rfl rfl ?_
  refine n_iconst 2 eX4_soonest_24 rfl ?_
  refine n_iald (f := mg_s t) (j := 2) eX4_soonest_25 rfl rfl (by first | omega | exact zlt (hs _) | exact hou _ | exact hop _) (by decide) ?_
  refine r_istore_n eX4_soonest_26 rfl (by decide) ?_
  refine r_bipush (v := (-9)) eX4_soonest_27 rfl ?_
  refine r_istore eX4_soonest_29 (by decide) ?_
  refine n_iconst 0 eX4_soonest_31 rfl ?_
  refine r_istore eX4_soonest_32 (by decide) ?_
  refine n_iconst 0 eX4_soonest_34 rfl ?_
  refine r_istore eX4_soonest_35 (by decide) ?_
  exact s4_soo_l1 (t := (mg_re t, mg_s t, mg_im t, mg_rd t, mg_ii t, mg_tp t, mg_tl t, mg_ta t, mg_at t, O16, P16, mg_br t, 0, (nI g0), mg_bc t, mg_kr t, mg_rw t, mg_rc t)) ⟨⟨hs, h0, h1⟩, hbr, (show 0 < 2 by omega), hou16, hop16⟩ (zcnt_le 7 g0) hb0 (2 ^ mg_s t 0) 0 none (mg_s t) O16 P16 (.retAddr 0) (Nat.zero_add _) (fun _ _ => rfl) hw rfl hou16 hop16
theorem zco_le {c : Nat → Nat} (h : ∀ p, c p ≤ 1000) (s : Nat) : ∀ n, zco c s n ≤ 1000 * n
  | 0 => Nat.zero_le _
  | n + 1 => by
    have h1 := zco_le h s n
    have h2 := h n
    have h3 : (s / 2 ^ n &&& 1) ≤ 1 := by have := zb2 s n; omega
    have h4 : (s / 2 ^ n &&& 1) * c n ≤ 1 * 1000 := Nat.mul_le_mul h3 h2
    rw [zco]
    omega
def sBrk (S : Nat → Nat) (nw : Nat) : Option Nat := zlea (fun s => zco (fun p => S (5 + 5 * p + 4)) s (S 0)) (fun s => decide (sAll S nw s < 1000000)) (2 ^ S 0)
set_option maxHeartbeats 1000000 in
set_option maxRecDepth 100000 in
theorem s4_brk_l0 {t : zMod} {u : zCls} (hm : mOk t) {g0 : Nat} (hg0 : sBrk (mg_s t) (mg_nw t) = some g0) : ∀ (k : Nat) (se : Nat) (f : Option Nat) (bk : Nat) (O : Nat → Nat) (P : Nat → Nat) (hd : se + k = 2 ^ mg_s t 0) (hf : zlea (fun s => zco (fun p => mg_s t (5 + 5 * p + 4)) s (mg_s t 0)) (fun s => decide (sAll (mg_s t) (mg_nw t) s < 1000000)) se = f) (hO : ∀ i, O i ≤ 1000000) (hP : ∀ i, P i ≤ 1000000), Rq mX4_breaking 10 none 20 [.ref 0, .int (nI 0), .int (zor f), .int (nI se)] [] (hA (mg_re t, mg_s t, mg_im t, mg_rd t, mg_ii t, mg_tp t, mg_tl t, mg_ta t, mg_at t, O, P, bk, mg_nw t, mg_fs t, mg_bc t, mg_kr t, mg_rw t, mg_rc t) u) (fun r h' => ∃ x, r = some x ∧ (∃ (O' P' : Nat → Nat), h' = hA (mg_re t, mg_s t, mg_im t, mg_rd t, mg_ii t, mg_tp t, mg_tl t, mg_ta t, mg_at t, O', P', 0, mg_nw t, mg_fs t, mg_bc t, mg_kr t, mg_rw t, mg_rc t) u ∧ x = nI g0 ∧ (∀ i, O' i ≤ 1000000) ∧ ∀ i, P' i ≤ 1000000)) := by
  intro k
  induction k with
  | zero =>
    intro se f bk O P hd hf hO hP
    obtain ⟨⟨hs, h0, h1⟩, hbr, hnw, hou, hop⟩ := id hm
    have hp7 : 2 ^ mg_s t 0 ≤ 2 ^ 7 := Nat.pow_le_pow_right (by omega) h0
    have hp1 : 0 < 2 ^ mg_s t 0 := Nat.two_pow_pos _
    have hco : ∀ s, zco (fun p => mg_s t (5 + 5 * p + 4)) s (mg_s t 0) ≤ 7000 := fun s => by
      have := zco_le (c := fun p => mg_s t (5 + 5 * p + 4)) (fun p => hs _) s (mg_s t 0)
      omega
    cases f with
    | none =>
      have e0 : se = 2 ^ mg_s t 0 := by omega
      rw [e0] at hf
      unfold sBrk at hg0
      rw [hf] at hg0
      cases hg0
    | some g =>
      have e0 : se = 2 ^ mg_s t 0 := by omega
      rw [e0] at hf
      unfold sBrk at hg0
      rw [hf] at hg0
      have hbb : g = g0 := Option.some.inj hg0
      subst hbb
      have hgl := zlea_lt hf
      refine r_iload_n eX4_breaking_20 rfl rfl ?_
      refine r_aload_n eX4_breaking_21 rfl rfl ?_
      refine r_callVi0 eX4_breaking_22 lX4_117 (Or.inl ⟨_, _, _, rfl, rfl, rfl⟩) (s4_everybody (t := (mg_re t, mg_s t, mg_im t, mg_rd t, mg_ii t, mg_tp t, mg_tl t, mg_ta t, mg_at t, O, P, bk, mg_nw t, mg_fs t, mg_bc t, mg_kr t, mg_rw t, mg_rc t)) (u := u) h0) (by omega) (Nat.le_of_ble_eq_true rfl) (fun r1 h1 hq => ?_)
      obtain ⟨rfl, rfl⟩ := (show r1 = nI (2 ^ mg_s t 0 - 1) ∧ h1 = hA (mg_re t, mg_s t, mg_im t, mg_rd t, mg_ii t, mg_tp t, mg_tl t, mg_ta t, mg_at t, O, P, bk, mg_nw t, mg_fs t, mg_bc t, mg_kr t, mg_rw t, mg_rc t) u from hq)
      refine n_icmp_gt eX4_breaking_25 (by first | omega | (have := sAll_is (nw := mg_nw t) (br := se) ⟨hs, h0, h1⟩; omega) | (have := hco se; (try have := hco g); omega)) (by first | omega | (have := sAll_is (nw := mg_nw t) (br := se) ⟨hs, h0, h1⟩; omega) | (have := hco se; (try have := hco g); omega)) (fun hc25 => ?_) (fun hc25 => absurd hc25 (by omega))
      refine r_aload_n eX4_breaking_70 rfl rfl ?_
      refine n_iconst 0 eX4_breaking_71 rfl ?_
      refine mp_br (v := 0) eX4_breaking_72 fX4_137 rfl ?_
      refine r_iload_n eX4_breaking_75 rfl rfl ?_
      refine n_if_ne eX4_breaking_76 (by first | omega | (have := sAll_is (nw := mg_nw t) (br := se) ⟨hs, h0, h1⟩; omega) | (have := hco se; (try have := hco g); omega)) (fun hc76 => absurd hc76 (by decide)) (fun hc76 => ?_)
      refine r_iload_n eX4_breaking_79 rfl rfl ?_
      refine r_goto eX4_breaking_80 ?_
      exact z_iret eX4_breaking_88 rfl rfl ⟨_, rfl, O, P, rfl, rfl, hO, hP⟩
  | succ k ih =>
    intro se f bk O P hd hf hO hP
    obtain ⟨⟨hs, h0, h1⟩, hbr, hnw, hou, hop⟩ := id hm
    have hp7 : 2 ^ mg_s t 0 ≤ 2 ^ 7 := Nat.pow_le_pow_right (by omega) h0
    have hp1 : 0 < 2 ^ mg_s t 0 := Nat.two_pow_pos _
    have hco : ∀ s, zco (fun p => mg_s t (5 + 5 * p + 4)) s (mg_s t 0) ≤ 7000 := fun s => by
      have := zco_le (c := fun p => mg_s t (5 + 5 * p + 4)) (fun p => hs _) s (mg_s t 0)
      omega
    cases f with
    | none =>
      refine r_iload_n eX4_breaking_20 rfl rfl ?_
      refine r_aload_n eX4_breaking_21 rfl rfl ?_
      refine r_callVi0 eX4_breaking_22 lX4_117 (Or.inl ⟨_, _, _, rfl, rfl, rfl⟩) (s4_everybody (t := (mg_re t, mg_s t, mg_im t, mg_rd t, mg_ii t, mg_tp t, mg_tl t, mg_ta t, mg_at t, O, P, bk, mg_nw t, mg_fs t, mg_bc t, mg_kr t, mg_rw t, mg_rc t)) (u := u) h0) (by omega) (Nat.le_of_ble_eq_true rfl) (fun r1 h1 hq => ?_)
      obtain ⟨rfl, rfl⟩ := (show r1 = nI (2 ^ mg_s t 0 - 1) ∧ h1 = hA (mg_re t, mg_s t, mg_im t, mg_rd t, mg_ii t, mg_tp t, mg_tl t, mg_ta t, mg_at t, O, P, bk, mg_nw t, mg_fs t, mg_bc t, mg_kr t, mg_rw t, mg_rc t) u from hq)
      refine n_icmp_gt eX4_breaking_25 (by first | omega | (have := sAll_is (nw := mg_nw t) (br := se) ⟨hs, h0, h1⟩; omega) | (have := hco se; (try have := hco g); omega)) (by first | omega | (have := sAll_is (nw := mg_nw t) (br := se) ⟨hs, h0, h1⟩; omega) | (have := hco se; (try have := hco g); omega)) (fun hc25 => absurd hc25 (by omega)) (fun hc25 => ?_)
      refine r_iload_n eX4_breaking_28 rfl rfl ?_
      refine r_if_lt eX4_breaking_29 (fun hc29 => ?_) (fun hc29 => absurd hc29 (fun z => z (by decide)))
      refine r_aload_n eX4_breaking_48 rfl rfl ?_
      refine r_iload_n eX4_breaking_49 rfl rfl ?_
      refine mp_br (v := se) eX4_breaking_50 fX4_137 rfl ?_
      refine r_aload_n eX4_breaking_53 rfl rfl ?_
      refine r_callVi0 eX4_breaking_54 lX4_152 (Or.inl ⟨_, _, _, rfl, rfl, rfl⟩) (s4_allOut (t := (mg_re t, mg_s t, mg_im t, mg_rd t, mg_ii t, mg_tp t, mg_tl t, mg_ta t, mg_at t, O, P, se, mg_nw t, mg_fs t, mg_bc t, mg_kr t, mg_rw t, mg_rc t)) (u := u) ⟨⟨hs, h0, h1⟩, (show se < 128 by omega), hnw, hO, hP⟩) (by omega) (Nat.le_of_ble_eq_true rfl) (fun r1 h1 hq => ?_)
      obtain ⟨O9, P9, hh, hr, hou9, hop9⟩ := hq
      obtain rfl := (show h1 = hA (mg_re t, mg_s t, mg_im t, mg_rd t, mg_ii t, mg_tp t, mg_tl t, mg_ta t, mg_at t, O9, P9, se, mg_nw t, mg_fs t, mg_bc t, mg_kr t, mg_rw t, mg_rc t) u from hh)
      obtain rfl := (show r1 = nI (sAll (mg_s t) (mg_nw t) se) from hr)
      refine n_ldc 1000000 eX4_breaking_57 kX4_129 rfl ?_
      refine n_icmp_ge eX4_breaking_59 (by first | omega | (have := sAll_is (nw := mg_nw t) (br := se) ⟨hs, h0, h1⟩; omega) | (have := hco se; (try have := hco g); omega)) (by first | omega | (have := sAll_is (nw := mg_nw t) (br := se) ⟨hs, h0, h1⟩; omega) | (have := hco se; (try have := hco g); omega)) (fun hc59 => ?_) (fun hc59 => ?_)
      · refine n_iinc (k := 1) eX4_breaking_64 rfl (by decide) rfl ?_
        refine r_goto eX4_breaking_67 ?_
        have hge : ¬ sAll (mg_s t) (mg_nw t) se < 1000000 := by omega
        exact ih (se + 1) none se O9 P9 (by omega) (by rw [zlea_n hf, if_neg (fun z => absurd (of_decide_eq_true z) hge)]) hou9 hop9
      · refine r_iload_n eX4_breaking_62 rfl rfl ?_
        refine r_istore_n eX4_breaking_63 rfl (by decide) ?_
        refine n_iinc (k := 1) eX4_breaking_64 rfl (by decide) rfl ?_
        refine r_goto eX4_breaking_67 ?_
        have hlt : sAll (mg_s t) (mg_nw t) se < 1000000 := by omega
        exact ih (se + 1) (some se) se O9 P9 (by omega) (by rw [zlea_n hf, if_pos (decide_eq_true hlt)]) hou9 hop9
    | some g =>
      have hgl := zlea_lt hf
      refine r_iload_n eX4_breaking_20 rfl rfl ?_
      refine r_aload_n eX4_breaking_21 rfl rfl ?_
      refine r_callVi0 eX4_breaking_22 lX4_117 (Or.inl ⟨_, _, _, rfl, rfl, rfl⟩) (s4_everybody (t := (mg_re t, mg_s t, mg_im t, mg_rd t, mg_ii t, mg_tp t, mg_tl t, mg_ta t, mg_at t, O, P, bk, mg_nw t, mg_fs t, mg_bc t, mg_kr t, mg_rw t, mg_rc t)) (u := u) h0) (by omega) (Nat.le_of_ble_eq_true rfl) (fun r1 h1 hq => ?_)
      obtain ⟨rfl, rfl⟩ := (show r1 = nI (2 ^ mg_s t 0 - 1) ∧ h1 = hA (mg_re t, mg_s t, mg_im t, mg_rd t, mg_ii t, mg_tp t, mg_tl t, mg_ta t, mg_at t, O, P, bk, mg_nw t, mg_fs t, mg_bc t, mg_kr t, mg_rw t, mg_rc t) u from hq)
      refine n_icmp_gt eX4_breaking_25 (by first | omega | (have := sAll_is (nw := mg_nw t) (br := se) ⟨hs, h0, h1⟩; omega) | (have := hco se; (try have := hco g); omega)) (by first | omega | (have := sAll_is (nw := mg_nw t) (br := se) ⟨hs, h0, h1⟩; omega) | (have := hco se; (try have := hco g); omega)) (fun hc25 => absurd hc25 (by omega)) (fun hc25 => ?_)
      refine r_iload_n eX4_breaking_28 rfl rfl ?_
      refine n_if_lt eX4_breaking_29 (by first | omega | (have := sAll_is (nw := mg_nw t) (br := se) ⟨hs, h0, h1⟩; omega) | (have := hco se; (try have := hco g); omega)) ?_
      refine r_aload_n eX4_breaking_32 rfl rfl ?_
      refine r_iload_n eX4_breaking_33 rfl rfl ?_
      refine r_callVi1 eX4_breaking_34 lX4_189 (Or.inl ⟨_, _, _, rfl, rfl, rfl⟩) (s4_costOf (t := (mg_re t, mg_s t, mg_im t, mg_rd t, mg_ii t, mg_tp t, mg_tl t, mg_ta t, mg_at t, O, P, bk, mg_nw t, mg_fs t, mg_bc t, mg_kr t, mg_rw t, mg_rc t)) (u := u) hs h0 (s0 := se) (by omega)) (by omega) (Nat.le_of_ble_eq_true rfl) (fun r1 h1 hq => ?_)
      obtain ⟨rfl, rfl⟩ := (show r1 = nI (zco (fun p => mg_s t (5 + 5 * p + 4)) se (mg_s t 0)) ∧ h1 = hA (mg_re t, mg_s t, mg_im t, mg_rd t, mg_ii t, mg_tp t, mg_tl t, mg_ta t, mg_at t, O, P, bk, mg_nw t, mg_fs t, mg_bc t, mg_kr t, mg_rw t, mg_rc t) u from hq)
      refine r_aload_n eX4_breaking_37 rfl rfl ?_
      refine r_iload_n eX4_breaking_38 rfl rfl ?_
      refine r_callVi1 eX4_breaking_39 lX4_189 (Or.inl ⟨_, _, _, rfl, rfl, rfl⟩) (s4_costOf (t := (mg_re t, mg_s t, mg_im t, mg_rd t, mg_ii t, mg_tp t, mg_tl t, mg_ta t, mg_at t, O, P, bk, mg_nw t, mg_fs t, mg_bc t, mg_kr t, mg_rw t, mg_rc t)) (u := u) hs h0 (s0 := g) (by omega)) (by omega) (Nat.le_of_ble_eq_true rfl) (fun r1 h1 hq => ?_)
      obtain ⟨rfl, rfl⟩ := (show r1 = nI (zco (fun p => mg_s t (5 + 5 * p + 4)) g (mg_s t 0)) ∧ h1 = hA (mg_re t, mg_s t, mg_im t, mg_rd t, mg_ii t, mg_tp t, mg_tl t, mg_ta t, mg_at t, O, P, bk, mg_nw t, mg_fs t, mg_bc t, mg_kr t, mg_rw t, mg_rc t) u from hq)
      refine n_icmp_lt eX4_breaking_42 (by first | omega | (have := sAll_is (nw := mg_nw t) (br := se) ⟨hs, h0, h1⟩; omega) | (have := hco se; (try have := hco g); omega)) (by first | omega | (have := sAll_is (nw := mg_nw t) (br := se) ⟨hs, h0, h1⟩; omega) | (have := hco se; (try have := hco g); omega)) (fun hc42 => ?_) (fun hc42 => ?_)
      · refine r_aload_n eX4_breaking_48 rfl rfl ?_
        refine r_iload_n eX4_breaking_49 rfl rfl ?_
        refine mp_br (v := se) eX4_breaking_50 fX4_137 rfl ?_
        refine r_aload_n eX4_breaking_53 rfl rfl ?_
        refine r_callVi0 eX4_breaking_54 lX4_152 (Or.inl ⟨_, _, _, rfl, rfl, rfl⟩) (s4_allOut (t := (mg_re t, mg_s t, mg_im t, mg_rd t, mg_ii t, mg_tp t, mg_tl t, mg_ta t, mg_at t, O, P, se, mg_nw t, mg_fs t, mg_bc t, mg_kr t, mg_rw t, mg_rc t)) (u := u) ⟨⟨hs, h0, h1⟩, (show se < 128 by omega), hnw, hO, hP⟩) (by omega) (Nat.le_of_ble_eq_true rfl) (fun r1 h1 hq => ?_)
        obtain ⟨O9, P9, hh, hr, hou9, hop9⟩ := hq
        obtain rfl := (show h1 = hA (mg_re t, mg_s t, mg_im t, mg_rd t, mg_ii t, mg_tp t, mg_tl t, mg_ta t, mg_at t, O9, P9, se, mg_nw t, mg_fs t, mg_bc t, mg_kr t, mg_rw t, mg_rc t) u from hh)
        obtain rfl := (show r1 = nI (sAll (mg_s t) (mg_nw t) se) from hr)
        refine n_ldc 1000000 eX4_breaking_57 kX4_129 rfl ?_
        refine n_icmp_ge eX4_breaking_59 (by first | omega | (have := sAll_is (nw := mg_nw t) (br := se) ⟨hs, h0, h1⟩; omega) | (have := hco se; (try have := hco g); omega)) (by first | omega | (have := sAll_is (nw := mg_nw t) (br := se) ⟨hs, h0, h1⟩; omega) | (have := hco se; (try have := hco g); omega)) (fun hc59 => ?_) (fun hc59 => ?_)
        · refine n_iinc (k := 1) eX4_breaking_64 rfl (by decide) rfl ?_
          refine r_goto eX4_breaking_67 ?_
          have hge : ¬ sAll (mg_s t) (mg_nw t) se < 1000000 := by omega
          exact ih (se + 1) (some g) se O9 P9 (by omega) (by rw [zlea_s hf, if_neg (fun z => absurd (of_decide_eq_true z.2) hge)]) hou9 hop9
        · refine r_iload_n eX4_breaking_62 rfl rfl ?_
          refine r_istore_n eX4_breaking_63 rfl (by decide) ?_
          refine n_iinc (k := 1) eX4_breaking_64 rfl (by decide) rfl ?_
          refine r_goto eX4_breaking_67 ?_
          have hlt : sAll (mg_s t) (mg_nw t) se < 1000000 := by omega
          exact ih (se + 1) (some se) se O9 P9 (by omega) (by rw [zlea_s hf, if_pos ⟨hc42, decide_eq_true hlt⟩]) hou9 hop9
      · refine r_goto eX4_breaking_45 ?_
        refine n_iinc (k := 1) eX4_breaking_64 rfl (by decide) rfl ?_
        refine r_goto eX4_breaking_67 ?_
        exact ih (se + 1) (some g) bk O P (by omega) (by rw [zlea_s hf, if_neg (fun z => Nat.not_lt.mpr hc42 z.1)]) hO hP
set_option maxHeartbeats 1000000 in
set_option maxRecDepth 100000 in
theorem s4_brk_l1 {t : zMod} {u : zCls} (hm : mOk t) {g0 : Nat} (hg0 : sBrk (mg_s t) (mg_nw t) = some g0) : ∀ (k : Nat) (se : Nat) (f : Option Nat) (bk : Nat) (O : Nat → Nat) (P : Nat → Nat) (hd : se + k = 2 ^ mg_s t 0) (hf : zlea (fun s => zco (fun p => mg_s t (5 + 5 * p + 4)) s (mg_s t 0)) (fun s => decide (sAll (mg_s t) (mg_nw t) s < 1000000)) se = f) (hO : ∀ i, O i ≤ 1000000) (hP : ∀ i, P i ≤ 1000000), Rq mX4_breaking 10 none 20 [.ref 0, .int (nI 1), .int (zor f), .int (nI se)] [] (hA (mg_re t, mg_s t, mg_im t, mg_rd t, mg_ii t, mg_tp t, mg_tl t, mg_ta t, mg_at t, O, P, bk, mg_nw t, mg_fs t, mg_bc t, mg_kr t, mg_rw t, mg_rc t) u) (fun r h' => ∃ x, r = some x ∧ (∃ (O' P' : Nat → Nat), h' = hA (mg_re t, mg_s t, mg_im t, mg_rd t, mg_ii t, mg_tp t, mg_tl t, mg_ta t, mg_at t, O', P', 0, mg_nw t, mg_fs t, mg_bc t, mg_kr t, mg_rw t, mg_rc t) u ∧ x = nI (zco (fun p => mg_s t (5 + 5 * p + 4)) g0 (mg_s t 0)) ∧ (∀ i, O' i ≤ 1000000) ∧ ∀ i, P' i ≤ 1000000)) := by
  intro k
  induction k with
  | zero =>
    intro se f bk O P hd hf hO hP
    obtain ⟨⟨hs, h0, h1⟩, hbr, hnw, hou, hop⟩ := id hm
    have hp7 : 2 ^ mg_s t 0 ≤ 2 ^ 7 := Nat.pow_le_pow_right (by omega) h0
    have hp1 : 0 < 2 ^ mg_s t 0 := Nat.two_pow_pos _
    have hco : ∀ s, zco (fun p => mg_s t (5 + 5 * p + 4)) s (mg_s t 0) ≤ 7000 := fun s => by
      have := zco_le (c := fun p => mg_s t (5 + 5 * p + 4)) (fun p => hs _) s (mg_s t 0)
      omega
    cases f with
    | none =>
      have e0 : se = 2 ^ mg_s t 0 := by omega
      rw [e0] at hf
      unfold sBrk at hg0
      rw [hf] at hg0
      cases hg0
    | some g =>
      have e0 : se = 2 ^ mg_s t 0 := by omega
      rw [e0] at hf
      unfold sBrk at hg0
      rw [hf] at hg0
      have hbb : g = g0 := Option.some.inj hg0
      subst hbb
      have hgl := zlea_lt hf
      refine r_iload_n eX4_breaking_20 rfl rfl ?_
      refine r_aload_n eX4_breaking_21 rfl rfl ?_
      refine r_callVi0 eX4_breaking_22 lX4_117 (Or.inl ⟨_, _, _, rfl, rfl, rfl⟩) (s4_everybody (t := (mg_re t, mg_s t, mg_im t, mg_rd t, mg_ii t, mg_tp t, mg_tl t, mg_ta t, mg_at t, O, P, bk, mg_nw t, mg_fs t, mg_bc t, mg_kr t, mg_rw t, mg_rc t)) (u := u) h0) (by omega) (Nat.le_of_ble_eq_true rfl) (fun r1 h1 hq => ?_)
      obtain ⟨rfl, rfl⟩ := (show r1 = nI (2 ^ mg_s t 0 - 1) ∧ h1 = hA (mg_re t, mg_s t, mg_im t, mg_rd t, mg_ii t, mg_tp t, mg_tl t, mg_ta t, mg_at t, O, P, bk, mg_nw t, mg_fs t, mg_bc t, mg_kr t, mg_rw t, mg_rc t) u from hq)
      refine n_icmp_gt eX4_breaking_25 (by first | omega | (have := sAll_is (nw := mg_nw t) (br := se) ⟨hs, h0, h1⟩; omega) | (have := hco se; (try have := hco g); omega)) (by first | omega | (have := sAll_is (nw := mg_nw t) (br := se) ⟨hs, h0, h1⟩; omega) | (have := hco se; (try have := hco g); omega)) (fun hc25 => ?_) (fun hc25 => absurd hc25 (by omega))
      refine r_aload_n eX4_breaking_70 rfl rfl ?_
      refine n_iconst 0 eX4_breaking_71 rfl ?_
      refine mp_br (v := 0) eX4_breaking_72 fX4_137 rfl ?_
      refine r_iload_n eX4_breaking_75 rfl rfl ?_
      refine n_if_ne eX4_breaking_76 (by first | omega | (have := sAll_is (nw := mg_nw t) (br := se) ⟨hs, h0, h1⟩; omega) | (have := hco se; (try have := hco g); omega)) (fun hc76 => ?_) (fun hc76 => absurd hc76 (by decide))
      refine r_aload_n eX4_breaking_83 rfl rfl ?_
      refine r_iload_n eX4_breaking_84 rfl rfl ?_
      refine r_callVi1 eX4_breaking_85 lX4_189 (Or.inl ⟨_, _, _, rfl, rfl, rfl⟩) (s4_costOf (t := (mg_re t, mg_s t, mg_im t, mg_rd t, mg_ii t, mg_tp t, mg_tl t, mg_ta t, mg_at t, O, P, 0, mg_nw t, mg_fs t, mg_bc t, mg_kr t, mg_rw t, mg_rc t)) (u := u) hs h0 (s0 := g) (by omega)) (by omega) (Nat.le_of_ble_eq_true rfl) (fun r1 h1 hq => ?_)
      obtain ⟨rfl, rfl⟩ := (show r1 = nI (zco (fun p => mg_s t (5 + 5 * p + 4)) g (mg_s t 0)) ∧ h1 = hA (mg_re t, mg_s t, mg_im t, mg_rd t, mg_ii t, mg_tp t, mg_tl t, mg_ta t, mg_at t, O, P, 0, mg_nw t, mg_fs t, mg_bc t, mg_kr t, mg_rw t, mg_rc t) u from hq)
      exact z_iret eX4_breaking_88 rfl rfl ⟨_, rfl, O, P, rfl, rfl, hO, hP⟩
  | succ k ih =>
    intro se f bk O P hd hf hO hP
    obtain ⟨⟨hs, h0, h1⟩, hbr, hnw, hou, hop⟩ := id hm
    have hp7 : 2 ^ mg_s t 0 ≤ 2 ^ 7 := Nat.pow_le_pow_right (by omega) h0
    have hp1 : 0 < 2 ^ mg_s t 0 := Nat.two_pow_pos _
    have hco : ∀ s, zco (fun p => mg_s t (5 + 5 * p + 4)) s (mg_s t 0) ≤ 7000 := fun s => by
      have := zco_le (c := fun p => mg_s t (5 + 5 * p + 4)) (fun p => hs _) s (mg_s t 0)
      omega
    cases f with
    | none =>
      refine r_iload_n eX4_breaking_20 rfl rfl ?_
      refine r_aload_n eX4_breaking_21 rfl rfl ?_
      refine r_callVi0 eX4_breaking_22 lX4_117 (Or.inl ⟨_, _, _, rfl, rfl, rfl⟩) (s4_everybody (t := (mg_re t, mg_s t, mg_im t, mg_rd t, mg_ii t, mg_tp t, mg_tl t, mg_ta t, mg_at t, O, P, bk, mg_nw t, mg_fs t, mg_bc t, mg_kr t, mg_rw t, mg_rc t)) (u := u) h0) (by omega) (Nat.le_of_ble_eq_true rfl) (fun r1 h1 hq => ?_)
      obtain ⟨rfl, rfl⟩ := (show r1 = nI (2 ^ mg_s t 0 - 1) ∧ h1 = hA (mg_re t, mg_s t, mg_im t, mg_rd t, mg_ii t, mg_tp t, mg_tl t, mg_ta t, mg_at t, O, P, bk, mg_nw t, mg_fs t, mg_bc t, mg_kr t, mg_rw t, mg_rc t) u from hq)
      refine n_icmp_gt eX4_breaking_25 (by first | omega | (have := sAll_is (nw := mg_nw t) (br := se) ⟨hs, h0, h1⟩; omega) | (have := hco se; (try have := hco g); omega)) (by first | omega | (have := sAll_is (nw := mg_nw t) (br := se) ⟨hs, h0, h1⟩; omega) | (have := hco se; (try have := hco g); omega)) (fun hc25 => absurd hc25 (by omega)) (fun hc25 => ?_)
      refine r_iload_n eX4_breaking_28 rfl rfl ?_
      refine r_if_lt eX4_breaking_29 (fun hc29 => ?_) (fun hc29 => absurd hc29 (fun z => z (by decide)))
      refine r_aload_n eX4_breaking_48 rfl rfl ?_
      refine r_iload_n eX4_breaking_49 rfl rfl ?_
      refine mp_br (v := se) eX4_breaking_50 fX4_137 rfl ?_
      refine r_aload_n eX4_breaking_53 rfl rfl ?_
      refine r_callVi0 eX4_breaking_54 lX4_152 (Or.inl ⟨_, _, _, rfl, rfl, rfl⟩) (s4_allOut (t := (mg_re t, mg_s t, mg_im t, mg_rd t, mg_ii t, mg_tp t, mg_tl t, mg_ta t, mg_at t, O, P, se, mg_nw t, mg_fs t, mg_bc t, mg_kr t, mg_rw t, mg_rc t)) (u := u) ⟨⟨hs, h0, h1⟩, (show se < 128 by omega), hnw, hO, hP⟩) (by omega) (Nat.le_of_ble_eq_true rfl) (fun r1 h1 hq => ?_)
      obtain ⟨O9, P9, hh, hr, hou9, hop9⟩ := hq
      obtain rfl := (show h1 = hA (mg_re t, mg_s t, mg_im t, mg_rd t, mg_ii t, mg_tp t, mg_tl t, mg_ta t, mg_at t, O9, P9, se, mg_nw t, mg_fs t, mg_bc t, mg_kr t, mg_rw t, mg_rc t) u from hh)
      obtain rfl := (show r1 = nI (sAll (mg_s t) (mg_nw t) se) from hr)
      refine n_ldc 1000000 eX4_breaking_57 kX4_129 rfl ?_
      refine n_icmp_ge eX4_breaking_59 (by first | omega | (have := sAll_is (nw := mg_nw t) (br := se) ⟨hs, h0, h1⟩; omega) | (have := hco se; (try have := hco g); omega)) (by first | omega | (have := sAll_is (nw := mg_nw t) (br := se) ⟨hs, h0, h1⟩; omega) | (have := hco se; (try have := hco g); omega)) (fun hc59 => ?_) (fun hc59 => ?_)
      · refine n_iinc (k := 1) eX4_breaking_64 rfl (by decide) rfl ?_
        refine r_goto eX4_breaking_67 ?_
        have hge : ¬ sAll (mg_s t) (mg_nw t) se < 1000000 := by omega
        exact ih (se + 1) none se O9 P9 (by omega) (by rw [zlea_n hf, if_neg (fun z => absurd (of_decide_eq_true z) hge)]) hou9 hop9
      · refine r_iload_n eX4_breaking_62 rfl rfl ?_
        refine r_istore_n eX4_breaking_63 rfl (by decide) ?_
        refine n_iinc (k := 1) eX4_breaking_64 rfl (by decide) rfl ?_
        refine r_goto eX4_breaking_67 ?_
        have hlt : sAll (mg_s t) (mg_nw t) se < 1000000 := by omega
        exact ih (se + 1) (some se) se O9 P9 (by omega) (by rw [zlea_n hf, if_pos (decide_eq_true hlt)]) hou9 hop9
    | some g =>
      have hgl := zlea_lt hf
      refine r_iload_n eX4_breaking_20 rfl rfl ?_
      refine r_aload_n eX4_breaking_21 rfl rfl ?_
      refine r_callVi0 eX4_breaking_22 lX4_117 (Or.inl ⟨_, _, _, rfl, rfl, rfl⟩) (s4_everybody (t := (mg_re t, mg_s t, mg_im t, mg_rd t, mg_ii t, mg_tp t, mg_tl t, mg_ta t, mg_at t, O, P, bk, mg_nw t, mg_fs t, mg_bc t, mg_kr t, mg_rw t, mg_rc t)) (u := u) h0) (by omega) (Nat.le_of_ble_eq_true rfl) (fun r1 h1 hq => ?_)
      obtain ⟨rfl, rfl⟩ := (show r1 = nI (2 ^ mg_s t 0 - 1) ∧ h1 = hA (mg_re t, mg_s t, mg_im t, mg_rd t, mg_ii t, mg_tp t, mg_tl t, mg_ta t, mg_at t, O, P, bk, mg_nw t, mg_fs t, mg_bc t, mg_kr t, mg_rw t, mg_rc t) u from hq)
      refine n_icmp_gt eX4_breaking_25 (by first | omega | (have := sAll_is (nw := mg_nw t) (br := se) ⟨hs, h0, h1⟩; omega) | (have := hco se; (try have := hco g); omega)) (by first | omega | (have := sAll_is (nw := mg_nw t) (br := se) ⟨hs, h0, h1⟩; omega) | (have := hco se; (try have := hco g); omega)) (fun hc25 => absurd hc25 (by omega)) (fun hc25 => ?_)
      refine r_iload_n eX4_breaking_28 rfl rfl ?_
      refine n_if_lt eX4_breaking_29 (by first | omega | (have := sAll_is (nw := mg_nw t) (br := se) ⟨hs, h0, h1⟩; omega) | (have := hco se; (try have := hco g); omega)) ?_
      refine r_aload_n eX4_breaking_32 rfl rfl ?_
      refine r_iload_n eX4_breaking_33 rfl rfl ?_
      refine r_callVi1 eX4_breaking_34 lX4_189 (Or.inl ⟨_, _, _, rfl, rfl, rfl⟩) (s4_costOf (t := (mg_re t, mg_s t, mg_im t, mg_rd t, mg_ii t, mg_tp t, mg_tl t, mg_ta t, mg_at t, O, P, bk, mg_nw t, mg_fs t, mg_bc t, mg_kr t, mg_rw t, mg_rc t)) (u := u) hs h0 (s0 := se) (by omega)) (by omega) (Nat.le_of_ble_eq_true rfl) (fun r1 h1 hq => ?_)
      obtain ⟨rfl, rfl⟩ := (show r1 = nI (zco (fun p => mg_s t (5 + 5 * p + 4)) se (mg_s t 0)) ∧ h1 = hA (mg_re t, mg_s t, mg_im t, mg_rd t, mg_ii t, mg_tp t, mg_tl t, mg_ta t, mg_at t, O, P, bk, mg_nw t, mg_fs t, mg_bc t, mg_kr t, mg_rw t, mg_rc t) u from hq)
      refine r_aload_n eX4_breaking_37 rfl rfl ?_
      refine r_iload_n eX4_breaking_38 rfl rfl ?_
      refine r_callVi1 eX4_breaking_39 lX4_189 (Or.inl ⟨_, _, _, rfl, rfl, rfl⟩) (s4_costOf (t := (mg_re t, mg_s t, mg_im t, mg_rd t, mg_ii t, mg_tp t, mg_tl t, mg_ta t, mg_at t, O, P, bk, mg_nw t, mg_fs t, mg_bc t, mg_kr t, mg_rw t, mg_rc t)) (u := u) hs h0 (s0 := g) (by omega)) (by omega) (Nat.le_of_ble_eq_true rfl) (fun r1 h1 hq => ?_)
      obtain ⟨rfl, rfl⟩ := (show r1 = nI (zco (fun p => mg_s t (5 + 5 * p + 4)) g (mg_s t 0)) ∧ h1 = hA (mg_re t, mg_s t, mg_im t, mg_rd t, mg_ii t, mg_tp t, mg_tl t, mg_ta t, mg_at t, O, P, bk, mg_nw t, mg_fs t, mg_bc t, mg_kr t, mg_rw t, mg_rc t) u from hq)
      refine n_icmp_lt eX4_breaking_42 (by first | omega | (have := sAll_is (nw := mg_nw t) (br := se) ⟨hs, h0, h1⟩; omega) | (have := hco se; (try have := hco g); omega)) (by first | omega | (have := sAll_is (nw := mg_nw t) (br := se) ⟨hs, h0, h1⟩; omega) | (have := hco se; (try have := hco g); omega)) (fun hc42 => ?_) (fun hc42 => ?_)
      · refine r_aload_n eX4_breaking_48 rfl rfl ?_
        refine r_iload_n eX4_breaking_49 rfl rfl ?_
        refine mp_br (v := se) eX4_breaking_50 fX4_137 rfl ?_
        refine r_aload_n eX4_breaking_53 rfl rfl ?_
        refine r_callVi0 eX4_breaking_54 lX4_152 (Or.inl ⟨_, _, _, rfl, rfl, rfl⟩) (s4_allOut (t := (mg_re t, mg_s t, mg_im t, mg_rd t, mg_ii t, mg_tp t, mg_tl t, mg_ta t, mg_at t, O, P, se, mg_nw t, mg_fs t, mg_bc t, mg_kr t, mg_rw t, mg_rc t)) (u := u) ⟨⟨hs, h0, h1⟩, (show se < 128 by omega), hnw, hO, hP⟩) (by omega) (Nat.le_of_ble_eq_true rfl) (fun r1 h1 hq => ?_)
        obtain ⟨O9, P9, hh, hr, hou9, hop9⟩ := hq
        obtain rfl := (show h1 = hA (mg_re t, mg_s t, mg_im t, mg_rd t, mg_ii t, mg_tp t, mg_tl t, mg_ta t, mg_at t, O9, P9, se, mg_nw t, mg_fs t, mg_bc t, mg_kr t, mg_rw t, mg_rc t) u from hh)
        obtain rfl := (show r1 = nI (sAll (mg_s t) (mg_nw t) se) from hr)
        refine n_ldc 1000000 eX4_breaking_57 kX4_129 rfl ?_
        refine n_icmp_ge eX4_breaking_59 (by first | omega | (have := sAll_is (nw := mg_nw t) (br := se) ⟨hs, h0, h1⟩; omega) | (have := hco se; (try have := hco g); omega)) (by first | omega | (have := sAll_is (nw := mg_nw t) (br := se) ⟨hs, h0, h1⟩; omega) | (have := hco se; (try have := hco g); omega)) (fun hc59 => ?_) (fun hc59 => ?_)
        · refine n_iinc (k := 1) eX4_breaking_64 rfl (by decide) rfl ?_
          refine r_goto eX4_breaking_67 ?_
          have hge : ¬ sAll (mg_s t) (mg_nw t) se < 1000000 := by omega
          exact ih (se + 1) (some g) se O9 P9 (by omega) (by rw [zlea_s hf, if_neg (fun z => absurd (of_decide_eq_true z.2) hge)]) hou9 hop9
        · refine r_iload_n eX4_breaking_62 rfl rfl ?_
          refine r_istore_n eX4_breaking_63 rfl (by decide) ?_
          refine n_iinc (k := 1) eX4_breaking_64 rfl (by decide) rfl ?_
          refine r_goto eX4_breaking_67 ?_
          have hlt : sAll (mg_s t) (mg_nw t) se < 1000000 := by omega
          exact ih (se + 1) (some se) se O9 P9 (by omega) (by rw [zlea_s hf, if_pos ⟨hc42, decide_eq_true hlt⟩]) hou9 hop9
      · refine r_goto eX4_breaking_45 ?_
        refine n_iinc (k := 1) eX4_breaking_64 rfl (by decide) rfl ?_
        refine r_goto eX4_breaking_67 ?_
        exact ih (se + 1) (some g) bk O P (by omega) (by rw [zlea_s hf, if_neg (fun z => Nat.not_lt.mpr hc42 z.1)]) hO hP
set_option maxHeartbeats 1000000 in
set_option maxRecDepth 100000 in
theorem s4_breaking_o {t : zMod} {u : zCls} (hm : mOk t) {x : Int32} (hx : x < 0 ∨ nI 2 ≤ x) : Mi mX4_breaking 10 [.ref 0, .int (x)] (hA t u) (fun r h' => r = (-2) ∧ h' = hA ((va_up (mg_re t) 2 (mg_re t 2 + 1)), mg_s t, mg_im t, mg_rd t, mg_ii t, mg_tp t, mg_tl t, mg_ta t, mg_at t, mg_ou t, mg_op t, mg_br t, mg_nw t, mg_fs t, mg_bc t, mg_kr t, mg_rw t, mg_rc t) u) := by
  refine Mi.of (by decide) rfl (Nat.le_of_ble_eq_true rfl) ?_
  refine r_iload_n eX4_breaking_0 rfl rfl ?_
  refine n_iconst 2 eX4_breaking_1 rfl ?_
  refine r_callSi2 eX4_breaking_2 lX4_40 (s4_isIn_n hx) (by omega) (Nat.le_of_ble_eq_true rfl) (fun r1 h1 hq => ?_)
  obtain ⟨rfl, rfl⟩ := hq
  refine n_if_ne eX4_breaking_5 (by first | omega | exact zlt (hs _) | exact hou _ | exact hop _) (fun hc5 => absurd hc5 (by decide)) (fun hc5 => ?_)
  refine r_aload_n eX4_breaking_8 rfl rfl ?_
  refine r_bipush (v := (-2)) eX4_breaking_9 rfl ?_
  refine r_callVi1 eX4_breaking_11 lX4_52 (Or.inl ⟨_, _, _, rfl, rfl, rfl⟩) (s4_refuse (t := t) (u := u) (x := (-2)) (c := 2) (by decide) (by decide)) (by omega) (Nat.le_of_ble_eq_true rfl) (fun r1 h1 hq => ?_)
  obtain ⟨rfl, rfl⟩ := (show r1 = (-2) ∧ h1 = hA ((va_up (mg_re t) 2 ((mg_re t) 2 + 1)), mg_s t, mg_im t, mg_rd t, mg_ii t, mg_tp t, mg_tl t, mg_ta t, mg_at t, mg_ou t, mg_op t, mg_br t, mg_nw t, mg_fs t, mg_bc t, mg_kr t, mg_rw t, mg_rc t) u from hq)
  exact z_iret eX4_breaking_14 rfl rfl ⟨_, rfl, rfl, rfl⟩
set_option maxHeartbeats 1000000 in
set_option maxRecDepth 100000 in
theorem s4_breaking_0 {t : zMod} {u : zCls} (hm : mOk t) {g0 : Nat} (hg0 : sBrk (mg_s t) (mg_nw t) = some g0) : Mi mX4_breaking 10 [.ref 0, .int (nI (0))] (hA t u) (fun r h' => ∃ (O' P' : Nat → Nat), h' = hA (mg_re t, mg_s t, mg_im t, mg_rd t, mg_ii t, mg_tp t, mg_tl t, mg_ta t, mg_at t, O', P', 0, mg_nw t, mg_fs t, mg_bc t, mg_kr t, mg_rw t, mg_rc t) u ∧ r = nI g0 ∧ (∀ i, O' i ≤ 1000000) ∧ ∀ i, P' i ≤ 1000000) := by
  obtain ⟨⟨hs, h0, h1⟩, hbr, hnw, hou, hop⟩ := id hm
  refine Mi.of (by decide) rfl (Nat.le_of_ble_eq_true rfl) ?_
  refine r_iload_n eX4_breaking_0 rfl rfl ?_
  refine n_iconst 2 eX4_breaking_1 rfl ?_
  refine r_callSi2 eX4_breaking_2 lX4_40 (s4_isIn_y (by decide) (by decide)) (by omega) (Nat.le_of_ble_eq_true rfl) (fun r1 h1 hq => ?_)
  obtain ⟨rfl, rfl⟩ := hq
  refine n_if_ne eX4_breaking_5 (by first | omega | exact zlt (hs _) | exact hou _ | exact hop _) (fun hc5 => ?_) (fun hc5 => absurd hc5 (by decide))
  refine r_bipush (v := (-9)) eX4_breaking_15 rfl ?_
  refine r_istore_n eX4_breaking_17 rfl (by decide) ?_
  refine n_iconst 0 eX4_breaking_18 rfl ?_
  refine r_istore_n eX4_breaking_19 rfl (by decide) ?_
  refine z_h (h' := hA (mg_re t, mg_s t, mg_im t, mg_rd t, mg_ii t, mg_tp t, mg_tl t, mg_ta t, mg_at t, mg_ou t, mg_op t, mg_br t, mg_nw t, mg_fs t, mg_bc t, mg_kr t, mg_rw t, mg_rc t) u) rfl ?_
  exact s4_brk_l0 hm hg0 (2 ^ mg_s t 0) 0 none (mg_br t) (mg_ou t) (mg_op t) (Nat.zero_add _) rfl hou hop
set_option maxHeartbeats 1000000 in
set_option maxRecDepth 100000 in
theorem s4_breaking_1 {t : zMod} {u : zCls} (hm : mOk t) {g0 : Nat} (hg0 : sBrk (mg_s t) (mg_nw t) = some g0) : Mi mX4_breaking 10 [.ref 0, .int (nI (1))] (hA t u) (fun r h' => ∃ (O' P' : Nat → Nat), h' = hA (mg_re t, mg_s t, mg_im t, mg_rd t, mg_ii t, mg_tp t, mg_tl t, mg_ta t, mg_at t, O', P', 0, mg_nw t, mg_fs t, mg_bc t, mg_kr t, mg_rw t, mg_rc t) u ∧ r = nI (zco (fun p => mg_s t (5 + 5 * p + 4)) g0 (mg_s t 0)) ∧ (∀ i, O' i ≤ 1000000) ∧ ∀ i, P' i ≤ 1000000) := by
  obtain ⟨⟨hs, h0, h1⟩, hbr, hnw, hou, hop⟩ := id hm
  refine Mi.of (by decide) rfl (Nat.le_of_ble_eq_true rfl) ?_
  refine r_iload_n eX4_breaking_0 rfl rfl ?_
  refine n_iconst 2 eX4_breaking_1 rfl ?_
  refine r_callSi2 eX4_breaking_2 lX4_40 (s4_isIn_y (by decide) (by decide)) (by omega) (Nat.le_of_ble_eq_true rfl) (fun r1 h1 hq => ?_)
  obtain ⟨rfl, rfl⟩ := hq
  refine n_if_ne eX4_breaking_5 (by first | omega | exact zlt (hs _) | exact hou _ | exact hop _) (fun hc5 => ?_) (fun hc5 => absurd hc5 (by decide))
  refine r_bipush (v := (-9)) eX4_breaking_15 rfl ?_
  refine r_istore_n eX4_breaking_17 rfl (by decide) ?_
  refine n_iconst 0 eX4_breaking_18 rfl ?_
  refine r_istore_n eX4_breaking_19 rfl (by decide) ?_
  refine z_h (h' := hA (mg_re t, mg_s t, mg_im t, mg_rd t, mg_ii t, mg_tp t, mg_tl t, mg_ta t, mg_at t, mg_ou t, mg_op t, mg_br t, mg_nw t, mg_fs t, mg_bc t, mg_kr t, mg_rw t, mg_rc t) u) rfl ?_
  exact s4_brk_l1 hm hg0 (2 ^ mg_s t 0) 0 none (mg_br t) (mg_ou t) (mg_op t) (Nat.zero_add _) rfl hou hop
