/-! THE CLASS: its town -/
theorem zabs {a b : Nat} (ha : a < 7) (hb : b < 7) : (if 0 ≤ nI a - nI b then nI a - nI b else 0 - (nI a - nI b)) = nI (zfar a b) := by
  have : ∀ a, a < 7 → ∀ b, b < 7 → (if 0 ≤ nI a - nI b then nI a - nI b else 0 - (nI a - nI b)) = nI (zfar a b) := by decide +kernel
  exact this a ha b hb
theorem zfar_le {n a b : Nat} (ha : a < n) (hb : b < n) : zfar a b < n := by
  unfold zfar
  split <;> omega
theorem zway_1 {r n a b : Nat} (hr : 0 < r) (hr1 : r ≤ 1) (ha : a < n) (hb : b < n) : min (zfar a b) (n - zfar a b) = zway r n a b := by
  have := zfar_le ha hb
  unfold zway
  split <;> omega
theorem zway_0 {r n a b : Nat} (hr : r = 0) : zfar a b = zway r n a b := by
  unfold zway
  rw [if_neg (by omega)]
set_option maxHeartbeats 1000000 in
set_option maxRecDepth 100000 in
theorem s2_hasPerson_y_now {t : zMod} {u : zCls} (ho : tOk (cg_now u)) {v : Nat} (hv : v < tg_people (cg_now u)) : Mi mX2_hasPerson 1 [.ref 16, .int (nI (v))] (hA t u) (fun r h' => r = nI 1 ∧ h' = hA t u) := by
  obtain ⟨hp7, hk12, hpc, hwt, hrg, hpp⟩ := id ho
  refine Mi.of (by decide) rfl (Nat.le_of_ble_eq_true rfl) ?_
  refine r_iload_n eX2_hasPerson_0 rfl rfl ?_
  refine n_if_lt eX2_hasPerson_1 (by omega) ?_
  refine r_iload_n eX2_hasPerson_4 rfl rfl ?_
  refine r_aload_n eX2_hasPerson_5 rfl rfl ?_
  refine r_getf (v := .int (nI (tg_people (cg_now u)))) eX2_hasPerson_6 fX2_43 rfl rfl ?_
  refine n_icmp_ge eX2_hasPerson_9 (by omega) (by omega) (fun hc9 => absurd hc9 (by omega)) (fun hc9 => ?_)
  refine n_iconst 1 eX2_hasPerson_12 rfl ?_
  refine r_goto eX2_hasPerson_13 ?_
  exact z_iret eX2_hasPerson_17 rfl (by decide) ⟨_, rfl, rfl, rfl⟩
set_option maxHeartbeats 1000000 in
set_option maxRecDepth 100000 in
theorem s2_hasPerson_n_now {t : zMod} {u : zCls} {v : Int32} (hv : v < 0 ∨ nI (tg_people (cg_now u)) ≤ v) : Mi mX2_hasPerson 1 [.ref 16, .int (v)] (hA t u) (fun r h' => r = nI 0 ∧ h' = hA t u) := by
  refine Mi.of (by decide) rfl (Nat.le_of_ble_eq_true rfl) ?_
  refine r_iload_n eX2_hasPerson_0 rfl rfl ?_
  refine r_if_lt eX2_hasPerson_1 (fun hc1 => ?_) (fun hc1 => ?_)
  · refine n_iconst 0 eX2_hasPerson_16 rfl ?_
    exact z_iret eX2_hasPerson_17 rfl (by decide) ⟨_, rfl, rfl, rfl⟩
  · refine r_iload_n eX2_hasPerson_4 rfl rfl ?_
    refine r_aload_n eX2_hasPerson_5 rfl rfl ?_
    refine r_getf (v := .int (nI (tg_people (cg_now u)))) eX2_hasPerson_6 fX2_43 rfl rfl ?_
    refine r_icmp_ge eX2_hasPerson_9 (fun hc9 => ?_) (fun hc9 => absurd hc9 (fun z => z (hv.resolve_left hc1)))
    refine n_iconst 0 eX2_hasPerson_16 rfl ?_
    exact z_iret eX2_hasPerson_17 rfl (by decide) ⟨_, rfl, rfl, rfl⟩
set_option maxHeartbeats 1000000 in
set_option maxRecDepth 100000 in
theorem s2_hasKey_y_now {t : zMod} {u : zCls} (ho : tOk (cg_now u)) {v : Nat} (hv : v < tg_keys (cg_now u)) : Mi mX2_hasKey 1 [.ref 16, .int (nI (v))] (hA t u) (fun r h' => r = nI 1 ∧ h' = hA t u) := by
  obtain ⟨hp7, hk12, hpc, hwt, hrg, hpp⟩ := id ho
  refine Mi.of (by decide) rfl (Nat.le_of_ble_eq_true rfl) ?_
  refine r_iload_n eX2_hasKey_0 rfl rfl ?_
  refine n_if_lt eX2_hasKey_1 (by omega) ?_
  refine r_iload_n eX2_hasKey_4 rfl rfl ?_
  refine r_aload_n eX2_hasKey_5 rfl rfl ?_
  refine r_getf (v := .int (nI (tg_keys (cg_now u)))) eX2_hasKey_6 fX2_46 rfl rfl ?_
  refine n_icmp_ge eX2_hasKey_9 (by omega) (by omega) (fun hc9 => absurd hc9 (by omega)) (fun hc9 => ?_)
  refine n_iconst 1 eX2_hasKey_12 rfl ?_
  refine r_goto eX2_hasKey_13 ?_
  exact z_iret eX2_hasKey_17 rfl (by decide) ⟨_, rfl, rfl, rfl⟩
set_option maxHeartbeats 1000000 in
set_option maxRecDepth 100000 in
theorem s2_hasKey_n_now {t : zMod} {u : zCls} {v : Int32} (hv : v < 0 ∨ nI (tg_keys (cg_now u)) ≤ v) : Mi mX2_hasKey 1 [.ref 16, .int (v)] (hA t u) (fun r h' => r = nI 0 ∧ h' = hA t u) := by
  refine Mi.of (by decide) rfl (Nat.le_of_ble_eq_true rfl) ?_
  refine r_iload_n eX2_hasKey_0 rfl rfl ?_
  refine r_if_lt eX2_hasKey_1 (fun hc1 => ?_) (fun hc1 => ?_)
  · refine n_iconst 0 eX2_hasKey_16 rfl ?_
    exact z_iret eX2_hasKey_17 rfl (by decide) ⟨_, rfl, rfl, rfl⟩
  · refine r_iload_n eX2_hasKey_4 rfl rfl ?_
    refine r_aload_n eX2_hasKey_5 rfl rfl ?_
    refine r_getf (v := .int (nI (tg_keys (cg_now u)))) eX2_hasKey_6 fX2_46 rfl rfl ?_
    refine r_icmp_ge eX2_hasKey_9 (fun hc9 => ?_) (fun hc9 => absurd hc9 (fun z => z (hv.resolve_left hc1)))
    refine n_iconst 0 eX2_hasKey_16 rfl ?_
    exact z_iret eX2_hasKey_17 rfl (by decide) ⟨_, rfl, rfl, rfl⟩
set_option maxHeartbeats 1000000 in
set_option maxRecDepth 100000 in
theorem s2_everyone_now {t : zMod} {u : zCls} (ho : tOk (cg_now u)) : Mi mX2_everyone 1 [.ref 16] (hA t u) (fun r h' => r = nI (2 ^ tg_people (cg_now u) - 1) ∧ h' = hA t u) := by
  obtain ⟨hp7, hk12, hpc, hwt, hrg, hpp⟩ := id ho
  have hpw : 2 ^ tg_people (cg_now u) ≤ 2 ^ 7 := Nat.pow_le_pow_right (by omega) hp7
  have hpw1 : 0 < 2 ^ tg_people (cg_now u) := Nat.two_pow_pos _
  refine Mi.of (by decide) rfl (Nat.le_of_ble_eq_true rfl) ?_
  refine n_iconst 1 eX2_everyone_0 rfl ?_
  refine r_aload_n eX2_everyone_1 rfl rfl ?_
  refine r_getf (v := .int (nI (tg_people (cg_now u)))) eX2_everyone_2 fX2_43 rfl rfl ?_
  refine n_shl eX2_everyone_5 (by omega) (by omega) ?_
  refine n_iconst 1 eX2_everyone_6 rfl ?_
  refine n_sub eX2_everyone_7 (by omega) ?_
  exact z_iret eX2_everyone_8 rfl rfl ⟨_, rfl, by rw [Nat.one_mul], rfl⟩
set_option maxHeartbeats 1000000 in
set_option maxRecDepth 100000 in
theorem s2_upOf_now {t : zMod} {u : zCls} (ho : tOk (cg_now u)) {p : Nat} (hp : p < tg_people (cg_now u)) : Mi mX2_upOf 1 [.ref 16, .int (nI (p))] (hA t u) (fun r h' => r = nI (tUp (cg_now u) p) ∧ h' = hA t u) := by
  obtain ⟨hp7, hk12, hpc, hwt, hrg, hpp⟩ := id ho
  obtain ⟨i1, i2, i3, i4, i5⟩ := hpp p hp
  refine Mi.of (by decide) rfl (Nat.le_of_ble_eq_true rfl) ?_
  refine r_aload_n eX2_upOf_0 rfl rfl ?_
  refine r_getf (v := .ref 17) eX2_upOf_1 fX2_9 rfl rfl ?_
  refine r_iload_n eX2_upOf_4 rfl rfl ?_
  refine n_iald (f := tg_kind (cg_now u)) (j := p) eX2_upOf_5 rfl rfl (by omega) (by decide) ?_
  rcases (by omega : tg_kind (cg_now u) p = 0 ∨ tg_kind (cg_now u) p = 1 ∨ tg_kind (cg_now u) p = 2 ∨ tg_kind (cg_now u) p = 3 ∨ tg_kind (cg_now u) p = 4 ∨ tg_kind (cg_now u) p = 5) with hk | hk | hk | hk | hk | hk
  · refine z_top (y := nI 0) (congrArg nI hk) ?_
    refine r_look (off := 37) (tgt := 43) eX2_upOf_6 (by decide) (by decide +kernel) (by decide) ?_
    refine r_aload_n eX2_upOf_43 rfl rfl ?_
    refine r_getf (v := .ref 18) eX2_upOf_44 fX2_15 rfl rfl ?_
    refine r_iload_n eX2_upOf_47 rfl rfl ?_
    refine n_iald (f := tg_wakes (cg_now u)) (j := p) eX2_upOf_48 rfl rfl (by omega) (by decide) ?_
    have q9 : tUp (cg_now u) p = (tg_wakes (cg_now u)) (p) := by unfold tUp zup; rw [hk]; rfl
    rw [q9]
    exact z_iret eX2_upOf_49 rfl rfl ⟨_, rfl, rfl, rfl⟩
  · refine z_top (y := nI 1) (congrArg nI hk) ?_
    refine r_look (off := 37) (tgt := 43) eX2_upOf_6 (by decide) (by decide +kernel) (by decide) ?_
    refine r_aload_n eX2_upOf_43 rfl rfl ?_
    refine r_getf (v := .ref 18) eX2_upOf_44 fX2_15 rfl rfl ?_
    refine r_iload_n eX2_upOf_47 rfl rfl ?_
    refine n_iald (f := tg_wakes (cg_now u)) (j := p) eX2_upOf_48 rfl rfl (by omega) (by decide) ?_
    have q9 : tUp (cg_now u) p = (tg_wakes (cg_now u)) (p) := by unfold tUp zup; rw [hk]; rfl
    rw [q9]
    exact z_iret eX2_upOf_49 rfl rfl ⟨_, rfl, rfl, rfl⟩
  · refine z_top (y := nI 2) (congrArg nI hk) ?_
    refine r_look (off := 26) (tgt := 32) eX2_upOf_6 (by decide) (by decide +kernel) (by decide) ?_
    refine n_iconst 2 eX2_upOf_32 rfl ?_
    refine r_aload_n eX2_upOf_33 rfl rfl ?_
    refine r_getf (v := .ref 18) eX2_upOf_34 fX2_15 rfl rfl ?_
    refine r_iload_n eX2_upOf_37 rfl rfl ?_
    refine n_iald (f := tg_wakes (cg_now u)) (j := p) eX2_upOf_38 rfl rfl (by omega) (by decide) ?_
    refine n_mul eX2_upOf_39 ?_
    have q9 : tUp (cg_now u) p = 2 * ((tg_wakes (cg_now u)) (p)) := by unfold tUp zup; rw [hk]; rfl
    rw [q9]
    exact z_iret eX2_upOf_40 rfl rfl ⟨_, rfl, rfl, rfl⟩
  · refine z_top (y := nI 3) (congrArg nI hk) ?_
    refine r_look (off := 37) (tgt := 43) eX2_upOf_6 (by decide) (by decide +kernel) (by decide) ?_
    refine r_aload_n eX2_upOf_43 rfl rfl ?_
    refine r_getf (v := .ref 18) eX2_upOf_44 fX2_15 rfl rfl ?_
    refine r_iload_n eX2_upOf_47 rfl rfl ?_
    refine n_iald (f := tg_wakes (cg_now u)) (j := p) eX2_upOf_48 rfl rfl (by omega) (by decide) ?_
    have q9 : tUp (cg_now u) p = (tg_wakes (cg_now u)) (p) := by unfold tUp zup; rw [hk]; rfl
    rw [q9]
    exact z_iret eX2_upOf_49 rfl rfl ⟨_, rfl, rfl, rfl⟩
  · refine z_top (y := nI 4) (congrArg nI hk) ?_
    refine r_look (off := 35) (tgt := 41) eX2_upOf_6 (by decide) (by decide +kernel) (by decide) ?_
    refine n_iconst 0 eX2_upOf_41 rfl ?_
    have q9 : tUp (cg_now u) p = 0 := by unfold tUp zup; rw [hk]; rfl
    rw [q9]
    exact z_iret eX2_upOf_42 rfl rfl ⟨_, rfl, rfl, rfl⟩
  · refine z_top (y := nI 5) (congrArg nI hk) ?_
    refine r_look (off := 37) (tgt := 43) eX2_upOf_6 (by decide) (by decide +kernel) (by decide) ?_
    refine r_aload_n eX2_upOf_43 rfl rfl ?_
    refine r_getf (v := .ref 18) eX2_upOf_44 fX2_15 rfl rfl ?_
    refine r_iload_n eX2_upOf_47 rfl rfl ?_
    refine n_iald (f := tg_wakes (cg_now u)) (j := p) eX2_upOf_48 rfl rfl (by omega) (by decide) ?_
    have q9 : tUp (cg_now u) p = (tg_wakes (cg_now u)) (p) := by unfold tUp zup; rw [hk]; rfl
    rw [q9]
    exact z_iret eX2_upOf_49 rfl rfl ⟨_, rfl, rfl, rfl⟩
set_option maxHeartbeats 1000000 in
set_option maxRecDepth 100000 in
theorem s2_needOf_now {t : zMod} {u : zCls} (ho : tOk (cg_now u)) {p : Nat} (hp : p < tg_people (cg_now u)) : Mi mX2_needOf 1 [.ref 16, .int (nI (p))] (hA t u) (fun r h' => r = nI (tNd (cg_now u) p) ∧ h' = hA t u) := by
  obtain ⟨hp7, hk12, hpc, hwt, hrg, hpp⟩ := id ho
  obtain ⟨i1, i2, i3, i4, i5⟩ := hpp p hp
  refine Mi.of (by decide) rfl (Nat.le_of_ble_eq_true rfl) ?_
  refine r_aload_n eX2_needOf_0 rfl rfl ?_
  refine r_getf (v := .ref 17) eX2_needOf_1 fX2_9 rfl rfl ?_
  refine r_iload_n eX2_needOf_4 rfl rfl ?_
  refine n_iald (f := tg_kind (cg_now u)) (j := p) eX2_needOf_5 rfl rfl (by omega) (by decide) ?_
  rcases (by omega : tg_kind (cg_now u) p = 0 ∨ tg_kind (cg_now u) p = 1 ∨ tg_kind (cg_now u) p = 2 ∨ tg_kind (cg_now u) p = 3 ∨ tg_kind (cg_now u) p = 4 ∨ tg_kind (cg_now u) p = 5) with hk | hk | hk | hk | hk | hk
  · refine z_top (y := nI 0) (congrArg nI hk) ?_
    refine r_tabOut (tgt := 49) eX2_needOf_6 (by decide) (by decide) ?_
    refine r_aload_n eX2_needOf_49 rfl rfl ?_
    refine r_getf (v := .ref 19) eX2_needOf_50 fX2_18 rfl rfl ?_
    refine r_iload_n eX2_needOf_53 rfl rfl ?_
    refine n_iald (f := tg_takes (cg_now u)) (j := p) eX2_needOf_54 rfl rfl (by omega) (by decide) ?_
    have q9 : tNd (cg_now u) p = (tg_takes (cg_now u)) (p) := by unfold tNd zneed; rw [hk]; rfl
    rw [q9]
    exact z_iret eX2_needOf_55 rfl rfl ⟨_, rfl, rfl, rfl⟩
  · refine z_top (y := nI 1) (congrArg nI hk) ?_
    refine r_tabIn (off := 34) (tgt := 40) eX2_needOf_6 (by decide) (by decide) (by decide) (by decide) ?_
    refine r_aload_n eX2_needOf_40 rfl rfl ?_
    refine r_getf (v := .ref 19) eX2_needOf_41 fX2_18 rfl rfl ?_
    refine r_iload_n eX2_needOf_44 rfl rfl ?_
    refine n_iald (f := tg_takes (cg_now u)) (j := p) eX2_needOf_45 rfl rfl (by omega) (by decide) ?_
    refine n_iconst 2 eX2_needOf_46 rfl ?_
    refine n_div eX2_needOf_47 (by omega) (by omega) (by omega) ?_
    have q9 : tNd (cg_now u) p = ((tg_takes (cg_now u)) (p)) / 2 := by unfold tNd zneed; rw [hk]; rfl
    rw [q9]
    exact z_iret eX2_needOf_48 rfl rfl ⟨_, rfl, rfl, rfl⟩
  · refine z_top (y := nI 2) (congrArg nI hk) ?_
    refine r_tabIn (off := 43) (tgt := 49) eX2_needOf_6 (by decide) (by decide) (by decide) (by decide) ?_
    refine r_aload_n eX2_needOf_49 rfl rfl ?_
    refine r_getf (v := .ref 19) eX2_needOf_50 fX2_18 rfl rfl ?_
    refine r_iload_n eX2_needOf_53 rfl rfl ?_
    refine n_iald (f := tg_takes (cg_now u)) (j := p) eX2_needOf_54 rfl rfl (by omega) (by decide) ?_
    have q9 : tNd (cg_now u) p = (tg_takes (cg_now u)) (p) := by unfold tNd zneed; rw [hk]; rfl
    rw [q9]
    exact z_iret eX2_needOf_55 rfl rfl ⟨_, rfl, rfl, rfl⟩
  · refine z_top (y := nI 3) (congrArg nI hk) ?_
    refine r_tabIn (off := 43) (tgt := 49) eX2_needOf_6 (by decide) (by decide) (by decide) (by decide) ?_
    refine r_aload_n eX2_needOf_49 rfl rfl ?_
    refine r_getf (v := .ref 19) eX2_needOf_50 fX2_18 rfl rfl ?_
    refine r_iload_n eX2_needOf_53 rfl rfl ?_
    refine n_iald (f := tg_takes (cg_now u)) (j := p) eX2_needOf_54 rfl rfl (by omega) (by decide) ?_
    have q9 : tNd (cg_now u) p = (tg_takes (cg_now u)) (p) := by unfold tNd zneed; rw [hk]; rfl
    rw [q9]
    exact z_iret eX2_needOf_55 rfl rfl ⟨_, rfl, rfl, rfl⟩
  · refine z_top (y := nI 4) (congrArg nI hk) ?_
    refine r_tabIn (off := 34) (tgt := 40) eX2_needOf_6 (by decide) (by decide) (by decide) (by decide) ?_
    refine r_aload_n eX2_needOf_40 rfl rfl ?_
    refine r_getf (v := .ref 19) eX2_needOf_41 fX2_18 rfl rfl ?_
    refine r_iload_n eX2_needOf_44 rfl rfl ?_
    refine n_iald (f := tg_takes (cg_now u)) (j := p) eX2_needOf_45 rfl rfl (by omega) (by decide) ?_
    refine n_iconst 2 eX2_needOf_46 rfl ?_
    refine n_div eX2_needOf_47 (by omega) (by omega) (by omega) ?_
    have q9 : tNd (cg_now u) p = ((tg_takes (cg_now u)) (p)) / 2 := by unfold tNd zneed; rw [hk]; rfl
    rw [q9]
    exact z_iret eX2_needOf_48 rfl rfl ⟨_, rfl, rfl, rfl⟩
  · refine z_top (y := nI 5) (congrArg nI hk) ?_
    refine r_tabIn (off := 34) (tgt := 40) eX2_needOf_6 (by decide) (by decide) (by decide) (by decide) ?_
    refine r_aload_n eX2_needOf_40 rfl rfl ?_
    refine r_getf (v := .ref 19) eX2_needOf_41 fX2_18 rfl rfl ?_
    refine r_iload_n eX2_needOf_44 rfl rfl ?_
    refine n_iald (f := tg_takes (cg_now u)) (j := p) eX2_needOf_45 rfl rfl (by omega) (by decide) ?_
    refine n_iconst 2 eX2_needOf_46 rfl ?_
    refine n_div eX2_needOf_47 (by omega) (by omega) (by omega) ?_
    have q9 : tNd (cg_now u) p = ((tg_takes (cg_now u)) (p)) / 2 := by unfold tNd zneed; rw [hk]; rfl
    rw [q9]
    exact z_iret eX2_needOf_48 rfl rfl ⟨_, rfl, rfl, rfl⟩
set_option maxHeartbeats 1000000 in
set_option maxRecDepth 100000 in
theorem s2_windowOf_now {t : zMod} {u : zCls} (ho : tOk (cg_now u)) {p : Nat} (hp : p < tg_people (cg_now u)) : Mi mX2_windowOf 1 [.ref 16, .int (nI (p))] (hA t u) (fun r h' => r = nI (tWin (cg_now u) 0 2147483647 p) ∧ h' = hA t u) := by
  obtain ⟨hp7, hk12, hpc, hwt, hrg, hpp⟩ := id ho
  obtain ⟨i1, i2, i3, i4, i5⟩ := hpp p hp
  refine Mi.of (by decide) rfl (Nat.le_of_ble_eq_true rfl) ?_
  refine r_aload_n eX2_windowOf_0 rfl rfl ?_
  refine r_getf (v := .ref 17) eX2_windowOf_1 fX2_9 rfl rfl ?_
  refine r_iload_n eX2_windowOf_4 rfl rfl ?_
  refine n_iald (f := tg_kind (cg_now u)) (j := p) eX2_windowOf_5 rfl rfl (by omega) (by decide) ?_
  refine n_iconst 3 eX2_windowOf_6 rfl ?_
  refine n_icmp_ne eX2_windowOf_7 (by omega) (by omega) (fun hc7 => ?_) (fun hc7 => ?_)
  · refine n_ldc 2147483647 eX2_windowOf_22 kX2_56 rfl ?_
    have q9 : tWin (cg_now u) 0 2147483647 p = 2147483647 := if_neg (fun z => hc7 z.1)
    rw [q9]
    exact z_iret eX2_windowOf_24 rfl rfl ⟨_, rfl, rfl, rfl⟩
  · refine n_bipush 60 eX2_windowOf_10 rfl ?_
    refine r_aload_n eX2_windowOf_12 rfl rfl ?_
    refine r_getf (v := .ref 18) eX2_windowOf_13 fX2_15 rfl rfl ?_
    refine r_iload_n eX2_windowOf_16 rfl rfl ?_
    refine n_iald (f := tg_wakes (cg_now u)) (j := p) eX2_windowOf_17 rfl rfl (by omega) (by decide) ?_
    refine n_add eX2_windowOf_18 ?_
    refine r_goto eX2_windowOf_19 ?_
    have q9 : tWin (cg_now u) 0 2147483647 p = 60 + ((tg_wakes (cg_now u)) (p)) := if_pos ⟨hc7, rfl⟩
    rw [q9]
    exact z_iret eX2_windowOf_24 rfl rfl ⟨_, rfl, rfl, rfl⟩
set_option maxHeartbeats 1000000 in
set_option maxRecDepth 100000 in
theorem s2_paceOf_now {t : zMod} {u : zCls} (ho : tOk (cg_now u)) {p : Nat} (hp : p < tg_people (cg_now u)) : Mi mX2_paceOf 1 [.ref 16, .int (nI (p))] (hA t u) (fun r h' => r = nI (tPc (cg_now u) p) ∧ h' = hA t u) := by
  obtain ⟨hp7, hk12, hpc, hwt, hrg, hpp⟩ := id ho
  obtain ⟨i1, i2, i3, i4, i5⟩ := hpp p hp
  refine Mi.of (by decide) rfl (Nat.le_of_ble_eq_true rfl) ?_
  refine r_aload_n eX2_paceOf_0 rfl rfl ?_
  refine r_getf (v := .ref 17) eX2_paceOf_1 fX2_9 rfl rfl ?_
  refine r_iload_n eX2_paceOf_4 rfl rfl ?_
  refine n_iald (f := tg_kind (cg_now u)) (j := p) eX2_paceOf_5 rfl rfl (by omega) (by decide) ?_
  refine n_iconst 5 eX2_paceOf_6 rfl ?_
  refine n_icmp_ne eX2_paceOf_7 (by omega) (by omega) (fun hc7 => ?_) (fun hc7 => ?_)
  · refine r_aload_n eX2_paceOf_14 rfl rfl ?_
    refine r_getf (v := .int (nI (tg_pace (cg_now u)))) eX2_paceOf_15 fX2_33 rfl rfl ?_
    have q9 : tPc (cg_now u) p = tg_pace (cg_now u) := if_neg hc7
    rw [q9]
    exact z_iret eX2_paceOf_18 rfl rfl ⟨_, rfl, rfl, rfl⟩
  · refine n_iconst 0 eX2_paceOf_10 rfl ?_
    refine r_goto eX2_paceOf_11 ?_
    have q9 : tPc (cg_now u) p = 0 := if_pos hc7
    rw [q9]
    exact z_iret eX2_paceOf_18 rfl rfl ⟨_, rfl, rfl, rfl⟩
set_option maxHeartbeats 1000000 in
set_option maxRecDepth 100000 in
theorem s2_wayBetween_now {t : zMod} {u : zCls} (ho : tOk (cg_now u)) {a b : Nat} (ha : a < tg_people (cg_now u)) (hb : b < tg_people (cg_now u)) : Mi mX2_wayBetween 2 [.ref 16, .int (nI (a)), .int (nI (b))] (hA t u) (fun r h' => r = nI (tWay (cg_now u) a b) ∧ h' = hA t u) := by
  obtain ⟨hp7, hk12, hpc, hwt, hrg, hpp⟩ := id ho
  have hf := zfar_le ha hb
  refine Mi.of (by decide) rfl (Nat.le_of_ble_eq_true rfl) ?_
  refine r_iload_n eX2_wayBetween_0 rfl rfl ?_
  refine r_iload_n eX2_wayBetween_1 rfl rfl ?_
  refine r_isub eX2_wayBetween_2 ?_
  refine r_abs eX2_wayBetween_3 lX2_57 (by omega) (Nat.le_of_ble_eq_true rfl) ?_
  refine z_top (y := nI (zfar a b)) (zabs (by omega) (by omega)) ?_
  refine r_istore_n eX2_wayBetween_6 rfl (by decide) ?_
  refine r_aload_n eX2_wayBetween_7 rfl rfl ?_
  refine r_getf (v := .int (nI (tg_ring (cg_now u)))) eX2_wayBetween_8 fX2_52 rfl rfl ?_
  refine n_if_eq eX2_wayBetween_11 (by omega) (fun hc11 => ?_) (fun hc11 => ?_)
  · refine r_iload_n eX2_wayBetween_27 rfl rfl ?_
    have q9 : tWay (cg_now u) a b = zfar a b := (zway_0 hc11).symm
    rw [q9]
    exact z_iret eX2_wayBetween_28 rfl rfl ⟨_, rfl, rfl, rfl⟩
  · refine r_iload_n eX2_wayBetween_14 rfl rfl ?_
    refine r_aload_n eX2_wayBetween_15 rfl rfl ?_
    refine r_getf (v := .int (nI (tg_people (cg_now u)))) eX2_wayBetween_16 fX2_43 rfl rfl ?_
    refine r_iload_n eX2_wayBetween_19 rfl rfl ?_
    refine n_sub eX2_wayBetween_20 (by omega) ?_
    refine n_min eX2_wayBetween_21 lX2_63 (by omega) (Nat.le_of_ble_eq_true rfl) (by omega) (by omega) ?_
    refine r_goto eX2_wayBetween_24 ?_
    have q9 : tWay (cg_now u) a b = min (zfar a b) ((tg_people (cg_now u)) - (zfar a b)) := (zway_1 hc11 hrg ha hb).symm
    rw [q9]
    exact z_iret eX2_wayBetween_28 rfl rfl ⟨_, rfl, rfl, rfl⟩
set_option maxHeartbeats 1000000 in
set_option maxRecDepth 100000 in
theorem s2_hasPerson_y_dra {t : zMod} {u : zCls} (ho : tOk (cg_dra u)) {v : Nat} (hv : v < tg_people (cg_dra u)) : Mi mX2_hasPerson 1 [.ref 24, .int (nI (v))] (hA t u) (fun r h' => r = nI 1 ∧ h' = hA t u) := by
  obtain ⟨hp7, hk12, hpc, hwt, hrg, hpp⟩ := id ho
  refine Mi.of (by decide) rfl (Nat.le_of_ble_eq_true rfl) ?_
  refine r_iload_n eX2_hasPerson_0 rfl rfl ?_
  refine n_if_lt eX2_hasPerson_1 (by omega) ?_
  refine r_iload_n eX2_hasPerson_4 rfl rfl ?_
  refine r_aload_n eX2_hasPerson_5 rfl rfl ?_
  refine r_getf (v := .int (nI (tg_people (cg_dra u)))) eX2_hasPerson_6 fX2_43 rfl rfl ?_
  refine n_icmp_ge eX2_hasPerson_9 (by omega) (by omega) (fun hc9 => absurd hc9 (by omega)) (fun hc9 => ?_)
  refine n_iconst 1 eX2_hasPerson_12 rfl ?_
  refine r_goto eX2_hasPerson_13 ?_
  exact z_iret eX2_hasPerson_17 rfl (by decide) ⟨_, rfl, rfl, rfl⟩
set_option maxHeartbeats 1000000 in
set_option maxRecDepth 100000 in
theorem s2_hasPerson_n_dra {t : zMod} {u : zCls} {v : Int32} (hv : v < 0 ∨ nI (tg_people (cg_dra u)) ≤ v) : Mi mX2_hasPerson 1 [.ref 24, .int (v)] (hA t u) (fun r h' => r = nI 0 ∧ h' = hA t u) := by
  refine Mi.of (by decide) rfl (Nat.le_of_ble_eq_true rfl) ?_
  refine r_iload_n eX2_hasPerson_0 rfl rfl ?_
  refine r_if_lt eX2_hasPerson_1 (fun hc1 => ?_) (fun hc1 => ?_)
  · refine n_iconst 0 eX2_hasPerson_16 rfl ?_
    exact z_iret eX2_hasPerson_17 rfl (by decide) ⟨_, rfl, rfl, rfl⟩
  · refine r_iload_n eX2_hasPerson_4 rfl rfl ?_
    refine r_aload_n eX2_hasPerson_5 rfl rfl ?_
    refine r_getf (v := .int (nI (tg_people (cg_dra u)))) eX2_hasPerson_6 fX2_43 rfl rfl ?_
    refine r_icmp_ge eX2_hasPerson_9 (fun hc9 => ?_) (fun hc9 => absurd hc9 (fun z => z (hv.resolve_left hc1)))
    refine n_iconst 0 eX2_hasPerson_16 rfl ?_
    exact z_iret eX2_hasPerson_17 rfl (by decide) ⟨_, rfl, rfl, rfl⟩
set_option maxHeartbeats 1000000 in
set_option maxRecDepth 100000 in
theorem s2_everyone_dra {t : zMod} {u : zCls} (ho : tOk (cg_dra u)) : Mi mX2_everyone 1 [.ref 24] (hA t u) (fun r h' => r = nI (2 ^ tg_people (cg_dra u) - 1) ∧ h' = hA t u) := by
  obtain ⟨hp7, hk12, hpc, hwt, hrg, hpp⟩ := id ho
  have hpw : 2 ^ tg_people (cg_dra u) ≤ 2 ^ 7 := Nat.pow_le_pow_right (by omega) hp7
  have hpw1 : 0 < 2 ^ tg_people (cg_dra u) := Nat.two_pow_pos _
  refine Mi.of (by decide) rfl (Nat.le_of_ble_eq_true rfl) ?_
  refine n_iconst 1 eX2_everyone_0 rfl ?_
  refine r_aload_n eX2_everyone_1 rfl rfl ?_
  refine r_getf (v := .int (nI (tg_people (cg_dra u)))) eX2_everyone_2 fX2_43 rfl rfl ?_
  refine n_shl eX2_everyone_5 (by omega) (by omega) ?_
  refine n_iconst 1 eX2_everyone_6 rfl ?_
  refine n_sub eX2_everyone_7 (by omega) ?_
  exact z_iret eX2_everyone_8 rfl rfl ⟨_, rfl, by rw [Nat.one_mul], rfl⟩
set_option maxHeartbeats 1000000 in
set_option maxRecDepth 100000 in
theorem s2_upOf_dra {t : zMod} {u : zCls} (ho : tOk (cg_dra u)) {p : Nat} (hp : p < tg_people (cg_dra u)) : Mi mX2_upOf 1 [.ref 24, .int (nI (p))] (hA t u) (fun r h' => r = nI (tUp (cg_dra u) p) ∧ h' = hA t u) := by
  obtain ⟨hp7, hk12, hpc, hwt, hrg, hpp⟩ := id ho
  obtain ⟨i1, i2, i3, i4, i5⟩ := hpp p hp
  refine Mi.of (by decide) rfl (Nat.le_of_ble_eq_true rfl) ?_
  refine r_aload_n eX2_upOf_0 rfl rfl ?_
  refine r_getf (v := .ref 25) eX2_upOf_1 fX2_9 rfl rfl ?_
  refine r_iload_n eX2_upOf_4 rfl rfl ?_
  refine n_iald (f := tg_kind (cg_dra u)) (j := p) eX2_upOf_5 rfl rfl (by omega) (by decide) ?_
  rcases (by omega : tg_kind (cg_dra u) p = 0 ∨ tg_kind (cg_dra u) p = 1 ∨ tg_kind (cg_dra u) p = 2 ∨ tg_kind (cg_dra u) p = 3 ∨ tg_kind (cg_dra u) p = 4 ∨ tg_kind (cg_dra u) p = 5) with hk | hk | hk | hk | hk | hk
  · refine z_top (y := nI 0) (congrArg nI hk) ?_
    refine r_look (off := 37) (tgt := 43) eX2_upOf_6 (by decide) (by decide +kernel) (by decide) ?_
    refine r_aload_n eX2_upOf_43 rfl rfl ?_
    refine r_getf (v := .ref 26) eX2_upOf_44 fX2_15 rfl rfl ?_
    refine r_iload_n eX2_upOf_47 rfl rfl ?_
    refine n_iald (f := tg_wakes (cg_dra u)) (j := p) eX2_upOf_48 rfl rfl (by omega) (by decide) ?_
    have q9 : tUp (cg_dra u) p = (tg_wakes (cg_dra u)) (p) := by unfold tUp zup; rw [hk]; rfl
    rw [q9]
    exact z_iret eX2_upOf_49 rfl rfl ⟨_, rfl, rfl, rfl⟩
  · refine z_top (y := nI 1) (congrArg nI hk) ?_
    refine r_look (off := 37) (tgt := 43) eX2_upOf_6 (by decide) (by decide +kernel) (by decide) ?_
    refine r_aload_n eX2_upOf_43 rfl rfl ?_
    refine r_getf (v := .ref 26) eX2_upOf_44 fX2_15 rfl rfl ?_
    refine r_iload_n eX2_upOf_47 rfl rfl ?_
    refine n_iald (f := tg_wakes (cg_dra u)) (j := p) eX2_upOf_48 rfl rfl (by omega) (by decide) ?_
    have q9 : tUp (cg_dra u) p = (tg_wakes (cg_dra u)) (p) := by unfold tUp zup; rw [hk]; rfl
    rw [q9]
    exact z_iret eX2_upOf_49 rfl rfl ⟨_, rfl, rfl, rfl⟩
  · refine z_top (y := nI 2) (congrArg nI hk) ?_
    refine r_look (off := 26) (tgt := 32) eX2_upOf_6 (by decide) (by decide +kernel) (by decide) ?_
    refine n_iconst 2 eX2_upOf_32 rfl ?_
    refine r_aload_n eX2_upOf_33 rfl rfl ?_
    refine r_getf (v := .ref 26) eX2_upOf_34 fX2_15 rfl rfl ?_
    refine r_iload_n eX2_upOf_37 rfl rfl ?_
    refine n_iald (f := tg_wakes (cg_dra u)) (j := p) eX2_upOf_38 rfl rfl (by omega) (by decide) ?_
    refine n_mul eX2_upOf_39 ?_
    have q9 : tUp (cg_dra u) p = 2 * ((tg_wakes (cg_dra u)) (p)) := by unfold tUp zup; rw [hk]; rfl
    rw [q9]
    exact z_iret eX2_upOf_40 rfl rfl ⟨_, rfl, rfl, rfl⟩
  · refine z_top (y := nI 3) (congrArg nI hk) ?_
    refine r_look (off := 37) (tgt := 43) eX2_upOf_6 (by decide) (by decide +kernel) (by decide) ?_
    refine r_aload_n eX2_upOf_43 rfl rfl ?_
    refine r_getf (v := .ref 26) eX2_upOf_44 fX2_15 rfl rfl ?_
    refine r_iload_n eX2_upOf_47 rfl rfl ?_
    refine n_iald (f := tg_wakes (cg_dra u)) (j := p) eX2_upOf_48 rfl rfl (by omega) (by decide) ?_
    have q9 : tUp (cg_dra u) p = (tg_wakes (cg_dra u)) (p) := by unfold tUp zup; rw [hk]; rfl
    rw [q9]
    exact z_iret eX2_upOf_49 rfl rfl ⟨_, rfl, rfl, rfl⟩
  · refine z_top (y := nI 4) (congrArg nI hk) ?_
    refine r_look (off := 35) (tgt := 41) eX2_upOf_6 (by decide) (by decide +kernel) (by decide) ?_
    refine n_iconst 0 eX2_upOf_41 rfl ?_
    have q9 : tUp (cg_dra u) p = 0 := by unfold tUp zup; rw [hk]; rfl
    rw [q9]
    exact z_iret eX2_upOf_42 rfl rfl ⟨_, rfl, rfl, rfl⟩
  · refine z_top (y := nI 5) (congrArg nI hk) ?_
    refine r_look (off := 37) (tgt := 43) eX2_upOf_6 (by decide) (by decide +kernel) (by decide) ?_
    refine r_aload_n eX2_upOf_43 rfl rfl ?_
    refine r_getf (v := .ref 26) eX2_upOf_44 fX2_15 rfl rfl ?_
    refine r_iload_n eX2_upOf_47 rfl rfl ?_
    refine n_iald (f := tg_wakes (cg_dra u)) (j := p) eX2_upOf_48 rfl rfl (by omega) (by decide) ?_
    have q9 : tUp (cg_dra u) p = (tg_wakes (cg_dra u)) (p) := by unfold tUp zup; rw [hk]; rfl
    rw [q9]
    exact z_iret eX2_upOf_49 rfl rfl ⟨_, rfl, rfl, rfl⟩
set_option maxHeartbeats 1000000 in
set_option maxRecDepth 100000 in
theorem s2_needOf_dra {t : zMod} {u : zCls} (ho : tOk (cg_dra u)) {p : Nat} (hp : p < tg_people (cg_dra u)) : Mi mX2_needOf 1 [.ref 24, .int (nI (p))] (hA t u) (fun r h' => r = nI (tNd (cg_dra u) p) ∧ h' = hA t u) := by
  obtain ⟨hp7, hk12, hpc, hwt, hrg, hpp⟩ := id ho
  obtain ⟨i1, i2, i3, i4, i5⟩ := hpp p hp
  refine Mi.of (by decide) rfl (Nat.le_of_ble_eq_true rfl) ?_
  refine r_aload_n eX2_needOf_0 rfl rfl ?_
  refine r_getf (v := .ref 25) eX2_needOf_1 fX2_9 rfl rfl ?_
  refine r_iload_n eX2_needOf_4 rfl rfl ?_
  refine n_iald (f := tg_kind (cg_dra u)) (j := p) eX2_needOf_5 rfl rfl (by omega) (by decide) ?_
  rcases (by omega : tg_kind (cg_dra u) p = 0 ∨ tg_kind (cg_dra u) p = 1 ∨ tg_kind (cg_dra u) p = 2 ∨ tg_kind (cg_dra u) p = 3 ∨ tg_kind (cg_dra u) p = 4 ∨ tg_kind (cg_dra u) p = 5) with hk | hk | hk | hk | hk | hk
  · refine z_top (y := nI 0) (congrArg nI hk) ?_
    refine r_tabOut (tgt := 49) eX2_needOf_6 (by decide) (by decide) ?_
    refine r_aload_n eX2_needOf_49 rfl rfl ?_
    refine r_getf (v := .ref 27) eX2_needOf_50 fX2_18 rfl rfl ?_
    refine r_iload_n eX2_needOf_53 rfl rfl ?_
    refine n_iald (f := tg_takes (cg_dra u)) (j := p) eX2_needOf_54 rfl rfl (by omega) (by decide) ?_
    have q9 : tNd (cg_dra u) p = (tg_takes (cg_dra u)) (p) := by unfold tNd zneed; rw [hk]; rfl
    rw [q9]
    exact z_iret eX2_needOf_55 rfl rfl ⟨_, rfl, rfl, rfl⟩
  · refine z_top (y := nI 1) (congrArg nI hk) ?_
    refine r_tabIn (off := 34) (tgt := 40) eX2_needOf_6 (by decide) (by decide) (by decide) (by decide) ?_
    refine r_aload_n eX2_needOf_40 rfl rfl ?_
    refine r_getf (v := .ref 27) eX2_needOf_41 fX2_18 rfl rfl ?_
    refine r_iload_n eX2_needOf_44 rfl rfl ?_
    refine n_iald (f := tg_takes (cg_dra u)) (j := p) eX2_needOf_45 rfl rfl (by omega) (by decide) ?_
    refine n_iconst 2 eX2_needOf_46 rfl ?_
    refine n_div eX2_needOf_47 (by omega) (by omega) (by omega) ?_
    have q9 : tNd (cg_dra u) p = ((tg_takes (cg_dra u)) (p)) / 2 := by unfold tNd zneed; rw [hk]; rfl
    rw [q9]
    exact z_iret eX2_needOf_48 rfl rfl ⟨_, rfl, rfl, rfl⟩
  · refine z_top (y := nI 2) (congrArg nI hk) ?_
    refine r_tabIn (off := 43) (tgt := 49) eX2_needOf_6 (by decide) (by decide) (by decide) (by decide) ?_
    refine r_aload_n eX2_needOf_49 rfl rfl ?_
    refine r_getf (v := .ref 27) eX2_needOf_50 fX2_18 rfl rfl ?_
    refine r_iload_n eX2_needOf_53 rfl rfl ?_
    refine n_iald (f := tg_takes (cg_dra u)) (j := p) eX2_needOf_54 rfl rfl (by omega) (by decide) ?_
    have q9 : tNd (cg_dra u) p = (tg_takes (cg_dra u)) (p) := by unfold tNd zneed; rw [hk]; rfl
    rw [q9]
    exact z_iret eX2_needOf_55 rfl rfl ⟨_, rfl, rfl, rfl⟩
  · refine z_top (y := nI 3) (congrArg nI hk) ?_
    refine r_tabIn (off := 43) (tgt := 49) eX2_needOf_6 (by decide) (by decide) (by decide) (by decide) ?_
    refine r_aload_n eX2_needOf_49 rfl rfl ?_
    refine r_getf (v := .ref 27) eX2_needOf_50 fX2_18 rfl rfl ?_
    refine r_iload_n eX2_needOf_53 rfl rfl ?_
    refine n_iald (f := tg_takes (cg_dra u)) (j := p) eX2_needOf_54 rfl rfl (by omega) (by decide) ?_
    have q9 : tNd (cg_dra u) p = (tg_takes (cg_dra u)) (p) := by unfold tNd zneed; rw [hk]; rfl
    rw [q9]
    exact z_iret eX2_needOf_55 rfl rfl ⟨_, rfl, rfl, rfl⟩
  · refine z_top (y := nI 4) (congrArg nI hk) ?_
    refine r_tabIn (off := 34) (tgt := 40) eX2_needOf_6 (by decide) (by decide) (by decide) (by decide) ?_
    refine r_aload_n eX2_needOf_40 rfl rfl ?_
    refine r_getf (v := .ref 27) eX2_needOf_41 fX2_18 rfl rfl ?_
    refine r_iload_n eX2_needOf_44 rfl rfl ?_
    refine n_iald (f := tg_takes (cg_dra u)) (j := p) eX2_needOf_45 rfl rfl (by omega) (by decide) ?_
    refine n_iconst 2 eX2_needOf_46 rfl ?_
    refine n_div eX2_needOf_47 (by omega) (by omega) (by omega) ?_
    have q9 : tNd (cg_dra u) p = ((tg_takes (cg_dra u)) (p)) / 2 := by unfold tNd zneed; rw [hk]; rfl
    rw [q9]
    exact z_iret eX2_needOf_48 rfl rfl ⟨_, rfl, rfl, rfl⟩
  · refine z_top (y := nI 5) (congrArg nI hk) ?_
    refine r_tabIn (off := 34) (tgt := 40) eX2_needOf_6 (by decide) (by decide) (by decide) (by decide) ?_
    refine r_aload_n eX2_needOf_40 rfl rfl ?_
    refine r_getf (v := .ref 27) eX2_needOf_41 fX2_18 rfl rfl ?_
    refine r_iload_n eX2_needOf_44 rfl rfl ?_
    refine n_iald (f := tg_takes (cg_dra u)) (j := p) eX2_needOf_45 rfl rfl (by omega) (by decide) ?_
    refine n_iconst 2 eX2_needOf_46 rfl ?_
    refine n_div eX2_needOf_47 (by omega) (by omega) (by omega) ?_
    have q9 : tNd (cg_dra u) p = ((tg_takes (cg_dra u)) (p)) / 2 := by unfold tNd zneed; rw [hk]; rfl
    rw [q9]
    exact z_iret eX2_needOf_48 rfl rfl ⟨_, rfl, rfl, rfl⟩
set_option maxHeartbeats 1000000 in
set_option maxRecDepth 100000 in
theorem s2_windowOf_dra {t : zMod} {u : zCls} (ho : tOk (cg_dra u)) {p : Nat} (hp : p < tg_people (cg_dra u)) : Mi mX2_windowOf 1 [.ref 24, .int (nI (p))] (hA t u) (fun r h' => r = nI (tWin (cg_dra u) 0 2147483647 p) ∧ h' = hA t u) := by
  obtain ⟨hp7, hk12, hpc, hwt, hrg, hpp⟩ := id ho
  obtain ⟨i1, i2, i3, i4, i5⟩ := hpp p hp
  refine Mi.of (by decide) rfl (Nat.le_of_ble_eq_true rfl) ?_
  refine r_aload_n eX2_windowOf_0 rfl rfl ?_
  refine r_getf (v := .ref 25) eX2_windowOf_1 fX2_9 rfl rfl ?_
  refine r_iload_n eX2_windowOf_4 rfl rfl ?_
  refine n_iald (f := tg_kind (cg_dra u)) (j := p) eX2_windowOf_5 rfl rfl (by omega) (by decide) ?_
  refine n_iconst 3 eX2_windowOf_6 rfl ?_
  refine n_icmp_ne eX2_windowOf_7 (by omega) (by omega) (fun hc7 => ?_) (fun hc7 => ?_)
  · refine n_ldc 2147483647 eX2_windowOf_22 kX2_56 rfl ?_
    have q9 : tWin (cg_dra u) 0 2147483647 p = 2147483647 := if_neg (fun z => hc7 z.1)
    rw [q9]
    exact z_iret eX2_windowOf_24 rfl rfl ⟨_, rfl, rfl, rfl⟩
  · refine n_bipush 60 eX2_windowOf_10 rfl ?_
    refine r_aload_n eX2_windowOf_12 rfl rfl ?_
    refine r_getf (v := .ref 26) eX2_windowOf_13 fX2_15 rfl rfl ?_
    refine r_iload_n eX2_windowOf_16 rfl rfl ?_
    refine n_iald (f := tg_wakes (cg_dra u)) (j := p) eX2_windowOf_17 rfl rfl (by omega) (by decide) ?_
    refine n_add eX2_windowOf_18 ?_
    refine r_goto eX2_windowOf_19 ?_
    have q9 : tWin (cg_dra u) 0 2147483647 p = 60 + ((tg_wakes (cg_dra u)) (p)) := if_pos ⟨hc7, rfl⟩
    rw [q9]
    exact z_iret eX2_windowOf_24 rfl rfl ⟨_, rfl, rfl, rfl⟩
set_option maxHeartbeats 1000000 in
set_option maxRecDepth 100000 in
theorem s2_paceOf_dra {t : zMod} {u : zCls} (ho : tOk (cg_dra u)) {p : Nat} (hp : p < tg_people (cg_dra u)) : Mi mX2_paceOf 1 [.ref 24, .int (nI (p))] (hA t u) (fun r h' => r = nI (tPc (cg_dra u) p) ∧ h' = hA t u) := by
  obtain ⟨hp7, hk12, hpc, hwt, hrg, hpp⟩ := id ho
  obtain ⟨i1, i2, i3, i4, i5⟩ := hpp p hp
  refine Mi.of (by decide) rfl (Nat.le_of_ble_eq_true rfl) ?_
  refine r_aload_n eX2_paceOf_0 rfl rfl ?_
  refine r_getf (v := .ref 25) eX2_paceOf_1 fX2_9 rfl rfl ?_
  refine r_iload_n eX2_paceOf_4 rfl rfl ?_
  refine n_iald (f := tg_kind (cg_dra u)) (j := p) eX2_paceOf_5 rfl rfl (by omega) (by decide) ?_
  refine n_iconst 5 eX2_paceOf_6 rfl ?_
  refine n_icmp_ne eX2_paceOf_7 (by omega) (by omega) (fun hc7 => ?_) (fun hc7 => ?_)
  · refine r_aload_n eX2_paceOf_14 rfl rfl ?_
    refine r_getf (v := .int (nI (tg_pace (cg_dra u)))) eX2_paceOf_15 fX2_33 rfl rfl ?_
    have q9 : tPc (cg_dra u) p = tg_pace (cg_dra u) := if_neg hc7
    rw [q9]
    exact z_iret eX2_paceOf_18 rfl rfl ⟨_, rfl, rfl, rfl⟩
  · refine n_iconst 0 eX2_paceOf_10 rfl ?_
    refine r_goto eX2_paceOf_11 ?_
    have q9 : tPc (cg_dra u) p = 0 := if_pos hc7
    rw [q9]
    exact z_iret eX2_paceOf_18 rfl rfl ⟨_, rfl, rfl, rfl⟩
set_option maxHeartbeats 1000000 in
set_option maxRecDepth 100000 in
theorem s2_wayBetween_dra {t : zMod} {u : zCls} (ho : tOk (cg_dra u)) {a b : Nat} (ha : a < tg_people (cg_dra u)) (hb : b < tg_people (cg_dra u)) : Mi mX2_wayBetween 2 [.ref 24, .int (nI (a)), .int (nI (b))] (hA t u) (fun r h' => r = nI (tWay (cg_dra u) a b) ∧ h' = hA t u) := by
  obtain ⟨hp7, hk12, hpc, hwt, hrg, hpp⟩ := id ho
  have hf := zfar_le ha hb
  refine Mi.of (by decide) rfl (Nat.le_of_ble_eq_true rfl) ?_
  refine r_iload_n eX2_wayBetween_0 rfl rfl ?_
  refine r_iload_n eX2_wayBetween_1 rfl rfl ?_
  refine r_isub eX2_wayBetween_2 ?_
  refine r_abs eX2_wayBetween_3 lX2_57 (by omega) (Nat.le_of_ble_eq_true rfl) ?_
  refine z_top (y := nI (zfar a b)) (zabs (by omega) (by omega)) ?_
  refine r_istore_n eX2_wayBetween_6 rfl (by decide) ?_
  refine r_aload_n eX2_wayBetween_7 rfl rfl ?_
  refine r_getf (v := .int (nI (tg_ring (cg_dra u)))) eX2_wayBetween_8 fX2_52 rfl rfl ?_
  refine n_if_eq eX2_wayBetween_11 (by omega) (fun hc11 => ?_) (fun hc11 => ?_)
  · refine r_iload_n eX2_wayBetween_27 rfl rfl ?_
    have q9 : tWay (cg_dra u) a b = zfar a b := (zway_0 hc11).symm
    rw [q9]
    exact z_iret eX2_wayBetween_28 rfl rfl ⟨_, rfl, rfl, rfl⟩
  · refine r_iload_n eX2_wayBetween_14 rfl rfl ?_
    refine r_aload_n eX2_wayBetween_15 rfl rfl ?_
    refine r_getf (v := .int (nI (tg_people (cg_dra u)))) eX2_wayBetween_16 fX2_43 rfl rfl ?_
    refine r_iload_n eX2_wayBetween_19 rfl rfl ?_
    refine n_sub eX2_wayBetween_20 (by omega) ?_
    refine n_min eX2_wayBetween_21 lX2_63 (by omega) (Nat.le_of_ble_eq_true rfl) (by omega) (by omega) ?_
    refine r_goto eX2_wayBetween_24 ?_
    have q9 : tWay (cg_dra u) a b = min (zfar a b) ((tg_people (cg_dra u)) - (zfar a b)) := (zway_1 hc11 hrg ha hb).symm
    rw [q9]
    exact z_iret eX2_wayBetween_28 rfl rfl ⟨_, rfl, rfl, rfl⟩
def tCost (T : zTown) (s : Nat) : Nat := zco (tg_cost T) s (tg_people T)
theorem zco_le2 {c : Nat → Nat} {s b : Nat} : ∀ {n : Nat}, (∀ p, p < n → c p ≤ b) → zco c s n ≤ b * n
  | 0, _ => Nat.zero_le _
  | n + 1, h => by
    have := zco_le2 (c := c) (s := s) (b := b) (n := n) (fun p hp => h p (by omega))
    have h1 := h n (by omega)
    have h2 := zb2 s n
    have h3 : (s / 2 ^ n &&& 1) * c n ≤ 1 * b := Nat.mul_le_mul (by omega) h1
    rw [zco, Nat.mul_succ]
    omega
set_option maxHeartbeats 1000000 in
set_option maxRecDepth 100000 in
theorem s2_costOf_l {t : zMod} {u : zCls} (ho : tOk (cg_now u)) {s : Nat} (hs : s < 128) : ∀ (k : Nat) (p : Nat) (hd : p + k = tg_people (cg_now u)), Rq mX2_costOf 1 none 4 [.ref 16, .int (nI (s)), .int (nI (zco (tg_cost (cg_now u)) s p)), .int (nI (p))] [] (hA t u) (fun r h' => ∃ x, r = some x ∧ (x = nI (tCost (cg_now u) s) ∧ h' = hA t u)) := by
  intro k
  induction k with
  | zero =>
    intro p hd
    obtain ⟨hp7, hk12, hpc, hwt, hrg, hpp⟩ := id ho
    have hz := zco_le2 (c := tg_cost (cg_now u)) (s := s) (b := 9) (n := p) (fun q hq => (hpp q (by omega)).2.2.2.2)
    refine r_iload_n eX2_costOf_4 rfl rfl ?_
    refine r_aload_n eX2_costOf_5 rfl rfl ?_
    refine r_getf (v := .int (nI (tg_people (cg_now u)))) eX2_costOf_6 fX2_43 rfl rfl ?_
    refine n_icmp_ge eX2_costOf_9 (by omega) (by omega) (fun hc9 => ?_) (fun hc9 => absurd hc9 (by omega))
    refine r_iload_n eX2_costOf_35 rfl rfl ?_
    have e9 : p = tg_people (cg_now u) := by omega
    subst e9
    exact z_iret eX2_costOf_36 rfl rfl ⟨_, rfl, rfl, rfl⟩
  | succ k ih =>
    intro p hd
    obtain ⟨hp7, hk12, hpc, hwt, hrg, hpp⟩ := id ho
    have hz := zco_le2 (c := tg_cost (cg_now u)) (s := s) (b := 9) (n := p) (fun q hq => (hpp q (by omega)).2.2.2.2)
    have hb2 := zb2 s p
    have hc9 := (hpp p (by omega)).2.2.2.2
    refine r_iload_n eX2_costOf_4 rfl rfl ?_
    refine r_aload_n eX2_costOf_5 rfl rfl ?_
    refine r_getf (v := .int (nI (tg_people (cg_now u)))) eX2_costOf_6 fX2_43 rfl rfl ?_
    refine n_icmp_ge eX2_costOf_9 (by omega) (by omega) (fun hc9 => absurd hc9 (by omega)) (fun hc9 => ?_)
    refine r_iload_n eX2_costOf_12 rfl rfl ?_
    refine r_iload_n eX2_costOf_13 rfl rfl ?_
    refine n_shr eX2_costOf_14 (by omega) (by omega) ?_
    refine n_iconst 1 eX2_costOf_15 rfl ?_
    refine n_and eX2_costOf_16 ?_
    refine n_if_eq eX2_costOf_17 (by omega) (fun hc17 => ?_) (fun hc17 => ?_)
    · refine n_iinc (k := 1) eX2_costOf_29 rfl (by decide) rfl ?_
      refine r_goto eX2_costOf_32 ?_
      have q9 : zco (tg_cost (cg_now u)) s (p + 1) = zco (tg_cost (cg_now u)) s p := by rw [zco, show s / 2 ^ p &&& 1 = 0 by omega]; omega
      refine z_ls (ls' := [.ref 16, .int (nI s), .int (nI (zco (tg_cost (cg_now u)) s (p + 1))), .int (nI (p + 1))]) (by rw [q9]; rfl) ?_
      exact ih (p + 1) (by omega)
    · refine r_iload_n eX2_costOf_20 rfl rfl ?_
      refine r_aload_n eX2_costOf_21 rfl rfl ?_
      refine r_getf (v := .ref 21) eX2_costOf_22 fX2_24 rfl rfl ?_
      refine r_iload_n eX2_costOf_25 rfl rfl ?_
      refine n_iald (f := tg_cost (cg_now u)) (j := p) eX2_costOf_26 rfl rfl (by omega) (by decide) ?_
      refine n_add eX2_costOf_27 ?_
      refine r_istore_n eX2_costOf_28 rfl (by decide) ?_
      refine n_iinc (k := 1) eX2_costOf_29 rfl (by decide) rfl ?_
      refine r_goto eX2_costOf_32 ?_
      have q9 : zco (tg_cost (cg_now u)) s (p + 1) = (zco (tg_cost (cg_now u)) s p) + ((tg_cost (cg_now u)) (p)) := by rw [zco, show s / 2 ^ p &&& 1 = 1 by omega]; omega
      refine z_ls (ls' := [.ref 16, .int (nI s), .int (nI (zco (tg_cost (cg_now u)) s (p + 1))), .int (nI (p + 1))]) (by rw [q9]; rfl) ?_
      exact ih (p + 1) (by omega)
set_option maxHeartbeats 1000000 in
set_option maxRecDepth 100000 in
theorem s2_costOf_now {t : zMod} {u : zCls} (ho : tOk (cg_now u)) {s : Nat} (hs : s < 128) : Mi mX2_costOf 1 [.ref 16, .int (nI (s))] (hA t u) (fun r h' => r = nI (tCost (cg_now u) s) ∧ h' = hA t u) := by
  refine Mi.of (by decide) rfl (Nat.le_of_ble_eq_true rfl) ?_
  refine n_iconst 0 eX2_costOf_0 rfl ?_
  refine r_istore_n eX2_costOf_1 rfl (by decide) ?_
  refine n_iconst 0 eX2_costOf_2 rfl ?_
  refine r_istore_n eX2_costOf_3 rfl (by decide) ?_
  exact s2_costOf_l ho hs (tg_people (cg_now u)) 0 (Nat.zero_add _)
