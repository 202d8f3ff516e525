/-! THE CLASS: STATEMENTS told to a town; a text read -/
def tPer (T : zTown) (x : zN5) : zTown := (va_up (tg_kind T) (tg_people T) x.1, va_up (tg_wakes T) (tg_people T) x.2.1, va_up (tg_takes T) (tg_people T) x.2.2.1, va_up (tg_due T) (tg_people T) x.2.2.2.1, va_up (tg_cost T) (tg_people T) x.2.2.2.2, tg_people T + 1, tg_door T, tg_held T, tg_keys T, tg_watch T, tg_pace T, tg_ring T)
def tKeyT (T : zTown) (x : zN5) : zTown := (tg_kind T, tg_wakes T, tg_takes T, tg_due T, tg_cost T, tg_people T, va_up (tg_door T) (tg_keys T) x.1, va_up (tg_held T) (tg_keys T) x.2.1, tg_keys T + 1, tg_watch T, tg_pace T, tg_ring T)
def tXor (T : zTown) (p : Nat) : zTown := (tg_kind T, tg_wakes T, tg_takes T, tg_due T, tg_cost T, tg_people T, tg_door T, tg_held T, tg_keys T, tg_watch T ^^^ 1 * 2 ^ p, tg_pace T, tg_ring T)
def tPace (T : zTown) (p : Nat) : zTown := (tg_kind T, tg_wakes T, tg_takes T, tg_due T, tg_cost T, tg_people T, tg_door T, tg_held T, tg_keys T, tg_watch T, p, tg_ring T)
def tRng (T : zTown) (p : Nat) : zTown := (tg_kind T, tg_wakes T, tg_takes T, tg_due T, tg_cost T, tg_people T, tg_door T, tg_held T, tg_keys T, tg_watch T, tg_pace T, p)
def tTell (c : Nat) (x : zN5) (T : zTown) : Option zTown :=
  if c = 112 then if tg_people T = 7 then none else some (tPer T x)
  else if c = 107 then if x.1 < tg_people T ∧ x.2.1 < tg_people T ∧ ¬ tg_keys T = 10 then some (tKeyT T x) else none
  else if c = 119 then if x.1 < tg_people T then some (tXor T x.1) else none
  else if c = 115 then some (tPace T x.1)
  else some (tRng T (if c = 114 then 1 else 0))
def zxOk (c : Nat) (x : zN5) : Prop := x.1 ≤ 9 ∧ x.2.1 ≤ 99 ∧ x.2.2.1 ≤ 9 ∧ x.2.2.2.1 ≤ 999 ∧ x.2.2.2.2 ≤ 9 ∧ (c = 112 → x.1 ≤ 5)
def tRd (T : zTown) : Prop := tOk T ∧ tg_keys T ≤ 10 ∧ tKeys T
theorem tTell_ok {c : Nat} {x : zN5} {T T' : zTown} (h : tRd T) (hx : zxOk c x) (he : tTell c x T = some T') : tRd T' := by
  obtain ⟨⟨h1, h2, h3, h4, h5, h6⟩, h7, h8⟩ := h
  obtain ⟨x1, x2, x3, x4, x5, x6⟩ := hx
  unfold tTell at he
  split at he
  · rename_i hc
    split at he
    · cases he
    · cases he
      refine ⟨⟨?_, h2, h3, ?_, h5, fun p hp => ?_⟩, h7, fun k hk => ?_⟩
      · show tg_people T + 1 ≤ 7
        omega
      · show tg_watch T < 2 ^ (tg_people T + 1)
        exact Nat.lt_trans h4 (Nat.pow_lt_pow_right (by omega) (Nat.lt_succ_self _))
      · have hp2 : p < tg_people T + 1 := hp
        show va_up (tg_kind T) (tg_people T) x.1 p ≤ 5 ∧ va_up (tg_wakes T) (tg_people T) x.2.1 p ≤ 99 ∧ va_up (tg_takes T) (tg_people T) x.2.2.1 p ≤ 9 ∧ va_up (tg_due T) (tg_people T) x.2.2.2.1 p ≤ 999 ∧ va_up (tg_cost T) (tg_people T) x.2.2.2.2 p ≤ 9
        by_cases e : p = tg_people T
        · rw [e, zu_s, zu_s, zu_s, zu_s, zu_s]
          exact ⟨x6 hc, x2, x3, x4, x5⟩
        · rw [zu_n e, zu_n e, zu_n e, zu_n e, zu_n e]
          exact h6 p (by omega)
      · have := h8 k hk
        exact ⟨Nat.lt_succ_of_lt this.1, Nat.lt_succ_of_lt this.2⟩
  · split at he
    · split at he
      · rename_i hc
        cases he
        refine ⟨⟨h1, ?_, h3, h4, h5, h6⟩, ?_, fun k hk => ?_⟩
        · show tg_keys T + 1 ≤ 12
          omega
        · show tg_keys T + 1 ≤ 10
          omega
        · have hk2 : k < tg_keys T + 1 := hk
          show va_up (tg_door T) (tg_keys T) x.1 k < tg_people T ∧ va_up (tg_held T) (tg_keys T) x.2.1 k < tg_people T
          by_cases e : k = tg_keys T
          · rw [e, zu_s, zu_s]; exact ⟨hc.1, hc.2.1⟩
          · rw [zu_n e, zu_n e]; exact h8 k (by omega)
      · cases he
    · split at he
      · split at he
        · rename_i hc
          cases he
          refine ⟨⟨h1, h2, h3, ?_, h5, h6⟩, h7, h8⟩
          show tg_watch T ^^^ 1 * 2 ^ x.1 < 2 ^ tg_people T
          exact Nat.xor_lt_two_pow h4 (by rw [Nat.one_mul]; exact Nat.pow_lt_pow_right (by omega) hc)
        · cases he
      · split at he
        · cases he
          exact ⟨⟨h1, h2, by show x.1 ≤ 1000; omega, h4, h5, h6⟩, h7, h8⟩
        · cases he
          refine ⟨⟨h1, h2, h3, h4, ?_, h6⟩, h7, h8⟩
          show (if c = 114 then 1 else 0) ≤ 1
          split <;> omega
set_option maxHeartbeats 1000000 in
set_option maxRecDepth 100000 in
theorem s1_tell_112n {t : zMod} {u : zCls} (hrl : cg_rl u ≤ 80) (hlet : ∀ i, cg_let u i ≤ 255) (hd : tRd (cg_dra u)) {x : zN5} (hf : cg_rf u = 112) (hL : cg_rn u 0 = x.1 ∧ cg_rn u 1 = x.2.1 ∧ cg_rn u 2 = x.2.2.1 ∧ cg_rn u 3 = x.2.2.2.1 ∧ cg_rn u 4 = x.2.2.2.2) (h7 : tg_people (cg_dra u) = 7) : Mi mX1_tell 5 [.ref 13, .ref 24] (hA t (cg_let u, cg_lc u, 12, cg_rl u, cg_ra u, cg_rf u, cg_rn u, cg_rc u, cg_now u, cg_dra u, cg_kep u, cg_im u, cg_mp u, cg_mw u, cg_mu u, cg_mn u, cg_mi u, cg_mc u, cg_md u, cg_mo u, cg_ms u, cg_mq u, cg_se u, cg_sc u, cg_re u)) (fun r h' => r = nI (tTell 112 x (cg_dra u)).isSome.toNat ∧ h' = hA t (cg_let u, cg_lc u, 12, cg_rl u, cg_ra u, cg_rf u, cg_rn u, cg_rc u, cg_now u, ((tTell 112 x (cg_dra u)).getD (cg_dra u)), cg_kep u, cg_im u, cg_mp u, cg_mw u, cg_mu u, cg_mn u, cg_mi u, cg_mc u, cg_md u, cg_mo u, cg_ms u, cg_mq u, cg_se u, cg_sc u, cg_re u)) := by
  obtain ⟨ho, hk10, hty⟩ := id hd
  obtain ⟨hp7, hk12, hpc, hwt, hrg, hpp⟩ := id ho
  refine Mi.of (by decide) rfl (Nat.le_of_ble_eq_true rfl) ?_
  refine r_aload_n eX1_tell_0 rfl rfl ?_
  refine r_getf (v := .int (nI (cg_rf u))) eX1_tell_1 fX1_42 rfl rfl ?_
  refine z_top (y := nI (112)) (congrArg nI hf) ?_
  refine r_look (off := 44) (tgt := 48) eX1_tell_4 (by decide) (by decide +kernel) (by decide) ?_
  refine r_aload_n eX1_tell_48 rfl rfl ?_
  refine r_aload_n eX1_tell_49 rfl rfl ?_
  refine r_getf (v := .ref 15) eX1_tell_50 fX1_15 rfl rfl ?_
  refine r_callVi1 eX1_tell_53 lX1_73 (Or.inl ⟨_, _, _, rfl, rfl, rfl⟩) (s2_addPerson_n (t := t) (u := (cg_let u, cg_lc u, 12, cg_rl u, cg_ra u, cg_rf u, cg_rn u, cg_rc u, cg_now u, cg_dra u, cg_kep u, cg_im u, cg_mp u, cg_mw u, cg_mu u, cg_mn u, cg_mi u, cg_mc u, cg_md u, cg_mo u, cg_ms u, cg_mq u, cg_se u, cg_sc u, cg_re u)) ho h7) (by omega) (Nat.le_of_ble_eq_true rfl) (fun r1 h1 hq => ?_)
  obtain ⟨rfl, rfl⟩ := (show r1 = nI (0) ∧ h1 = hA t (cg_let u, cg_lc u, 12, cg_rl u, cg_ra u, cg_rf u, cg_rn u, cg_rc u, cg_now u, cg_dra u, cg_kep u, cg_im u, cg_mp u, cg_mw u, cg_mu u, cg_mn u, cg_mi u, cg_mc u, cg_md u, cg_mo u, cg_ms u, cg_mq u, cg_se u, cg_sc u, cg_re u) from hq)
  have ht : tTell 112 x (cg_dra u) = none := by
    unfold tTell
    rw [if_pos rfl, if_pos h7]
  rw [ht]
  exact z_iret eX1_tell_56 rfl (by decide) ⟨_, rfl, rfl, rfl⟩
set_option maxHeartbeats 1000000 in
set_option maxRecDepth 100000 in
theorem s1_tell_112y {t : zMod} {u : zCls} (hrl : cg_rl u ≤ 80) (hlet : ∀ i, cg_let u i ≤ 255) (hd : tRd (cg_dra u)) {x : zN5} (hf : cg_rf u = 112) (hL : cg_rn u 0 = x.1 ∧ cg_rn u 1 = x.2.1 ∧ cg_rn u 2 = x.2.2.1 ∧ cg_rn u 3 = x.2.2.2.1 ∧ cg_rn u 4 = x.2.2.2.2) (h7 : ¬ tg_people (cg_dra u) = 7) : Mi mX1_tell 5 [.ref 13, .ref 24] (hA t (cg_let u, cg_lc u, 12, cg_rl u, cg_ra u, cg_rf u, cg_rn u, cg_rc u, cg_now u, cg_dra u, cg_kep u, cg_im u, cg_mp u, cg_mw u, cg_mu u, cg_mn u, cg_mi u, cg_mc u, cg_md u, cg_mo u, cg_ms u, cg_mq u, cg_se u, cg_sc u, cg_re u)) (fun r h' => r = nI (tTell 112 x (cg_dra u)).isSome.toNat ∧ h' = hA t (cg_let u, cg_lc u, 12, cg_rl u, cg_ra u, cg_rf u, cg_rn u, cg_rc u, cg_now u, ((tTell 112 x (cg_dra u)).getD (cg_dra u)), cg_kep u, cg_im u, cg_mp u, cg_mw u, cg_mu u, cg_mn u, cg_mi u, cg_mc u, cg_md u, cg_mo u, cg_ms u, cg_mq u, cg_se u, cg_sc u, cg_re u)) := by
  obtain ⟨ho, hk10, hty⟩ := id hd
  obtain ⟨hp7, hk12, hpc, hwt, hrg, hpp⟩ := id ho
  refine Mi.of (by decide) rfl (Nat.le_of_ble_eq_true rfl) ?_
  refine r_aload_n eX1_tell_0 rfl rfl ?_
  refine r_getf (v := .int (nI (cg_rf u))) eX1_tell_1 fX1_42 rfl rfl ?_
  refine z_top (y := nI (112)) (congrArg nI hf) ?_
  refine r_look (off := 44) (tgt := 48) eX1_tell_4 (by decide) (by decide +kernel) (by decide) ?_
  refine r_aload_n eX1_tell_48 rfl rfl ?_
  refine r_aload_n eX1_tell_49 rfl rfl ?_
  refine r_getf (v := .ref 15) eX1_tell_50 fX1_15 rfl rfl ?_
  refine r_callVi1 eX1_tell_53 lX1_73 (Or.inl ⟨_, _, _, rfl, rfl, rfl⟩) (s2_addPerson_y (t := t) (u := (cg_let u, cg_lc u, 12, cg_rl u, cg_ra u, cg_rf u, cg_rn u, cg_rc u, cg_now u, cg_dra u, cg_kep u, cg_im u, cg_mp u, cg_mw u, cg_mu u, cg_mn u, cg_mi u, cg_mc u, cg_md u, cg_mo u, cg_ms u, cg_mq u, cg_se u, cg_sc u, cg_re u)) ho (show tg_people (cg_dra u) < 7 by omega)) (by omega) (Nat.le_of_ble_eq_true rfl) (fun r1 h1 hq => ?_)
  obtain ⟨rfl, rfl⟩ := (show r1 = nI (1) ∧ h1 = hA t (cg_let u, cg_lc u, 12, cg_rl u, cg_ra u, cg_rf u, cg_rn u, cg_rc u, cg_now u, (tPer (cg_dra u) x), cg_kep u, cg_im u, cg_mp u, cg_mw u, cg_mu u, cg_mn u, cg_mi u, cg_mc u, cg_md u, cg_mo u, cg_ms u, cg_mq u, cg_se u, cg_sc u, cg_re u) from by unfold tPer; rw [← hL.1, ← hL.2.1, ← hL.2.2.1, ← hL.2.2.2.1, ← hL.2.2.2.2]; exact hq)
  have ht : tTell 112 x (cg_dra u) = some (tPer (cg_dra u) x) := by
    unfold tTell
    rw [if_pos rfl, if_neg h7]
  rw [ht]
  exact z_iret eX1_tell_56 rfl (by decide) ⟨_, rfl, rfl, rfl⟩
set_option maxHeartbeats 1000000 in
set_option maxRecDepth 100000 in
theorem s1_tell_107f {t : zMod} {u : zCls} (hrl : cg_rl u ≤ 80) (hlet : ∀ i, cg_let u i ≤ 255) (hd : tRd (cg_dra u)) {x : zN5} (hf : cg_rf u = 107) (hL : cg_rn u 0 = x.1 ∧ cg_rn u 1 = x.2.1) (hx : x.1 ≤ 9 ∧ x.2.1 ≤ 99) (hk : tg_keys (cg_dra u) = 10) : Mi mX1_tell 5 [.ref 13, .ref 24] (hA t (cg_let u, cg_lc u, 12, cg_rl u, cg_ra u, cg_rf u, cg_rn u, cg_rc u, cg_now u, cg_dra u, cg_kep u, cg_im u, cg_mp u, cg_mw u, cg_mu u, cg_mn u, cg_mi u, cg_mc u, cg_md u, cg_mo u, cg_ms u, cg_mq u, cg_se u, cg_sc u, cg_re u)) (fun r h' => r = nI (tTell 107 x (cg_dra u)).isSome.toNat ∧ h' = hA t (cg_let u, cg_lc u, 12, cg_rl u, cg_ra u, cg_rf u, cg_rn u, cg_rc u, cg_now u, ((tTell 107 x (cg_dra u)).getD (cg_dra u)), cg_kep u, cg_im u, cg_mp u, cg_mw u, cg_mu u, cg_mn u, cg_mi u, cg_mc u, cg_md u, cg_mo u, cg_ms u, cg_mq u, cg_se u, cg_sc u, cg_re u)) := by
  obtain ⟨ho, hk10, hty⟩ := id hd
  obtain ⟨hp7, hk12, hpc, hwt, hrg, hpp⟩ := id ho
  refine Mi.of (by decide) rfl (Nat.le_of_ble_eq_true rfl) ?_
  refine r_aload_n eX1_tell_0 rfl rfl ?_
  refine r_getf (v := .int (nI (cg_rf u))) eX1_tell_1 fX1_42 rfl rfl ?_
  refine z_top (y := nI (107)) (congrArg nI hf) ?_
  refine r_look (off := 53) (tgt := 57) eX1_tell_4 (by decide) (by decide +kernel) (by decide) ?_
  refine r_aload_n eX1_tell_57 rfl rfl ?_
  refine r_aload_n eX1_tell_58 rfl rfl ?_
  refine r_getf (v := .ref 15) eX1_tell_59 fX1_15 rfl rfl ?_
  refine n_iconst 0 eX1_tell_62 rfl ?_
  refine n_iald (f := cg_rn u) (j := 0) eX1_tell_63 rfl rfl (by omega) (by decide) ?_
  refine z_top (y := nI (x.1)) (congrArg nI hL.1) ?_
  refine r_aload_n eX1_tell_64 rfl rfl ?_
  refine r_getf (v := .ref 15) eX1_tell_65 fX1_15 rfl rfl ?_
  refine n_iconst 1 eX1_tell_68 rfl ?_
  refine n_iald (f := cg_rn u) (j := 1) eX1_tell_69 rfl rfl (by omega) (by decide) ?_
  refine z_top (y := nI (x.2.1)) (congrArg nI hL.2) ?_
  refine r_callVi2 eX1_tell_70 lX1_79 (Or.inl ⟨_, _, _, rfl, rfl, rfl⟩) (s2_addKey_f_dra (t := t) (u := (cg_let u, cg_lc u, 12, cg_rl u, cg_ra u, cg_rf u, cg_rn u, cg_rc u, cg_now u, cg_dra u, cg_kep u, cg_im u, cg_mp u, cg_mw u, cg_mu u, cg_mn u, cg_mi u, cg_mc u, cg_md u, cg_mo u, cg_ms u, cg_mq u, cg_se u, cg_sc u, cg_re u)) ho (show tg_keys (cg_dra u) ≤ 10 from hk10) hk) (by omega) (Nat.le_of_ble_eq_true rfl) (fun r1 h1 hq => ?_)
  obtain ⟨rfl, rfl⟩ := (show r1 = nI (0) ∧ h1 = hA t (cg_let u, cg_lc u, 12, cg_rl u, cg_ra u, cg_rf u, cg_rn u, cg_rc u, cg_now u, cg_dra u, cg_kep u, cg_im u, cg_mp u, cg_mw u, cg_mu u, cg_mn u, cg_mi u, cg_mc u, cg_md u, cg_mo u, cg_ms u, cg_mq u, cg_se u, cg_sc u, cg_re u) from hq)
  have ht : tTell 107 x (cg_dra u) = none := by
    unfold tTell
    rw [if_neg (by decide), if_pos rfl, if_neg (fun z => z.2.2 hk)]
  rw [ht]
  exact z_iret eX1_tell_73 rfl (by decide) ⟨_, rfl, rfl, rfl⟩
set_option maxHeartbeats 1000000 in
set_option maxRecDepth 100000 in
theorem s1_tell_107a {t : zMod} {u : zCls} (hrl : cg_rl u ≤ 80) (hlet : ∀ i, cg_let u i ≤ 255) (hd : tRd (cg_dra u)) {x : zN5} (hf : cg_rf u = 107) (hL : cg_rn u 0 = x.1 ∧ cg_rn u 1 = x.2.1) (hx : x.1 ≤ 9 ∧ x.2.1 ≤ 99) (hk : ¬ tg_keys (cg_dra u) = 10) (h1 : tg_people (cg_dra u) ≤ x.1) : Mi mX1_tell 5 [.ref 13, .ref 24] (hA t (cg_let u, cg_lc u, 12, cg_rl u, cg_ra u, cg_rf u, cg_rn u, cg_rc u, cg_now u, cg_dra u, cg_kep u, cg_im u, cg_mp u, cg_mw u, cg_mu u, cg_mn u, cg_mi u, cg_mc u, cg_md u, cg_mo u, cg_ms u, cg_mq u, cg_se u, cg_sc u, cg_re u)) (fun r h' => r = nI (tTell 107 x (cg_dra u)).isSome.toNat ∧ h' = hA t (cg_let u, cg_lc u, 12, cg_rl u, cg_ra u, cg_rf u, cg_rn u, cg_rc u, cg_now u, ((tTell 107 x (cg_dra u)).getD (cg_dra u)), cg_kep u, cg_im u, cg_mp u, cg_mw u, cg_mu u, cg_mn u, cg_mi u, cg_mc u, cg_md u, cg_mo u, cg_ms u, cg_mq u, cg_se u, cg_sc u, cg_re u)) := by
  obtain ⟨ho, hk10, hty⟩ := id hd
  obtain ⟨hp7, hk12, hpc, hwt, hrg, hpp⟩ := id ho
  refine Mi.of (by decide) rfl (Nat.le_of_ble_eq_true rfl) ?_
  refine r_aload_n eX1_tell_0 rfl rfl ?_
  refine r_getf (v := .int (nI (cg_rf u))) eX1_tell_1 fX1_42 rfl rfl ?_
  refine z_top (y := nI (107)) (congrArg nI hf) ?_
  refine r_look (off := 53) (tgt := 57) eX1_tell_4 (by decide) (by decide +kernel) (by decide) ?_
  refine r_aload_n eX1_tell_57 rfl rfl ?_
  refine r_aload_n eX1_tell_58 rfl rfl ?_
  refine r_getf (v := .ref 15) eX1_tell_59 fX1_15 rfl rfl ?_
  refine n_iconst 0 eX1_tell_62 rfl ?_
  refine n_iald (f := cg_rn u) (j := 0) eX1_tell_63 rfl rfl (by omega) (by decide) ?_
  refine z_top (y := nI (x.1)) (congrArg nI hL.1) ?_
  refine r_aload_n eX1_tell_64 rfl rfl ?_
  refine r_getf (v := .ref 15) eX1_tell_65 fX1_15 rfl rfl ?_
  refine n_iconst 1 eX1_tell_68 rfl ?_
  refine n_iald (f := cg_rn u) (j := 1) eX1_tell_69 rfl rfl (by omega) (by decide) ?_
  refine z_top (y := nI (x.2.1)) (congrArg nI hL.2) ?_
  refine r_callVi2 eX1_tell_70 lX1_79 (Or.inl ⟨_, _, _, rfl, rfl, rfl⟩) (s2_addKey_n1_dra (t := t) (u := (cg_let u, cg_lc u, 12, cg_rl u, cg_ra u, cg_rf u, cg_rn u, cg_rc u, cg_now u, cg_dra u, cg_kep u, cg_im u, cg_mp u, cg_mw u, cg_mu u, cg_mn u, cg_mi u, cg_mc u, cg_md u, cg_mo u, cg_ms u, cg_mq u, cg_se u, cg_sc u, cg_re u)) ho (show tg_keys (cg_dra u) ≤ 10 from hk10) hx.1 h1) (by omega) (Nat.le_of_ble_eq_true rfl) (fun r1 h1 hq => ?_)
  obtain ⟨rfl, rfl⟩ := (show r1 = nI (0) ∧ h1 = hA t (cg_let u, cg_lc u, 12, cg_rl u, cg_ra u, cg_rf u, cg_rn u, cg_rc u, cg_now u, cg_dra u, cg_kep u, cg_im u, cg_mp u, cg_mw u, cg_mu u, cg_mn u, cg_mi u, cg_mc u, cg_md u, cg_mo u, cg_ms u, cg_mq u, cg_se u, cg_sc u, cg_re u) from hq)
  have ht : tTell 107 x (cg_dra u) = none := by
    unfold tTell
    rw [if_neg (by decide), if_pos rfl, if_neg (fun z => by omega)]
  rw [ht]
  exact z_iret eX1_tell_73 rfl (by decide) ⟨_, rfl, rfl, rfl⟩
set_option maxHeartbeats 1000000 in
set_option maxRecDepth 100000 in
theorem s1_tell_107b {t : zMod} {u : zCls} (hrl : cg_rl u ≤ 80) (hlet : ∀ i, cg_let u i ≤ 255) (hd : tRd (cg_dra u)) {x : zN5} (hf : cg_rf u = 107) (hL : cg_rn u 0 = x.1 ∧ cg_rn u 1 = x.2.1) (hx : x.1 ≤ 9 ∧ x.2.1 ≤ 99) (hk : ¬ tg_keys (cg_dra u) = 10) (h1 : x.1 < tg_people (cg_dra u)) (h2 : tg_people (cg_dra u) ≤ x.2.1) : Mi mX1_tell 5 [.ref 13, .ref 24] (hA t (cg_let u, cg_lc u, 12, cg_rl u, cg_ra u, cg_rf u, cg_rn u, cg_rc u, cg_now u, cg_dra u, cg_kep u, cg_im u, cg_mp u, cg_mw u, cg_mu u, cg_mn u, cg_mi u, cg_mc u, cg_md u, cg_mo u, cg_ms u, cg_mq u, cg_se u, cg_sc u, cg_re u)) (fun r h' => r = nI (tTell 107 x (cg_dra u)).isSome.toNat ∧ h' = hA t (cg_let u, cg_lc u, 12, cg_rl u, cg_ra u, cg_rf u, cg_rn u, cg_rc u, cg_now u, ((tTell 107 x (cg_dra u)).getD (cg_dra u)), cg_kep u, cg_im u, cg_mp u, cg_mw u, cg_mu u, cg_mn u, cg_mi u, cg_mc u, cg_md u, cg_mo u, cg_ms u, cg_mq u, cg_se u, cg_sc u, cg_re u)) := by
  obtain ⟨ho, hk10, hty⟩ := id hd
  obtain ⟨hp7, hk12, hpc, hwt, hrg, hpp⟩ := id ho
  refine Mi.of (by decide) rfl (Nat.le_of_ble_eq_true rfl) ?_
  refine r_aload_n eX1_tell_0 rfl rfl ?_
  refine r_getf (v := .int (nI (cg_rf u))) eX1_tell_1 fX1_42 rfl rfl ?_
  refine z_top (y := nI (107)) (congrArg nI hf) ?_
  refine r_look (off := 53) (tgt := 57) eX1_tell_4 (by decide) (by decide +kernel) (by decide) ?_
  refine r_aload_n eX1_tell_57 rfl rfl ?_
  refine r_aload_n eX1_tell_58 rfl rfl ?_
  refine r_getf (v := .ref 15) eX1_tell_59 fX1_15 rfl rfl ?_
  refine n_iconst 0 eX1_tell_62 rfl ?_
  refine n_iald (f := cg_rn u) (j := 0) eX1_tell_63 rfl rfl (by omega) (by decide) ?_
  refine z_top (y := nI (x.1)) (congrArg nI hL.1) ?_
  refine r_aload_n eX1_tell_64 rfl rfl ?_
  refine r_getf (v := .ref 15) eX1_tell_65 fX1_15 rfl rfl ?_
  refine n_iconst 1 eX1_tell_68 rfl ?_
  refine n_iald (f := cg_rn u) (j := 1) eX1_tell_69 rfl rfl (by omega) (by decide) ?_
  refine z_top (y := nI (x.2.1)) (congrArg nI hL.2) ?_
  refine r_callVi2 eX1_tell_70 lX1_79 (Or.inl ⟨_, _, _, rfl, rfl, rfl⟩) (s2_addKey_n2_dra (t := t) (u := (cg_let u, cg_lc u, 12, cg_rl u, cg_ra u, cg_rf u, cg_rn u, cg_rc u, cg_now u, cg_dra u, cg_kep u, cg_im u, cg_mp u, cg_mw u, cg_mu u, cg_mn u, cg_mi u, cg_mc u, cg_md u, cg_mo u, cg_ms u, cg_mq u, cg_se u, cg_sc u, cg_re u)) ho (show tg_keys (cg_dra u) ≤ 10 from hk10) hx.2 h1 h2) (by omega) (Nat.le_of_ble_eq_true rfl) (fun r1 h1 hq => ?_)
  obtain ⟨rfl, rfl⟩ := (show r1 = nI (0) ∧ h1 = hA t (cg_let u, cg_lc u, 12, cg_rl u, cg_ra u, cg_rf u, cg_rn u, cg_rc u, cg_now u, cg_dra u, cg_kep u, cg_im u, cg_mp u, cg_mw u, cg_mu u, cg_mn u, cg_mi u, cg_mc u, cg_md u, cg_mo u, cg_ms u, cg_mq u, cg_se u, cg_sc u, cg_re u) from hq)
  have ht : tTell 107 x (cg_dra u) = none := by
    unfold tTell
    rw [if_neg (by decide), if_pos rfl, if_neg (fun z => by omega)]
  rw [ht]
  exact z_iret eX1_tell_73 rfl (by decide) ⟨_, rfl, rfl, rfl⟩
set_option maxHeartbeats 1000000 in
set_option maxRecDepth 100000 in
theorem s1_tell_107y {t : zMod} {u : zCls} (hrl : cg_rl u ≤ 80) (hlet : ∀ i, cg_let u i ≤ 255) (hd : tRd (cg_dra u)) {x : zN5} (hf : cg_rf u = 107) (hL : cg_rn u 0 = x.1 ∧ cg_rn u 1 = x.2.1) (hx : x.1 ≤ 9 ∧ x.2.1 ≤ 99) (hk : ¬ tg_keys (cg_dra u) = 10) (h1 : x.1 < tg_people (cg_dra u)) (h2 : x.2.1 < tg_people (cg_dra u)) : Mi mX1_tell 5 [.ref 13, .ref 24] (hA t (cg_let u, cg_lc u, 12, cg_rl u, cg_ra u, cg_rf u, cg_rn u, cg_rc u, cg_now u, cg_dra u, cg_kep u, cg_im u, cg_mp u, cg_mw u, cg_mu u, cg_mn u, cg_mi u, cg_mc u, cg_md u, cg_mo u, cg_ms u, cg_mq u, cg_se u, cg_sc u, cg_re u)) (fun r h' => r = nI (tTell 107 x (cg_dra u)).isSome.toNat ∧ h' = hA t (cg_let u, cg_lc u, 12, cg_rl u, cg_ra u, cg_rf u, cg_rn u, cg_rc u, cg_now u, ((tTell 107 x (cg_dra u)).getD (cg_dra u)), cg_kep u, cg_im u, cg_mp u, cg_mw u, cg_mu u, cg_mn u, cg_mi u, cg_mc u, cg_md u, cg_mo u, cg_ms u, cg_mq u, cg_se u, cg_sc u, cg_re u)) := by
  obtain ⟨ho, hk10, hty⟩ := id hd
  obtain ⟨hp7, hk12, hpc, hwt, hrg, hpp⟩ := id ho
  refine Mi.of (by decide) rfl (Nat.le_of_ble_eq_true rfl) ?_
  refine r_aload_n eX1_tell_0 rfl rfl ?_
  refine r_getf (v := .int (nI (cg_rf u))) eX1_tell_1 fX1_42 rfl rfl ?_
  refine z_top (y := nI (107)) (congrArg nI hf) ?_
  refine r_look (off := 53) (tgt := 57) eX1_tell_4 (by decide) (by decide +kernel) (by decide) ?_
  refine r_aload_n eX1_tell_57 rfl rfl ?_
  refine r_aload_n eX1_tell_58 rfl rfl ?_
  refine r_getf (v := .ref 15) eX1_tell_59 fX1_15 rfl rfl ?_
  refine n_iconst 0 eX1_tell_62 rfl ?_
  refine n_iald (f := cg_rn u) (j := 0) eX1_tell_63 rfl rfl (by omega) (by decide) ?_
  refine z_top (y := nI (x.1)) (congrArg nI hL.1) ?_
  refine r_aload_n eX1_tell_64 rfl rfl ?_
  refine r_getf (v := .ref 15) eX1_tell_65 fX1_15 rfl rfl ?_
  refine n_iconst 1 eX1_tell_68 rfl ?_
  refine n_iald (f := cg_rn u) (j := 1) eX1_tell_69 rfl rfl (by omega) (by decide) ?_
  refine z_top (y := nI (x.2.1)) (congrArg nI hL.2) ?_
  refine r_callVi2 eX1_tell_70 lX1_79 (Or.inl ⟨_, _, _, rfl, rfl, rfl⟩) (s2_addKey_y_dra (t := t) (u := (cg_let u, cg_lc u, 12, cg_rl u, cg_ra u, cg_rf u, cg_rn u, cg_rc u, cg_now u, cg_dra u, cg_kep u, cg_im u, cg_mp u, cg_mw u, cg_mu u, cg_mn u, cg_mi u, cg_mc u, cg_md u, cg_mo u, cg_ms u, cg_mq u, cg_se u, cg_sc u, cg_re u)) ho (show tg_keys (cg_dra u) ≤ 10 from hk10) (show tg_keys (cg_dra u) < 10 by omega) h1 h2) (by omega) (Nat.le_of_ble_eq_true rfl) (fun r1 h1 hq => ?_)
  obtain ⟨rfl, rfl⟩ := (show r1 = nI (1) ∧ h1 = hA t (cg_let u, cg_lc u, 12, cg_rl u, cg_ra u, cg_rf u, cg_rn u, cg_rc u, cg_now u, (tKeyT (cg_dra u) x), cg_kep u, cg_im u, cg_mp u, cg_mw u, cg_mu u, cg_mn u, cg_mi u, cg_mc u, cg_md u, cg_mo u, cg_ms u, cg_mq u, cg_se u, cg_sc u, cg_re u) from hq)
  have ht : tTell 107 x (cg_dra u) = some (tKeyT (cg_dra u) x) := by
    unfold tTell
    rw [if_neg (by decide), if_pos rfl, if_pos ⟨h1, h2, hk⟩]
  rw [ht]
  exact z_iret eX1_tell_73 rfl (by decide) ⟨_, rfl, rfl, rfl⟩
set_option maxHeartbeats 1000000 in
set_option maxRecDepth 100000 in
theorem s1_tell_119n {t : zMod} {u : zCls} (hrl : cg_rl u ≤ 80) (hlet : ∀ i, cg_let u i ≤ 255) (hd : tRd (cg_dra u)) {x : zN5} (hf : cg_rf u = 119) (hL : cg_rn u 0 = x.1) (hx : x.1 ≤ 9) (h1 : tg_people (cg_dra u) ≤ x.1) : Mi mX1_tell 5 [.ref 13, .ref 24] (hA t (cg_let u, cg_lc u, 12, cg_rl u, cg_ra u, cg_rf u, cg_rn u, cg_rc u, cg_now u, cg_dra u, cg_kep u, cg_im u, cg_mp u, cg_mw u, cg_mu u, cg_mn u, cg_mi u, cg_mc u, cg_md u, cg_mo u, cg_ms u, cg_mq u, cg_se u, cg_sc u, cg_re u)) (fun r h' => r = nI (tTell 119 x (cg_dra u)).isSome.toNat ∧ h' = hA t (cg_let u, cg_lc u, 12, cg_rl u, cg_ra u, cg_rf u, cg_rn u, cg_rc u, cg_now u, ((tTell 119 x (cg_dra u)).getD (cg_dra u)), cg_kep u, cg_im u, cg_mp u, cg_mw u, cg_mu u, cg_mn u, cg_mi u, cg_mc u, cg_md u, cg_mo u, cg_ms u, cg_mq u, cg_se u, cg_sc u, cg_re u)) := by
  obtain ⟨ho, hk10, hty⟩ := id hd
  obtain ⟨hp7, hk12, hpc, hwt, hrg, hpp⟩ := id ho
  refine Mi.of (by decide) rfl (Nat.le_of_ble_eq_true rfl) ?_
  refine r_aload_n eX1_tell_0 rfl rfl ?_
  refine r_getf (v := .int (nI (cg_rf u))) eX1_tell_1 fX1_42 rfl rfl ?_
  refine z_top (y := nI (119)) (congrArg nI hf) ?_
  refine r_look (off := 70) (tgt := 74) eX1_tell_4 (by decide) (by decide +kernel) (by decide) ?_
  refine r_aload_n eX1_tell_74 rfl rfl ?_
  refine r_aload_n eX1_tell_75 rfl rfl ?_
  refine r_getf (v := .ref 15) eX1_tell_76 fX1_15 rfl rfl ?_
  refine n_iconst 0 eX1_tell_79 rfl ?_
  refine n_iald (f := cg_rn u) (j := 0) eX1_tell_80 rfl rfl (by omega) (by decide) ?_
  refine z_top (y := nI (x.1)) (congrArg nI hL) ?_
  refine r_callVi1 eX1_tell_81 lX1_83 (Or.inl ⟨_, _, _, rfl, rfl, rfl⟩) (s2_changeWatcher_n (t := t) (u := (cg_let u, cg_lc u, 12, cg_rl u, cg_ra u, cg_rf u, cg_rn u, cg_rc u, cg_now u, cg_dra u, cg_kep u, cg_im u, cg_mp u, cg_mw u, cg_mu u, cg_mn u, cg_mi u, cg_mc u, cg_md u, cg_mo u, cg_ms u, cg_mq u, cg_se u, cg_sc u, cg_re u)) ho hx h1) (by omega) (Nat.le_of_ble_eq_true rfl) (fun r1 h1 hq => ?_)
  obtain ⟨rfl, rfl⟩ := (show r1 = nI (0) ∧ h1 = hA t (cg_let u, cg_lc u, 12, cg_rl u, cg_ra u, cg_rf u, cg_rn u, cg_rc u, cg_now u, cg_dra u, cg_kep u, cg_im u, cg_mp u, cg_mw u, cg_mu u, cg_mn u, cg_mi u, cg_mc u, cg_md u, cg_mo u, cg_ms u, cg_mq u, cg_se u, cg_sc u, cg_re u) from hq)
  have ht : tTell 119 x (cg_dra u) = none := by
    unfold tTell
    rw [if_neg (by decide), if_neg (by decide), if_pos rfl, if_neg (by omega)]
  rw [ht]
  exact z_iret eX1_tell_84 rfl (by decide) ⟨_, rfl, rfl, rfl⟩
set_option maxHeartbeats 1000000 in
set_option maxRecDepth 100000 in
theorem s1_tell_119y {t : zMod} {u : zCls} (hrl : cg_rl u ≤ 80) (hlet : ∀ i, cg_let u i ≤ 255) (hd : tRd (cg_dra u)) {x : zN5} (hf : cg_rf u = 119) (hL : cg_rn u 0 = x.1) (h1 : x.1 < tg_people (cg_dra u)) : Mi mX1_tell 5 [.ref 13, .ref 24] (hA t (cg_let u, cg_lc u, 12, cg_rl u, cg_ra u, cg_rf u, cg_rn u, cg_rc u, cg_now u, cg_dra u, cg_kep u, cg_im u, cg_mp u, cg_mw u, cg_mu u, cg_mn u, cg_mi u, cg_mc u, cg_md u, cg_mo u, cg_ms u, cg_mq u, cg_se u, cg_sc u, cg_re u)) (fun r h' => r = nI (tTell 119 x (cg_dra u)).isSome.toNat ∧ h' = hA t (cg_let u, cg_lc u, 12, cg_rl u, cg_ra u, cg_rf u, cg_rn u, cg_rc u, cg_now u, ((tTell 119 x (cg_dra u)).getD (cg_dra u)), cg_kep u, cg_im u, cg_mp u, cg_mw u, cg_mu u, cg_mn u, cg_mi u, cg_mc u, cg_md u, cg_mo u, cg_ms u, cg_mq u, cg_se u, cg_sc u, cg_re u)) := by
  obtain ⟨ho, hk10, hty⟩ := id hd
  obtain ⟨hp7, hk12, hpc, hwt, hrg, hpp⟩ := id ho
  refine Mi.of (by decide) rfl (Nat.le_of_ble_eq_true rfl) ?_
  refine r_aload_n eX1_tell_0 rfl rfl ?_
  refine r_getf (v := .int (nI (cg_rf u))) eX1_tell_1 fX1_42 rfl rfl ?_
  refine z_top (y := nI (119)) (congrArg nI hf) ?_
  refine r_look (off := 70) (tgt := 74) eX1_tell_4 (by decide) (by decide +kernel) (by decide) ?_
  refine r_aload_n eX1_tell_74 rfl rfl ?_
  refine r_aload_n eX1_tell_75 rfl rfl ?_
  refine r_getf (v := .ref 15) eX1_tell_76 fX1_15 rfl rfl ?_
  refine n_iconst 0 eX1_tell_79 rfl ?_
  refine n_iald (f := cg_rn u) (j := 0) eX1_tell_80 rfl rfl (by omega) (by decide) ?_
  refine z_top (y := nI (x.1)) (congrArg nI hL) ?_
  refine r_callVi1 eX1_tell_81 lX1_83 (Or.inl ⟨_, _, _, rfl, rfl, rfl⟩) (s2_changeWatcher_y (t := t) (u := (cg_let u, cg_lc u, 12, cg_rl u, cg_ra u, cg_rf u, cg_rn u, cg_rc u, cg_now u, cg_dra u, cg_kep u, cg_im u, cg_mp u, cg_mw u, cg_mu u, cg_mn u, cg_mi u, cg_mc u, cg_md u, cg_mo u, cg_ms u, cg_mq u, cg_se u, cg_sc u, cg_re u)) ho h1) (by omega) (Nat.le_of_ble_eq_true rfl) (fun r1 h1 hq => ?_)
  obtain ⟨rfl, rfl⟩ := (show r1 = nI (1) ∧ h1 = hA t (cg_let u, cg_lc u, 12, cg_rl u, cg_ra u, cg_rf u, cg_rn u, cg_rc u, cg_now u, (tXor (cg_dra u) x.1), cg_kep u, cg_im u, cg_mp u, cg_mw u, cg_mu u, cg_mn u, cg_mi u, cg_mc u, cg_md u, cg_mo u, cg_ms u, cg_mq u, cg_se u, cg_sc u, cg_re u) from hq)
  have ht : tTell 119 x (cg_dra u) = some (tXor (cg_dra u) x.1) := by
    unfold tTell
    rw [if_neg (by decide), if_neg (by decide), if_pos rfl, if_pos h1]
  rw [ht]
  exact z_iret eX1_tell_84 rfl (by decide) ⟨_, rfl, rfl, rfl⟩
set_option maxHeartbeats 1000000 in
set_option maxRecDepth 100000 in
theorem s1_tell_115 {t : zMod} {u : zCls} (hrl : cg_rl u ≤ 80) (hlet : ∀ i, cg_let u i ≤ 255) (hd : tRd (cg_dra u)) {x : zN5} (hf : cg_rf u = 115) (hL : cg_rn u 0 = x.1) : Mi mX1_tell 5 [.ref 13, .ref 24] (hA t (cg_let u, cg_lc u, 12, cg_rl u, cg_ra u, cg_rf u, cg_rn u, cg_rc u, cg_now u, cg_dra u, cg_kep u, cg_im u, cg_mp u, cg_mw u, cg_mu u, cg_mn u, cg_mi u, cg_mc u, cg_md u, cg_mo u, cg_ms u, cg_mq u, cg_se u, cg_sc u, cg_re u)) (fun r h' => r = nI (tTell 115 x (cg_dra u)).isSome.toNat ∧ h' = hA t (cg_let u, cg_lc u, 12, cg_rl u, cg_ra u, cg_rf u, cg_rn u, cg_rc u, cg_now u, ((tTell 115 x (cg_dra u)).getD (cg_dra u)), cg_kep u, cg_im u, cg_mp u, cg_mw u, cg_mu u, cg_mn u, cg_mi u, cg_mc u, cg_md u, cg_mo u, cg_ms u, cg_mq u, cg_se u, cg_sc u, cg_re u)) := by
  obtain ⟨ho, hk10, hty⟩ := id hd
  obtain ⟨hp7, hk12, hpc, hwt, hrg, hpp⟩ := id ho
  refine Mi.of (by decide) rfl (Nat.le_of_ble_eq_true rfl) ?_
  refine r_aload_n eX1_tell_0 rfl rfl ?_
  refine r_getf (v := .int (nI (cg_rf u))) eX1_tell_1 fX1_42 rfl rfl ?_
  refine z_top (y := nI (115)) (congrArg nI hf) ?_
  refine r_look (off := 81) (tgt := 85) eX1_tell_4 (by decide) (by decide +kernel) (by decide) ?_
  refine r_aload_n eX1_tell_85 rfl rfl ?_
  refine r_aload_n eX1_tell_86 rfl rfl ?_
  refine r_getf (v := .ref 15) eX1_tell_87 fX1_15 rfl rfl ?_
  refine n_iconst 0 eX1_tell_90 rfl ?_
  refine n_iald (f := cg_rn u) (j := 0) eX1_tell_91 rfl rfl (by omega) (by decide) ?_
  refine z_top (y := nI (x.1)) (congrArg nI hL) ?_
  refine z_h (h' := hA t (cg_let u, cg_lc u, 12, cg_rl u, cg_ra u, cg_rf u, cg_rn u, cg_rc u, cg_now u, (tg_kind (cg_dra u), tg_wakes (cg_dra u), tg_takes (cg_dra u), tg_due (cg_dra u), tg_cost (cg_dra u), tg_people (cg_dra u), tg_door (cg_dra u), tg_held (cg_dra u), tg_keys (cg_dra u), tg_watch (cg_dra u), tg_pace (cg_dra u), tg_ring (cg_dra u)), cg_kep u, cg_im u, cg_mp u, cg_mw u, cg_mu u, cg_mn u, cg_mi u, cg_mc u, cg_md u, cg_mo u, cg_ms u, cg_mq u, cg_se u, cg_sc u, cg_re u)) rfl ?_
  refine cp_dra_pace (v := x.1) eX1_tell_92 fX1_86 rfl ?_
  refine n_iconst 1 eX1_tell_95 rfl ?_
  have ht : tTell 115 x (cg_dra u) = some (tPace (cg_dra u) x.1) := by
    unfold tTell
    rw [if_neg (by decide), if_neg (by decide), if_neg (by decide), if_pos rfl]
  rw [ht]
  exact z_iret eX1_tell_96 rfl (by decide) ⟨_, rfl, rfl, rfl⟩
set_option maxHeartbeats 1000000 in
set_option maxRecDepth 100000 in
theorem s1_tell_114 {t : zMod} {u : zCls} (hrl : cg_rl u ≤ 80) (hlet : ∀ i, cg_let u i ≤ 255) (hd : tRd (cg_dra u)) {x : zN5} (hf : cg_rf u = 114)  : Mi mX1_tell 5 [.ref 13, .ref 24] (hA t (cg_let u, cg_lc u, 12, cg_rl u, cg_ra u, cg_rf u, cg_rn u, cg_rc u, cg_now u, cg_dra u, cg_kep u, cg_im u, cg_mp u, cg_mw u, cg_mu u, cg_mn u, cg_mi u, cg_mc u, cg_md u, cg_mo u, cg_ms u, cg_mq u, cg_se u, cg_sc u, cg_re u)) (fun r h' => r = nI (tTell 114 x (cg_dra u)).isSome.toNat ∧ h' = hA t (cg_let u, cg_lc u, 12, cg_rl u, cg_ra u, cg_rf u, cg_rn u, cg_rc u, cg_now u, ((tTell 114 x (cg_dra u)).getD (cg_dra u)), cg_kep u, cg_im u, cg_mp u, cg_mw u, cg_mu u, cg_mn u, cg_mi u, cg_mc u, cg_md u, cg_mo u, cg_ms u, cg_mq u, cg_se u, cg_sc u, cg_re u)) := by
  obtain ⟨ho, hk10, hty⟩ := id hd
  obtain ⟨hp7, hk12, hpc, hwt, hrg, hpp⟩ := id ho
  refine Mi.of (by decide) rfl (Nat.le_of_ble_eq_true rfl) ?_
  refine r_aload_n eX1_tell_0 rfl rfl ?_
  refine r_getf (v := .int (nI (cg_rf u))) eX1_tell_1 fX1_42 rfl rfl ?_
  refine z_top (y := nI (114)) (congrArg nI hf) ?_
  refine r_look (off := 93) (tgt := 97) eX1_tell_4 (by decide) (by decide +kernel) (by decide) ?_
  refine r_aload_n eX1_tell_97 rfl rfl ?_
  refine r_aload_n eX1_tell_98 rfl rfl ?_
  refine r_getf (v := .int (nI (cg_rf u))) eX1_tell_99 fX1_42 rfl rfl ?_
  refine z_top (y := nI (114)) (congrArg nI hf) ?_
  refine n_bipush 114 eX1_tell_102 rfl ?_
  refine n_icmp_ne eX1_tell_104 (by omega) (by omega) (fun hc104 => absurd hc104 (by decide)) (fun hc104 => ?_)
  refine n_iconst 1 eX1_tell_107 rfl ?_
  refine r_goto eX1_tell_108 ?_
  refine z_h (h' := hA t (cg_let u, cg_lc u, 12, cg_rl u, cg_ra u, cg_rf u, cg_rn u, cg_rc u, cg_now u, (tg_kind (cg_dra u), tg_wakes (cg_dra u), tg_takes (cg_dra u), tg_due (cg_dra u), tg_cost (cg_dra u), tg_people (cg_dra u), tg_door (cg_dra u), tg_held (cg_dra u), tg_keys (cg_dra u), tg_watch (cg_dra u), tg_pace (cg_dra u), tg_ring (cg_dra u)), cg_kep u, cg_im u, cg_mp u, cg_mw u, cg_mu u, cg_mn u, cg_mi u, cg_mc u, cg_md u, cg_mo u, cg_ms u, cg_mq u, cg_se u, cg_sc u, cg_re u)) rfl ?_
  refine cp_dra_ring (v := 1) eX1_tell_112 fX1_89 rfl (by omega) ?_
  refine n_iconst 1 eX1_tell_115 rfl ?_
  have ht : tTell 114 x (cg_dra u) = some (tRng (cg_dra u) 1) := by
    unfold tTell
    rw [if_neg (by decide), if_neg (by decide), if_neg (by decide), if_neg (by decide)]
    rfl
  rw [ht]
  exact z_iret eX1_tell_116 rfl (by decide) ⟨_, rfl, rfl, rfl⟩
set_option maxHeartbeats 1000000 in
set_option maxRecDepth 100000 in
theorem s1_tell_111 {t : zMod} {u : zCls} (hrl : cg_rl u ≤ 80) (hlet : ∀ i, cg_let u i ≤ 255) (hd : tRd (cg_dra u)) {x : zN5} (hf : cg_rf u = 111)  : Mi mX1_tell 5 [.ref 13, .ref 24] (hA t (cg_let u, cg_lc u, 12, cg_rl u, cg_ra u, cg_rf u, cg_rn u, cg_rc u, cg_now u, cg_dra u, cg_kep u, cg_im u, cg_mp u, cg_mw u, cg_mu u, cg_mn u, cg_mi u, cg_mc u, cg_md u, cg_mo u, cg_ms u, cg_mq u, cg_se u, cg_sc u, cg_re u)) (fun r h' => r = nI (tTell 111 x (cg_dra u)).isSome.toNat ∧ h' = hA t (cg_let u, cg_lc u, 12, cg_rl u, cg_ra u, cg_rf u, cg_rn u, cg_rc u, cg_now u, ((tTell 111 x (cg_dra u)).getD (cg_dra u)), cg_kep u, cg_im u, cg_mp u, cg_mw u, cg_mu u, cg_mn u, cg_mi u, cg_mc u, cg_md u, cg_mo u, cg_ms u, cg_mq u, cg_se u, cg_sc u, cg_re u)) := by
  obtain ⟨ho, hk10, hty⟩ := id hd
  obtain ⟨hp7, hk12, hpc, hwt, hrg, hpp⟩ := id ho
  refine Mi.of (by decide) rfl (Nat.le_of_ble_eq_true rfl) ?_
  refine r_aload_n eX1_tell_0 rfl rfl ?_
  refine r_getf (v := .int (nI (cg_rf u))) eX1_tell_1 fX1_42 rfl rfl ?_
  refine z_top (y := nI (111)) (congrArg nI hf) ?_
  refine r_look (off := 93) (tgt := 97) eX1_tell_4 (by decide) (by decide +kernel) (by decide) ?_
  refine r_aload_n eX1_tell_97 rfl rfl ?_
  refine r_aload_n eX1_tell_98 rfl rfl ?_
  refine r_getf (v := .int (nI (cg_rf u))) eX1_tell_99 fX1_42 rfl rfl ?_
  refine z_top (y := nI (111)) (congrArg nI hf) ?_
  refine n_bipush 114 eX1_tell_102 rfl ?_
  refine n_icmp_ne eX1_tell_104 (by omega) (by omega) (fun hc104 => ?_) (fun hc104 => absurd hc104 (by decide))
  refine n_iconst 0 eX1_tell_111 rfl ?_
  refine z_h (h' := hA t (cg_let u, cg_lc u, 12, cg_rl u, cg_ra u, cg_rf u, cg_rn u, cg_rc u, cg_now u, (tg_kind (cg_dra u), tg_wakes (cg_dra u), tg_takes (cg_dra u), tg_due (cg_dra u), tg_cost (cg_dra u), tg_people (cg_dra u), tg_door (cg_dra u), tg_held (cg_dra u), tg_keys (cg_dra u), tg_watch (cg_dra u), tg_pace (cg_dra u), tg_ring (cg_dra u)), cg_kep u, cg_im u, cg_mp u, cg_mw u, cg_mu u, cg_mn u, cg_mi u, cg_mc u, cg_md u, cg_mo u, cg_ms u, cg_mq u, cg_se u, cg_sc u, cg_re u)) rfl ?_
  refine cp_dra_ring (v := 0) eX1_tell_112 fX1_89 rfl (by omega) ?_
  refine n_iconst 1 eX1_tell_115 rfl ?_
  have ht : tTell 111 x (cg_dra u) = some (tRng (cg_dra u) 0) := by
    unfold tTell
    rw [if_neg (by decide), if_neg (by decide), if_neg (by decide), if_neg (by decide)]
    rfl
  rw [ht]
  exact z_iret eX1_tell_116 rfl (by decide) ⟨_, rfl, rfl, rfl⟩
theorem s1_tell {t : zMod} {u : zCls} (hrl : cg_rl u ≤ 80) (hlet : ∀ i, cg_let u i ≤ 255) (hd : tRd (cg_dra u)) {x : zN5}  {c : Nat} (hf : cg_rf u = c) (hc : c = 112 ∨ c = 107 ∨ c = 119 ∨ c = 115 ∨ c = 114 ∨ c = 111) (hx : zxOk c x) (hL : zTn c x (cg_rn u)) : Mi mX1_tell 5 [.ref 13, .ref 24] (hA t (cg_let u, cg_lc u, 12, cg_rl u, cg_ra u, cg_rf u, cg_rn u, cg_rc u, cg_now u, cg_dra u, cg_kep u, cg_im u, cg_mp u, cg_mw u, cg_mu u, cg_mn u, cg_mi u, cg_mc u, cg_md u, cg_mo u, cg_ms u, cg_mq u, cg_se u, cg_sc u, cg_re u)) (fun r h' => r = nI (tTell c x (cg_dra u)).isSome.toNat ∧ h' = hA t (cg_let u, cg_lc u, 12, cg_rl u, cg_ra u, cg_rf u, cg_rn u, cg_rc u, cg_now u, ((tTell c x (cg_dra u)).getD (cg_dra u)), cg_kep u, cg_im u, cg_mp u, cg_mw u, cg_mu u, cg_mn u, cg_mi u, cg_mc u, cg_md u, cg_mo u, cg_ms u, cg_mq u, cg_se u, cg_sc u, cg_re u)) := by
  obtain ⟨x1, x2, x3, x4, x5, x6⟩ := hx
  rcases hc with rfl | rfl | rfl | rfl | rfl | rfl
  · by_cases h7 : tg_people (cg_dra u) = 7
    · exact s1_tell_112n hrl hlet hd hf (hL.1 rfl) h7
    · exact s1_tell_112y hrl hlet hd hf (hL.1 rfl) h7
  · by_cases hk : tg_keys (cg_dra u) = 10
    · exact s1_tell_107f hrl hlet hd hf (hL.2.1 rfl) ⟨x1, x2⟩ hk
    · by_cases h1 : x.1 < tg_people (cg_dra u)
      · by_cases h2 : x.2.1 < tg_people (cg_dra u)
        · exact s1_tell_107y hrl hlet hd hf (hL.2.1 rfl) ⟨x1, x2⟩ hk h1 h2
        · exact s1_tell_107b hrl hlet hd hf (hL.2.1 rfl) ⟨x1, x2⟩ hk h1 (by omega)
      · exact s1_tell_107a hrl hlet hd hf (hL.2.1 rfl) ⟨x1, x2⟩ hk (by omega)
  · by_cases h1 : x.1 < tg_people (cg_dra u)
    · exact s1_tell_119y hrl hlet hd hf (hL.2.2 (Or.inl rfl)) h1
    · exact s1_tell_119n hrl hlet hd hf (hL.2.2 (Or.inl rfl)) x1 (by omega)
  · exact s1_tell_115 hrl hlet hd hf (hL.2.2 (Or.inr rfl))
  · exact s1_tell_114 hrl hlet hd hf
  · exact s1_tell_111 hrl hlet hd hf
set_option maxHeartbeats 1000000 in
set_option maxRecDepth 100000 in
theorem s1_all_l {t : zMod} {u : zCls} (hrl : cg_rl u ≤ 80) (hlet : ∀ i, cg_let u i ≤ 255) {P1 : Nat × Option Nat} (hP1 : (pAl (cg_let u) (cg_rl u) (cg_rl u + 1) 0) = P1) : ∀ (k : Nat) (i : Nat) (a : Nat) (F9 : Nat) (N9 : Nat → Nat) (C9 : Nat) (han : a ≤ cg_rl u) (hia : i + 1 ≤ a) (hka : cg_rl u < a + k) (hI : (a < cg_rl u → P1.1 = (pAl (cg_let u) (cg_rl u) k a).1 ∧ P1.2.isSome = (pAl (cg_let u) (cg_rl u) k a).2.isSome) ∧ (¬ a < cg_rl u → P1.1 = a ∧ P1.2.isSome = true)), Rq mX1_allStatementsParse 8 none 16 [.ref 13, .int (nI (i))] [] (hA t (cg_let u, cg_lc u, 12, cg_rl u, a, F9, N9, C9, cg_now u, cg_dra u, cg_kep u, cg_im u, cg_mp u, cg_mw u, cg_mu u, cg_mn u, cg_mi u, cg_mc u, cg_md u, cg_mo u, cg_ms u, cg_mq u, cg_se u, cg_sc u, cg_re u)) (fun r h' => ∃ x, r = some x ∧ ∃ (F' : Nat) (N' : Nat → Nat) (C' : Nat), h' = hA t (cg_let u, cg_lc u, 12, cg_rl u, ((pAl (cg_let u) (cg_rl u) (cg_rl u + 1) 0).1), F', N', C', cg_now u, cg_dra u, cg_kep u, cg_im u, cg_mp u, cg_mw u, cg_mu u, cg_mn u, cg_mi u, cg_mc u, cg_md u, cg_mo u, cg_ms u, cg_mq u, cg_se u, cg_sc u, cg_re u) ∧ x = nI (pAl (cg_let u) (cg_rl u) (cg_rl u + 1) 0).2.isSome.toNat) := by
  intro k
  induction k with
  | zero =>
    intro i a F9 N9 C9 han hia hka hI
    omega
  | succ k ih =>
    intro i a F9 N9 C9 han hia hka hI
    have hok := pSt_ok (f := (cg_let u)) han
    refine r_iload_n eX1_allStatementsParse_16 rfl rfl ?_
    refine n_bipush 80 eX1_allStatementsParse_17 rfl ?_
    refine n_icmp_ge eX1_allStatementsParse_19 (by first | omega | exact zsome_lt _) (by first | omega | exact zsome_lt _) (fun hc19 => absurd hc19 (by omega)) (fun hc19 => ?_)
    refine r_aload_n eX1_allStatementsParse_22 rfl rfl ?_
    refine r_getf (v := .int (nI (a))) eX1_allStatementsParse_23 fX1_32 rfl rfl ?_
    refine r_aload_n eX1_allStatementsParse_26 rfl rfl ?_
    refine r_getf (v := .int (nI (cg_rl u))) eX1_allStatementsParse_27 fX1_24 rfl rfl ?_
    refine n_icmp_ge eX1_allStatementsParse_30 (by first | omega | exact zsome_lt _) (by first | omega | exact zsome_lt _) (fun hc30 => ?_) (fun hc30 => ?_)
    · refine n_iconst 1 eX1_allStatementsParse_48 rfl ?_
      obtain ⟨q1, q2⟩ := hI.2 (by omega)
      rw [hP1, q1, q2]
      exact z_iret eX1_allStatementsParse_49 rfl (by decide) ⟨_, rfl, F9, N9, C9, rfl, rfl⟩
    · refine r_aload_n eX1_allStatementsParse_33 rfl rfl ?_
      refine r_callVi0 eX1_allStatementsParse_34 lX1_35 (Or.inl ⟨_, _, _, rfl, rfl, rfl⟩) (s1_parseStatement (t := t) (u := (cg_let u, cg_lc u, 12, cg_rl u, a, F9, N9, C9, cg_now u, cg_dra u, cg_kep u, cg_im u, cg_mp u, cg_mw u, cg_mu u, cg_mn u, cg_mi u, cg_mc u, cg_md u, cg_mo u, cg_ms u, cg_mq u, cg_se u, cg_sc u, cg_re u)) hrl hlet han) (by omega) (Nat.le_of_ble_eq_true rfl) (fun r1 h1 hq => ?_)
      obtain ⟨F34, N34, C34, hr9, hh9, hL34⟩ := hq
      obtain rfl := (show r1 = nI ((pSt (cg_let u) (cg_rl u) a).2.isSome.toNat) from hr9)
      obtain rfl := (show h1 = hA t (cg_let u, cg_lc u, 12, cg_rl u, ((pSt (cg_let u) (cg_rl u) a).1), F34, N34, C34, cg_now u, cg_dra u, cg_kep u, cg_im u, cg_mp u, cg_mw u, cg_mu u, cg_mn u, cg_mi u, cg_mc u, cg_md u, cg_mo u, cg_ms u, cg_mq u, cg_se u, cg_sc u, cg_re u) from hh9)
      have hL34 : ∀ x, (pSt (cg_let u) (cg_rl u) a).2 = some x → F34 = (cg_let u) a ∧ zTn ((cg_let u) a) x N34 := hL34
      refine n_if_ne eX1_allStatementsParse_37 (by first | omega | exact zsome_lt _) (fun hc37 => ?_) (fun hc37 => ?_)
      · refine n_iinc (k := 1) eX1_allStatementsParse_42 rfl (by decide) rfl ?_
        refine r_goto eX1_allStatementsParse_45 ?_
        obtain ⟨x, hx⟩ := zsome hc37
        have hlt := pSt_lt hx
        obtain ⟨q1, q2⟩ := hI.1 (by omega)
        rw [pAl, hx] at q1 q2
        dsimp only at q1 q2
        refine ih (i + 1) _ _ _ _ hok.2 (by omega) (by omega) ⟨fun z => ?_, fun z => ?_⟩
        · rw [if_pos z] at q1 q2
          rw [Option.isSome_map] at q2
          exact ⟨q1, q2⟩
        · rw [if_neg z] at q1 q2
          exact ⟨q1, q2⟩
      · refine n_iconst 0 eX1_allStatementsParse_40 rfl ?_
        obtain ⟨q1, q2⟩ := hI.1 (by omega)
        rw [pAl, znone hc37] at q1 q2
        dsimp only at q1 q2
        rw [hP1, q1, q2]
        exact z_iret eX1_allStatementsParse_41 rfl (by decide) ⟨_, rfl, F34, N34, C34, rfl, rfl⟩
set_option maxHeartbeats 1000000 in
set_option maxRecDepth 100000 in
theorem s1_allParse {t : zMod} {u : zCls} (hrl : cg_rl u ≤ 80) (hlet : ∀ i, cg_let u i ≤ 255) : Mi mX1_allStatementsParse 8 [.ref 13] (hA t (cg_let u, cg_lc u, 12, cg_rl u, cg_ra u, cg_rf u, cg_rn u, cg_rc u, cg_now u, cg_dra u, cg_kep u, cg_im u, cg_mp u, cg_mw u, cg_mu u, cg_mn u, cg_mi u, cg_mc u, cg_md u, cg_mo u, cg_ms u, cg_mq u, cg_se u, cg_sc u, cg_re u)) (fun r h' => ∃ (F' : Nat) (N' : Nat → Nat) (C' : Nat), h' = hA t (cg_let u, cg_lc u, 12, cg_rl u, ((pAl (cg_let u) (cg_rl u) (cg_rl u + 1) 0).1), F', N', C', cg_now u, cg_dra u, cg_kep u, cg_im u, cg_mp u, cg_mw u, cg_mu u, cg_mn u, cg_mi u, cg_mc u, cg_md u, cg_mo u, cg_ms u, cg_mq u, cg_se u, cg_sc u, cg_re u) ∧ r = nI (pAl (cg_let u) (cg_rl u) (cg_rl u + 1) 0).2.isSome.toNat) := by
  refine Mi.of (by decide) rfl (Nat.le_of_ble_eq_true rfl) ?_
  refine r_aload_n eX1_allStatementsParse_0 rfl rfl ?_
  refine n_iconst 0 eX1_allStatementsParse_1 rfl ?_
  refine cp_ra (v := 0) eX1_allStatementsParse_2 fX1_32 rfl ?_
  refine r_aload_n eX1_allStatementsParse_5 rfl rfl ?_
  refine r_callVi0 eX1_allStatementsParse_6 lX1_35 (Or.inl ⟨_, _, _, rfl, rfl, rfl⟩) (s1_parseStatement (t := t) (u := (cg_let u, cg_lc u, 12, cg_rl u, 0, cg_rf u, cg_rn u, cg_rc u, cg_now u, cg_dra u, cg_kep u, cg_im u, cg_mp u, cg_mw u, cg_mu u, cg_mn u, cg_mi u, cg_mc u, cg_md u, cg_mo u, cg_ms u, cg_mq u, cg_se u, cg_sc u, cg_re u)) hrl hlet (Nat.zero_le _)) (by omega) (Nat.le_of_ble_eq_true rfl) (fun r1 h1 hq => ?_)
  obtain ⟨F6, N6, C6, hr9, hh9, hL6⟩ := hq
  obtain rfl := (show r1 = nI ((pSt (cg_let u) (cg_rl u) 0).2.isSome.toNat) from hr9)
  obtain rfl := (show h1 = hA t (cg_let u, cg_lc u, 12, cg_rl u, ((pSt (cg_let u) (cg_rl u) 0).1), F6, N6, C6, cg_now u, cg_dra u, cg_kep u, cg_im u, cg_mp u, cg_mw u, cg_mu u, cg_mn u, cg_mi u, cg_mc u, cg_md u, cg_mo u, cg_ms u, cg_mq u, cg_se u, cg_sc u, cg_re u) from hh9)
  have hL6 : ∀ x, (pSt (cg_let u) (cg_rl u) 0).2 = some x → F6 = (cg_let u) 0 ∧ zTn ((cg_let u) 0) x N6 := hL6
  refine n_if_ne eX1_allStatementsParse_9 (by first | omega | exact zsome_lt _) (fun hc9 => ?_) (fun hc9 => ?_)
  · refine n_iconst 0 eX1_allStatementsParse_14 rfl ?_
    refine r_istore_n eX1_allStatementsParse_15 rfl (by decide) ?_
    obtain ⟨x, hx⟩ := zsome hc9
    have hlt := pSt_lt hx
    have q9 : (pAl (cg_let u) (cg_rl u) (cg_rl u + 1) 0) = if (pSt (cg_let u) (cg_rl u) 0).1 < cg_rl u then ((pAl (cg_let u) (cg_rl u) (cg_rl u) (pSt (cg_let u) (cg_rl u) 0).1).1, (pAl (cg_let u) (cg_rl u) (cg_rl u) (pSt (cg_let u) (cg_rl u) 0).1).2.map (· + 1)) else ((pSt (cg_let u) (cg_rl u) 0).1, some 1) := by rw [pAl, hx]
    refine s1_all_l hrl hlet rfl (cg_rl u) 0 _ _ _ _ hlt.2.2 (by omega) (by omega) ⟨fun z => ?_, fun z => ?_⟩
    · rw [q9, if_pos z, Option.isSome_map]; exact ⟨rfl, rfl⟩
    · rw [q9, if_neg z]; exact ⟨rfl, rfl⟩
  · refine n_iconst 0 eX1_allStatementsParse_12 rfl ?_
    have q9 : (pAl (cg_let u) (cg_rl u) (cg_rl u + 1) 0) = ((pSt (cg_let u) (cg_rl u) 0).1, none) := by rw [pAl, znone hc9]
    rw [q9]
    exact z_iret eX1_allStatementsParse_13 rfl (by decide) ⟨_, rfl, F6, N6, C6, rfl, rfl⟩
def tRead (f : Nat → Nat) (n : Nat) (T : zTown) : Int32 × zTown := match pAl f n (n + 1) 0 with
  | (a, none) => ((-1000) - nI a, T)
  | (_, some _) => match pT tTell f n (n + 1) 0 0 T with
    | (a, none) => ((-2000) - nI a, T)
    | (_, some (c, T')) => (nI c, T')
theorem zneg1 : ∀ a, a < 128 → (-1000 : Int32) - nI a < 0 := by decide +kernel
theorem zneg2 : ∀ a, a < 128 → (-2000 : Int32) - nI a < 0 := by decide +kernel
set_option maxHeartbeats 1000000 in
set_option maxRecDepth 100000 in
theorem s1_read_l {t : zMod} {u : zCls} (hrl : cg_rl u ≤ 80) (hlet : ∀ i, cg_let u i ≤ 255) {T0 : zTown} {aM mM : Nat} (hM : (pAl (cg_let u) (cg_rl u) (cg_rl u + 1) 0) = (aM, some mM)) {P0 : Nat × Option (Nat × zTown)} (hP0 : pT tTell (cg_let u) (cg_rl u) (cg_rl u + 1) 0 0 T0 = P0) : ∀ (k a c i : Nat) (D : zTown) (F9 : Nat) (N9 : Nat → Nat) (C9 : Nat) (v6 : Value), a ≤ cg_rl u → cg_rl u < a + k → c ≤ a → i ≤ a → tRd D → (a < cg_rl u → (pAl (cg_let u) (cg_rl u) k a).2.isSome = true) → P0 = pT tTell (cg_let u) (cg_rl u) k a c D → Rq mX1_readInto 9 none 42 [.ref 13, .ref 24, .ref 12, .int (nI (cg_rl u)), .int (nI c), .int (nI i), v6] [] (hA t (cg_let u, cg_lc u, 12, cg_rl u, a, F9, N9, C9, cg_now u, D, cg_kep u, cg_im u, cg_mp u, cg_mw u, cg_mu u, cg_mn u, cg_mi u, cg_mc u, cg_md u, cg_mo u, cg_ms u, cg_mq u, cg_se u, cg_sc u, cg_re u)) (fun r h' => ∃ x, r = some x ∧ ∃ (A' F' : Nat) (N' : Nat → Nat) (C' : Nat) (D' : zTown), h' = hA t (cg_let u, cg_lc u, 12, cg_rl u, A', F', N', C', cg_now u, D', cg_kep u, cg_im u, cg_mp u, cg_mw u, cg_mu u, cg_mn u, cg_mi u, cg_mc u, cg_md u, cg_mo u, cg_ms u, cg_mq u, cg_se u, cg_sc u, cg_re u) ∧ x = (tRead (cg_let u) (cg_rl u) T0).1 ∧ tRd D' ∧ (0 ≤ (tRead (cg_let u) (cg_rl u) T0).1 → D' = (tRead (cg_let u) (cg_rl u) T0).2)) := by
  intro k
  induction k with
  | zero => intro a c i D F9 N9 C9 v6 ha h1; omega
  | succ k ih =>
    intro a c i D F9 N9 C9 v6 ha h1 hca hia hD hAl hP
    rw [pT] at hP
    by_cases haa : a < cg_rl u
    · rw [if_pos haa] at hP
      have hA1 := hAl haa
      rw [pAl] at hA1
      cases hx : (pSt (cg_let u) (cg_rl u) a).2 with
      | none => rw [hx] at hA1; exact absurd hA1 Bool.false_ne_true
      | some x =>
        rw [hx] at hP hA1
        dsimp only at hP hA1
        have hv : zxOk ((cg_let u) a) x := pSt_val hx
        have hlt := pSt_lt hx
        have hcc := pSt_c hx
        have hb := hlet a
        refine r_iload eX1_readInto_42 rfl ?_
        refine n_bipush 80 eX1_readInto_44 rfl ?_
        refine n_icmp_ge eX1_readInto_46 (by first | omega | exact zsome_lt _) (by first | omega | exact zsome_lt _) (fun hc46 => absurd hc46 (by omega)) (fun hc46 => ?_)
        refine r_aload_n eX1_readInto_49 rfl rfl ?_
        refine r_getf (v := .int (nI (a))) eX1_readInto_50 fX1_32 rfl rfl ?_
        refine r_aload_n eX1_readInto_53 rfl rfl ?_
        refine r_getf (v := .int (nI (cg_rl u))) eX1_readInto_54 fX1_24 rfl rfl ?_
        refine n_icmp_ge eX1_readInto_57 (by first | omega | exact zsome_lt _) (by first | omega | exact zsome_lt _) (fun hc57 => absurd hc57 (by omega)) (fun hc57 => ?_)
        refine r_aload_n eX1_readInto_60 rfl rfl ?_
        refine r_getf (v := .int (nI (a))) eX1_readInto_61 fX1_32 rfl rfl ?_
        refine r_istore eX1_readInto_64 (by decide) ?_
        refine r_aload_n eX1_readInto_66 rfl rfl ?_
        refine r_callVi0 eX1_readInto_67 lX1_35 (Or.inl ⟨_, _, _, rfl, rfl, rfl⟩) (s1_parseStatement (t := t) (u := (cg_let u, cg_lc u, 12, cg_rl u, a, F9, N9, C9, cg_now u, D, cg_kep u, cg_im u, cg_mp u, cg_mw u, cg_mu u, cg_mn u, cg_mi u, cg_mc u, cg_md u, cg_mo u, cg_ms u, cg_mq u, cg_se u, cg_sc u, cg_re u)) hrl hlet ha) (by omega) (Nat.le_of_ble_eq_true rfl) (fun r1 h1 hq => ?_)
        obtain ⟨F67, N67, C67, hr9, hh9, hL67⟩ := hq
        obtain rfl := (show r1 = nI ((pSt (cg_let u) (cg_rl u) a).2.isSome.toNat) from hr9)
        obtain rfl := (show h1 = hA t (cg_let u, cg_lc u, 12, cg_rl u, ((pSt (cg_let u) (cg_rl u) a).1), F67, N67, C67, cg_now u, D, cg_kep u, cg_im u, cg_mp u, cg_mw u, cg_mu u, cg_mn u, cg_mi u, cg_mc u, cg_md u, cg_mo u, cg_ms u, cg_mq u, cg_se u, cg_sc u, cg_re u) from hh9)
        have hL67 : ∀ x, (pSt (cg_let u) (cg_rl u) a).2 = some x → F67 = (cg_let u) a ∧ zTn ((cg_let u) a) x N67 := hL67
        have hL67 := hL67 x hx
        have hs67 : (pSt (cg_let u) (cg_rl u) a).2.isSome.toNat = 1 := by rw [hx]; rfl
        refine n_if_eq eX1_readInto_70 (by first | omega | exact zsome_lt _) (fun hc70 => absurd hc70 (by omega)) (fun hc70 => ?_)
        refine r_aload_n eX1_readInto_73 rfl rfl ?_
        refine r_aload_n eX1_readInto_74 rfl rfl ?_
        refine r_callVi1 eX1_readInto_75 lX1_38 (Or.inl ⟨_, _, _, rfl, rfl, rfl⟩) (s1_tell (t := t) (u := (cg_let u, cg_lc u, 12, cg_rl u, ((pSt (cg_let u) (cg_rl u) a).1), F67, N67, C67, cg_now u, D, cg_kep u, cg_im u, cg_mp u, cg_mw u, cg_mu u, cg_mn u, cg_mi u, cg_mc u, cg_md u, cg_mo u, cg_ms u, cg_mq u, cg_se u, cg_sc u, cg_re u)) hrl hlet hD (x := x) (c := (cg_let u) a) hL67.1 hcc hv hL67.2) (by omega) (Nat.le_of_ble_eq_true rfl) (fun r1 h1 hq => ?_)
        obtain ⟨rfl, rfl⟩ := (show r1 = nI ((tTell ((cg_let u) a) x D).isSome.toNat) ∧ h1 = hA t (cg_let u, cg_lc u, 12, cg_rl u, ((pSt (cg_let u) (cg_rl u) a).1), F67, N67, C67, cg_now u, ((tTell ((cg_let u) a) x D).getD D), cg_kep u, cg_im u, cg_mp u, cg_mw u, cg_mu u, cg_mn u, cg_mi u, cg_mc u, cg_md u, cg_mo u, cg_ms u, cg_mq u, cg_se u, cg_sc u, cg_re u) from hq)
        refine n_if_ne eX1_readInto_78 (by first | omega | exact zsome_lt _) (fun hc78 => ?_) (fun hc78 => ?_)
        · refine n_iinc (k := 1) eX1_readInto_88 rfl (by decide) rfl ?_
          refine n_iinc (k := 1) eX1_readInto_91 rfl (by decide) rfl ?_
          refine r_goto eX1_readInto_94 ?_
          obtain ⟨D9, hD9⟩ := zsome hc78
          rw [hD9] at hP
          dsimp only at hP
          refine z_h (h' := hA t (cg_let u, cg_lc u, 12, cg_rl u, (pSt (cg_let u) (cg_rl u) a).1, F67, N67, C67, cg_now u, D9, cg_kep u, cg_im u, cg_mp u, cg_mw u, cg_mu u, cg_mn u, cg_mi u, cg_mc u, cg_md u, cg_mo u, cg_ms u, cg_mq u, cg_se u, cg_sc u, cg_re u)) (by rw [hD9]; rfl) ?_
          refine ih _ (c + 1) (i + 1) D9 _ _ _ _ hlt.2.2 (by omega) (by omega) (by omega) (tTell_ok hD hv hD9) (fun z => ?_) hP
          rw [if_pos z] at hA1
          rw [Option.isSome_map] at hA1
          exact hA1
        · refine r_sipush (v := (-2000)) eX1_readInto_81 rfl ?_
          refine r_iload eX1_readInto_84 rfl ?_
          refine r_isub eX1_readInto_86 ?_
          have hn9 := znone hc78
          rw [hn9] at hP
          have hT9 : tRead (cg_let u) (cg_rl u) T0 = ((-2000) - nI a, T0) := by
            unfold tRead
            rw [hM]
            dsimp only
            rw [hP0, hP]
          rw [hT9]
          refine z_iret eX1_readInto_87 rfl rfl ⟨_, rfl, _, _, _, _, _, rfl, rfl, ?_, fun z => absurd z (Int32.not_le.mpr (zneg2 a (by omega)))⟩
          rw [hn9]
          exact hD
    · rw [if_neg haa] at hP
      refine r_iload eX1_readInto_42 rfl ?_
      refine n_bipush 80 eX1_readInto_44 rfl ?_
      refine n_icmp_ge eX1_readInto_46 (by first | omega | exact zsome_lt _) (by first | omega | exact zsome_lt _) (fun hc46 => ?_) (fun hc46 => ?_)
      · refine r_iload eX1_readInto_97 rfl ?_
        have hT9 : tRead (cg_let u) (cg_rl u) T0 = (nI c, D) := by
          unfold tRead
          rw [hM]
          dsimp only
          rw [hP0, hP]
        rw [hT9]
        exact z_iret eX1_readInto_99 rfl rfl ⟨_, rfl, _, _, _, _, _, rfl, rfl, hD, fun _ => rfl⟩
      · refine r_aload_n eX1_readInto_49 rfl rfl ?_
        refine r_getf (v := .int (nI (a))) eX1_readInto_50 fX1_32 rfl rfl ?_
        refine r_aload_n eX1_readInto_53 rfl rfl ?_
        refine r_getf (v := .int (nI (cg_rl u))) eX1_readInto_54 fX1_24 rfl rfl ?_
        refine n_icmp_ge eX1_readInto_57 (by first | omega | exact zsome_lt _) (by first | omega | exact zsome_lt _) (fun hc57 => ?_) (fun hc57 => absurd hc57 (by omega))
        refine r_iload eX1_readInto_97 rfl ?_
        have hT9 : tRead (cg_let u) (cg_rl u) T0 = (nI c, D) := by
          unfold tRead
          rw [hM]
          dsimp only
          rw [hP0, hP]
        rw [hT9]
        exact z_iret eX1_readInto_99 rfl rfl ⟨_, rfl, _, _, _, _, _, rfl, rfl, hD, fun _ => rfl⟩
theorem pAl_le {f : Nat → Nat} {n : Nat} : ∀ (k a : Nat), a ≤ n → (pAl f n k a).1 ≤ n
  | 0, a, h => h
  | k + 1, a, h => by
    have hok := pSt_ok (f := f) h
    rw [pAl]
    cases hx : (pSt f n a).2 with
    | none => exact hok.2
    | some x =>
      dsimp only
      split
      · exact pAl_le k _ hok.2
      · exact hok.2
set_option maxHeartbeats 1000000 in
set_option maxRecDepth 100000 in
theorem s1_readInto {t : zMod} {u : zCls} {n : Nat} (hn : n ≤ 80) (hlet : ∀ i, cg_let u i ≤ 255) (hd : tRd (cg_dra u)) : Mi mX1_readInto 9 [.ref 13, .ref 24, .ref 12, .int (nI (n))] (hA t u) (fun r h' => ∃ (A' F' : Nat) (N' : Nat → Nat) (C' : Nat) (D' : zTown), h' = hA t (cg_let u, cg_lc u, 12, n, A', F', N', C', cg_now u, D', cg_kep u, cg_im u, cg_mp u, cg_mw u, cg_mu u, cg_mn u, cg_mi u, cg_mc u, cg_md u, cg_mo u, cg_ms u, cg_mq u, cg_se u, cg_sc u, cg_re u) ∧ r = (tRead (cg_let u) n (cg_dra u)).1 ∧ tRd D' ∧ (0 ≤ (tRead (cg_let u) n (cg_dra u)).1 → D' = (tRead (cg_let u) n (cg_dra u)).2)) := by
  have hpa : (pAl (cg_let u) n (n + 1) 0).1 ≤ n := pAl_le _ _ (Nat.zero_le _)
  refine Mi.of (by decide) rfl (Nat.le_of_ble_eq_true rfl) ?_
  refine r_aload_n eX1_readInto_0 rfl rfl ?_
  refine r_aload_n eX1_readInto_1 rfl rfl ?_
  refine z_h (h' := hA t (cg_let u, cg_lc u, cg_rt u, cg_rl u, cg_ra u, cg_rf u, cg_rn u, cg_rc u, cg_now u, cg_dra u, cg_kep u, cg_im u, cg_mp u, cg_mw u, cg_mu u, cg_mn u, cg_mi u, cg_mc u, cg_md u, cg_mo u, cg_ms u, cg_mq u, cg_se u, cg_sc u, cg_re u)) rfl ?_
  refine cp_rt eX1_readInto_2 fX1_9 ?_
  refine r_aload_n eX1_readInto_5 rfl rfl ?_
  refine r_iload_n eX1_readInto_6 rfl rfl ?_
  refine r_aload_n eX1_readInto_7 rfl rfl ?_
  refine r_alen eX1_readInto_8 rfl ?_
  refine n_min eX1_readInto_9 lX1_18 (by omega) (Nat.le_of_ble_eq_true rfl) (by first | omega | exact zsome_lt _) (by first | omega | exact zsome_lt _) ?_
  refine z_top (y := nI (n)) (congrArg nI (Nat.min_eq_left hn)) ?_
  refine cp_rl (v := n) eX1_readInto_12 fX1_24 rfl ?_
  refine r_aload_n eX1_readInto_15 rfl rfl ?_
  refine r_callVi0 eX1_readInto_16 lX1_28 (Or.inl ⟨_, _, _, rfl, rfl, rfl⟩) (s1_allParse (t := t) (u := (cg_let u, cg_lc u, 12, n, cg_ra u, cg_rf u, cg_rn u, cg_rc u, cg_now u, cg_dra u, cg_kep u, cg_im u, cg_mp u, cg_mw u, cg_mu u, cg_mn u, cg_mi u, cg_mc u, cg_md u, cg_mo u, cg_ms u, cg_mq u, cg_se u, cg_sc u, cg_re u)) hn hlet) (by omega) (Nat.le_of_ble_eq_true rfl) (fun r1 h1 hq => ?_)
  obtain ⟨F16, N16, C16, hh9, hr9⟩ := hq
  obtain rfl := (show h1 = hA t (cg_let u, cg_lc u, 12, n, ((pAl (cg_let u) n (n + 1) 0).1), F16, N16, C16, cg_now u, cg_dra u, cg_kep u, cg_im u, cg_mp u, cg_mw u, cg_mu u, cg_mn u, cg_mi u, cg_mc u, cg_md u, cg_mo u, cg_ms u, cg_mq u, cg_se u, cg_sc u, cg_re u) from hh9)
  obtain rfl := (show r1 = nI ((pAl (cg_let u) n (n + 1) 0).2.isSome.toNat) from hr9)
  refine n_if_ne eX1_readInto_19 (by first | omega | exact zsome_lt _) (fun hc19 => ?_) (fun hc19 => ?_)
  · refine r_aload_n eX1_readInto_31 rfl rfl ?_
    refine n_iconst 0 eX1_readInto_32 rfl ?_
    refine cp_ra (v := 0) eX1_readInto_33 fX1_32 rfl ?_
    refine n_iconst 0 eX1_readInto_36 rfl ?_
    refine r_istore eX1_readInto_37 (by decide) ?_
    refine n_iconst 0 eX1_readInto_39 rfl ?_
    refine r_istore eX1_readInto_40 (by decide) ?_
    obtain ⟨mM, hmM⟩ := zsome hc19
    have hM : (pAl (cg_let u) n (n + 1) 0) = ((pAl (cg_let u) n (n + 1) 0).1, some mM) := by rw [← hmM]
    exact s1_read_l (t := t) (u := (cg_let u, cg_lc u, 12, n, 0, F16, N16, C16, cg_now u, cg_dra u, cg_kep u, cg_im u, cg_mp u, cg_mw u, cg_mu u, cg_mn u, cg_mi u, cg_mc u, cg_md u, cg_mo u, cg_ms u, cg_mq u, cg_se u, cg_sc u, cg_re u)) hn hlet (T0 := (cg_dra u)) hM rfl (n + 1) 0 0 0 (cg_dra u) F16 N16 C16 _ (Nat.zero_le _) (by show n < 0 + (n + 1); omega) (Nat.le_refl _) (Nat.le_refl _) hd (fun _ => by show (pAl (cg_let u) n (n + 1) 0).2.isSome = true; rw [hmM]; rfl) rfl
  · refine r_sipush (v := (-1000)) eX1_readInto_22 rfl ?_
    refine r_aload_n eX1_readInto_25 rfl rfl ?_
    refine r_getf (v := .int (nI (((pAl (cg_let u) n (n + 1) 0).1)))) eX1_readInto_26 fX1_32 rfl rfl ?_
    refine r_isub eX1_readInto_29 ?_
    have hT9 : tRead (cg_let u) n (cg_dra u) = ((-1000) - nI (pAl (cg_let u) n (n + 1) 0).1, (cg_dra u)) := by
      unfold tRead
      have h8 := znone hc19
      cases hq8 : (pAl (cg_let u) n (n + 1) 0) with
      | mk a o =>
        rw [hq8] at h8
        dsimp only at h8
        rw [h8]
    rw [hT9]
    exact z_iret eX1_readInto_30 rfl rfl ⟨_, rfl, _, _, _, _, _, rfl, rfl, hd, fun z => absurd z (Int32.not_le.mpr (zneg1 _ (by omega)))⟩
set_option maxHeartbeats 1000000 in
set_option maxRecDepth 100000 in
theorem s3_town {t : zMod} {u : zCls} {T : zTown} (hc : cT (cg_now u) T) (hlc : cg_lc u ≤ 80) (hlet : ∀ i, cg_let u i ≤ 255) : Mi mX3_town 11 [.ref 11] (hA t u) (fun r h' => ∃ (A' F' : Nat) (N' : Nat → Nat) (C' : Nat) (D' : zTown), r = (tRead (cg_let u) (cg_lc u) (zbec (cg_now u) (cg_dra u))).1 ∧ (((tRead (cg_let u) (cg_lc u) (zbec (cg_now u) (cg_dra u))).1 < 0 ∧ h' = hA t (cg_let u, 0, 12, (cg_lc u), A', F', N', C', cg_now u, D', cg_kep u, cg_im u, cg_mp u, cg_mw u, cg_mu u, cg_mn u, cg_mi u, cg_mc u, cg_md u, cg_mo u, cg_ms u, cg_mq u, cg_se u, cg_sc u, cg_re u)) ∨ (0 ≤ (tRead (cg_let u) (cg_lc u) (zbec (cg_now u) (cg_dra u))).1 ∧ tRd (tRead (cg_let u) (cg_lc u) (zbec (cg_now u) (cg_dra u))).2 ∧ h' = hA t (cg_let u, 0, 12, (cg_lc u), A', F', N', C', (zbec (tRead (cg_let u) (cg_lc u) (zbec (cg_now u) (cg_dra u))).2 (cg_now u)), D', cg_kep u, cg_im u, cg_mp u, cg_mw u, cg_mu u, cg_mn u, cg_mi u, cg_mc u, cg_md u, cg_mo u, cg_ms u, cg_mq u, cg_se u, cg_sc u, cg_re u)))) := by
  obtain ⟨he, hT, hty, hk10⟩ := id hc
  have h7 := hT.1
  have hpw9 : 2 ^ tg_people T ≤ 2 ^ 7 := Nat.pow_le_pow_right (by omega) h7
  have ho := he.ok hT
  obtain ⟨he1, he2, he3, he4, he5, he6, he7⟩ := id he
  have hwt9 := hT.2.2.2.1
  have hpp9 := Nat.two_pow_pos (tg_people T)
  have hk9 : tg_keys (cg_now u) ≤ 10 := by omega
  have hrg9 : tg_ring (cg_now u) ≤ 1 := ho.2.2.2.2.1
  have hX : tEq T (zbec (cg_now u) (cg_dra u)) := he.trans (zbec_eq (by omega) hk9)
  have hdX : tRd (zbec (cg_now u) (cg_dra u)) := ⟨hX.ok hT, hk9, hX.keys hty⟩
  refine Mi.of (by decide) rfl (Nat.le_of_ble_eq_true rfl) ?_
  refine r_aload_n eX3_town_0 rfl rfl ?_
  refine r_getf (v := .ref 24) eX3_town_1 fX3_27 rfl rfl ?_
  refine r_aload_n eX3_town_4 rfl rfl ?_
  refine r_getf (v := .ref 16) eX3_town_5 fX3_23 rfl rfl ?_
  refine r_callVv1 eX3_town_8 lX3_54 (Or.inl ⟨_, _, _, rfl, rfl, rfl⟩) (s2_become_dra_now (t := t) (u := u) hrg9) (by omega) (Nat.le_of_ble_eq_true rfl) (fun h1 hq => ?_)
  obtain rfl := (show h1 = hA t (cg_let u, cg_lc u, cg_rt u, cg_rl u, cg_ra u, cg_rf u, cg_rn u, cg_rc u, cg_now u, (zbec (cg_now u) (cg_dra u)), cg_kep u, cg_im u, cg_mp u, cg_mw u, cg_mu u, cg_mn u, cg_mi u, cg_mc u, cg_md u, cg_mo u, cg_ms u, cg_mq u, cg_se u, cg_sc u, cg_re u) from hq)
  refine r_aload_n eX3_town_11 rfl rfl ?_
  refine r_getf (v := .ref 13) eX3_town_12 fX3_16 rfl rfl ?_
  refine r_aload_n eX3_town_15 rfl rfl ?_
  refine r_getf (v := .ref 24) eX3_town_16 fX3_27 rfl rfl ?_
  refine r_aload_n eX3_town_19 rfl rfl ?_
  refine r_getf (v := .ref 12) eX3_town_20 fX3_9 rfl rfl ?_
  refine r_aload_n eX3_town_23 rfl rfl ?_
  refine r_getf (v := .int (nI (cg_lc u))) eX3_town_24 fX3_50 rfl rfl ?_
  refine r_callVi3 eX3_town_27 lX3_58 (Or.inl ⟨_, _, _, rfl, rfl, rfl⟩) (s1_readInto (t := t) (u := (cg_let u, cg_lc u, cg_rt u, cg_rl u, cg_ra u, cg_rf u, cg_rn u, cg_rc u, cg_now u, (zbec (cg_now u) (cg_dra u)), cg_kep u, cg_im u, cg_mp u, cg_mw u, cg_mu u, cg_mn u, cg_mi u, cg_mc u, cg_md u, cg_mo u, cg_ms u, cg_mq u, cg_se u, cg_sc u, cg_re u)) (n := cg_lc u) hlc hlet hdX) (by omega) (Nat.le_of_ble_eq_true rfl) (fun r1 h1 hq => ?_)
  obtain ⟨A27, F27, N27, C27, D27, hh9, hr9, hD27, hT27⟩ := hq
  obtain rfl := (show h1 = hA t (cg_let u, cg_lc u, 12, (cg_lc u), A27, F27, N27, C27, cg_now u, D27, cg_kep u, cg_im u, cg_mp u, cg_mw u, cg_mu u, cg_mn u, cg_mi u, cg_mc u, cg_md u, cg_mo u, cg_ms u, cg_mq u, cg_se u, cg_sc u, cg_re u) from hh9)
  obtain rfl := (show r1 = ((tRead (cg_let u) (cg_lc u) (zbec (cg_now u) (cg_dra u))).1) from hr9)
  have hT27 : 0 ≤ (tRead (cg_let u) (cg_lc u) (zbec (cg_now u) (cg_dra u))).1 → D27 = (tRead (cg_let u) (cg_lc u) (zbec (cg_now u) (cg_dra u))).2 := hT27
  refine r_istore_n eX3_town_30 rfl (by decide) ?_
  refine r_aload_n eX3_town_31 rfl rfl ?_
  refine n_iconst 0 eX3_town_32 rfl ?_
  refine cp_lc (v := 0) eX3_town_33 fX3_50 rfl ?_
  refine r_iload_n eX3_town_36 rfl rfl ?_
  refine r_if_lt eX3_town_37 (fun hc37 => ?_) (fun hc37 => ?_)
  · refine r_iload_n eX3_town_51 rfl rfl ?_
    exact z_iret eX3_town_52 rfl rfl ⟨_, rfl, A27, F27, N27, C27, D27, rfl, Or.inl ⟨hc37, rfl⟩⟩
  · refine r_aload_n eX3_town_40 rfl rfl ?_
    refine r_getf (v := .ref 16) eX3_town_41 fX3_23 rfl rfl ?_
    refine r_aload_n eX3_town_44 rfl rfl ?_
    refine r_getf (v := .ref 24) eX3_town_45 fX3_27 rfl rfl ?_
    refine r_callVv1 eX3_town_48 lX3_54 (Or.inl ⟨_, _, _, rfl, rfl, rfl⟩) (s2_become_now_dra (t := t) (u := (cg_let u, 0, 12, (cg_lc u), A27, F27, N27, C27, cg_now u, D27, cg_kep u, cg_im u, cg_mp u, cg_mw u, cg_mu u, cg_mn u, cg_mi u, cg_mc u, cg_md u, cg_mo u, cg_ms u, cg_mq u, cg_se u, cg_sc u, cg_re u)) hD27.1.2.2.2.2.1) (by omega) (Nat.le_of_ble_eq_true rfl) (fun h1 hq => ?_)
    obtain rfl := (show h1 = hA t (cg_let u, 0, 12, (cg_lc u), A27, F27, N27, C27, (zbec D27 (cg_now u)), D27, cg_kep u, cg_im u, cg_mp u, cg_mw u, cg_mu u, cg_mn u, cg_mi u, cg_mc u, cg_md u, cg_mo u, cg_ms u, cg_mq u, cg_se u, cg_sc u, cg_re u) from hq)
    refine r_iload_n eX3_town_51 rfl rfl ?_
    have hc37 := Int32.not_lt.mp hc37
    have hT28 := hT27 hc37
    subst hT28
    exact z_iret eX3_town_52 rfl rfl ⟨_, rfl, A27, F27, N27, C27, _, rfl, Or.inr ⟨hc37, hD27, rfl⟩⟩
