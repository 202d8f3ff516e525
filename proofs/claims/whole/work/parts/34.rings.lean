/-! THE CLASS: rings, keys changed about, gone; seeds; lots -/
theorem zfind_lt2 {f : Nat → Bool} {k : Nat} : ∀ {n : Nat}, zfind f n = some k → k < n ∧ f k = true
  | 0, h => by cases h
  | n + 1, h => by
    rw [zfind] at h
    cases hz : zfind f n with
    | some j =>
      rw [hz] at h
      cases h
      have := zfind_lt2 hz
      exact ⟨by omega, this.2⟩
    | none =>
      rw [hz] at h
      dsimp only at h
      split at h
      · rename_i hf; cases h; exact ⟨by omega, hf⟩
      · cases h
theorem zpi_cong {D D' H H' : Nat → Nat} {m : Nat} (h : ∀ k, k < m → D k = D' k ∧ H k = H' k) : zpi D H m = zpi D' H' m := by
  funext p
  have e : zfind (fun k => decide (H k = p)) m = zfind (fun k => decide (H' k = p)) m := zfind_cong fun k hk => by rw [(h k hk).2]
  unfold zpi
  rw [← e]
  cases hz : zfind (fun k => decide (H k = p)) m with
  | none => rfl
  | some k => exact (h k (zfind_lt2 hz).1).1
theorem zmask_cong {F G : Nat → Nat} : ∀ {m : Nat}, (∀ k, k < m → F k = G k) → zmask F m = zmask G m
  | 0, _ => rfl
  | m + 1, h => by rw [zmask, zmask, zmask_cong (fun k hk => h k (by omega)), h m (by omega)]
theorem tRings_eq {T X : zTown} (he : tEq T X) : tRings T = tRings X := by
  obtain ⟨a, b, c, d, e, f, g⟩ := he
  unfold tRings zrings
  rw [← a, ← b, zmask_cong (fun k hk => (g k hk).1), zmask_cong (F := tg_held T) (fun k hk => (g k hk).2), zpi_cong g]
def tSw (T : zTown) (a b : Nat) : zTown := (tg_kind T, tg_wakes T, tg_takes T, tg_due T, tg_cost T, tg_people T, tg_door T, va_up (va_up (tg_held T) a (tg_held T b)) b (tg_held T a), tg_keys T, tg_watch T, tg_pace T, tg_ring T)
def tFull (T : zTown) : Prop := tg_keys T = tg_people T ∧ zmask (tg_door T) (tg_keys T) = 2 ^ tg_people T - 1 ∧ zmask (tg_held T) (tg_keys T) = 2 ^ tg_people T - 1
theorem tzpi_7 {T : zTown} (hT : tOk T) (hk : tKeys T) : ∀ p, p < 7 → zpi (tg_door T) (tg_held T) (tg_keys T) p < 7 := fun p hp => by
  have h7 := hT.1
  unfold zpi
  cases hz : zfind (fun k => decide (tg_held T k = p)) (tg_keys T) with
  | none => exact hp
  | some k =>
    have := (hk k (zfind_lt2 hz).1).1
    show tg_door T k < 7
    omega
theorem tRings_y {T : zTown} (hT : tOk T) (hk : tKeys T) (h : tFull T) : 0 ≤ tRings T := by
  unfold tFull at h
  unfold tRings zrings
  rw [if_pos h]
  have := (zrgs_lt (n := tg_people T) (tzpi_7 hT hk) hT.1).2
  have h7 := hT.1
  exact nI_pos' (by omega)
theorem tRings_n {T : zTown} (h : ¬ tFull T) : tRings T = -9 := if_neg h
theorem tSw_eq {T X : zTown} {a b : Nat} (he : tEq T X) (ha : a < tg_keys T) (hb : b < tg_keys T) : tEq (tSw T a b) (tSw X a b) := by
  obtain ⟨h1, h2, h3, h4, h5, h6, h7⟩ := he
  refine ⟨h1, h2, h3, h4, h5, h6, fun k hk => ⟨(h7 k hk).1, ?_⟩⟩
  show va_up (va_up (tg_held T) a (tg_held T b)) b (tg_held T a) k = va_up (va_up (tg_held X) a (tg_held X b)) b (tg_held X a) k
  by_cases e : k = b
  · rw [e, zu_s, zu_s]; exact (h7 a ha).2
  · rw [zu_n e, zu_n e]
    by_cases e2 : k = a
    · rw [e2, zu_s, zu_s]; exact (h7 b hb).2
    · rw [zu_n e2, zu_n e2]; exact (h7 k hk).2
theorem tSw_held {T : zTown} {a b : Nat} (ha : a < tg_keys T) (hb : b < tg_keys T) {P : Nat → Prop} (h : ∀ k, k < tg_keys T → P (tg_held T k)) : ∀ k, k < tg_keys T → P (tg_held (tSw T a b) k) := fun k hk => by
  show P (va_up (va_up (tg_held T) a (tg_held T b)) b (tg_held T a) k)
  by_cases e : k = b
  · rw [e, zu_s]; exact h a ha
  · rw [zu_n e]
    by_cases e2 : k = a
    · rw [e2, zu_s]; exact h b hb
    · rw [zu_n e2]; exact h k hk
theorem tSw_ok {T : zTown} {a b : Nat} (h : tOk T) : tOk (tSw T a b) := h
theorem tSw_keys {T : zTown} {a b : Nat} (h : tKeys T) (ha : a < tg_keys T) (hb : b < tg_keys T) : tKeys (tSw T a b) := fun k hk => ⟨(h k hk).1, tSw_held (P := fun x => x < tg_people T) ha hb (fun j hj => (h j hj).2) k hk⟩
theorem tSw_full {T : zTown} {a b : Nat} (ha : a < tg_keys T) (hb : b < tg_keys T) (hab : ¬ a = b) (h : tFull T) : tFull (tSw T a b) := by
  obtain ⟨h1, h2, h3⟩ := h
  refine ⟨h1, h2, ?_⟩
  rw [← show zmask (tg_held T) (tg_keys T) = 2 ^ tg_people (tSw T a b) - 1 from h3]
  show zmask (va_up (va_up (tg_held T) a (tg_held T b)) b (tg_held T a)) (tg_keys T) = _
  have hA : va_up (va_up (tg_held T) a (tg_held T b)) b (tg_held T a) a = tg_held T b := by rw [zu_n hab, zu_s]
  have hB : va_up (va_up (tg_held T) a (tg_held T b)) b (tg_held T a) b = tg_held T a := zu_s
  have hO : ∀ k, ¬ k = a → ¬ k = b → va_up (va_up (tg_held T) a (tg_held T b)) b (tg_held T a) k = tg_held T k := fun k e1 e2 => by rw [zu_n e2, zu_n e1]
  apply Nat.eq_of_testBit_eq
  intro i
  rw [Bool.eq_iff_iff, zmask_bit, zmask_bit]
  constructor
  · rintro ⟨k, hk, e⟩
    by_cases e1 : k = a
    · subst e1; exact ⟨b, hb, by rw [← hA]; exact e⟩
    · by_cases e2 : k = b
      · subst e2; exact ⟨a, ha, by rw [← hB]; exact e⟩
      · exact ⟨k, hk, by rw [← hO k e1 e2]; exact e⟩
  · rintro ⟨k, hk, e⟩
    by_cases e1 : k = a
    · subst e1; exact ⟨b, hb, by rw [hB]; exact e⟩
    · by_cases e2 : k = b
      · subst e2; exact ⟨a, ha, by rw [hA]; exact e⟩
      · exact ⟨k, hk, by rw [hO k e1 e2]; exact e⟩
def tSf (T : zTown) (a b : Nat) : Bool := decide (0 ≤ tRings (tSw T a b) ∧ tRings (tSw T a b) < tRings T)
theorem zsa_none {f : Nat → Nat → Bool} {m a : Nat} (h : zsa f m a = none) (hb : ∀ b, b < m → (decide (a < b) && f a b) = false) : zsa f m (a + 1) = none := by
  rw [zsa, h]
  show (zfind (fun b => decide (a < b) && f a b) m).map (fun b => 10 * a + b) = none
  rw [zfind_none hb]
  rfl
theorem zsa_found {f : Nat → Nat → Bool} {m a b : Nat} (h : zsa f m a = none) (hb : ∀ b', b' < b → (decide (a < b') && f a b') = false) (hab : a < b) (hf : f a b = true) (hm : b < m) (ha : a < m) : zsa f m m = some (10 * a + b) := by
  refine zsa_some (a := a + 1) ?_ (by omega)
  rw [zsa, h]
  show (zfind (fun b => decide (a < b) && f a b) m).map (fun b => 10 * a + b) = some (10 * a + b)
  rw [zfind_some (o := b) hb (by simp [hab, hf]) hm]
  rfl
theorem zsa_off {T : zTown} (h : ¬ tFull T) : ∀ a, zsa (tSf T) (tg_keys T) a = none
  | 0 => rfl
  | a + 1 => zsa_none (zsa_off h a) fun b _ => by
    have e : tSf T a b = false := decide_eq_false fun z => by
      rw [tRings_n h] at z
      have h1 := z.1
      have h2 := z.2
      rw [Int32.le_iff_toInt_le] at h1
      rw [Int32.lt_iff_toInt_lt] at h2
      have e1 : (0 : Int32).toInt = 0 := by decide
      have e2 : (-9 : Int32).toInt = -9 := by decide
      omega
    rw [e, Bool.and_false]
set_option maxHeartbeats 1000000 in
set_option maxRecDepth 100000 in
theorem s3_rings {t : zMod} {u : zCls} {T : zTown} (hc : cT (cg_now u) T) : Mi mX3_rings 7 [.ref 11] (hA t u) (fun r h' => r = tRings T ∧ h' = hA t u) := by
  obtain ⟨he, hT, hty, hk10⟩ := id hc
  have h7 := hT.1
  have hpw9 : 2 ^ tg_people T ≤ 2 ^ 7 := Nat.pow_le_pow_right (by omega) h7
  have ho := he.ok hT
  obtain ⟨he1, he2, he3, he4, he5, he6, he7⟩ := id he
  have hwt9 := hT.2.2.2.1
  have hpp9 := Nat.two_pow_pos (tg_people T)
  have hk9 : tg_keys (cg_now u) ≤ 10 := by omega
  have hty9 := he.keys hty
  refine Mi.of (by decide) rfl (Nat.le_of_ble_eq_true rfl) ?_
  refine r_aload_n eX3_rings_0 rfl rfl ?_
  refine r_getf (v := .ref 16) eX3_rings_1 fX3_23 rfl rfl ?_
  refine r_callVi0 eX3_rings_4 lX3_178 (Or.inl ⟨_, _, _, rfl, rfl, rfl⟩) (s2_ringCount_now (t := t) (u := u) ho hk9 hty9) (by omega) (Nat.le_of_ble_eq_true rfl) (fun r1 h1 hq => ?_)
  obtain ⟨rfl, rfl⟩ := (show r1 = (tRings T) ∧ h1 = hA t u from by rw [tRings_eq he]; exact hq)
  exact z_iret eX3_rings_7 rfl rfl ⟨_, rfl, rfl, rfl⟩
set_option maxHeartbeats 1000000 in
set_option maxRecDepth 100000 in
theorem s3_swap_i {t : zMod} {u : zCls} {T : zTown} (hc : cT (cg_now u) T) (hful : tFull T) {a : Nat} (ha : a < tg_keys T) (hza : zsa (tSf T) (tg_keys T) a = none) (kk9 : ∀ (D9 : zTown) (v9 : Value), zsa (tSf T) (tg_keys T) (a + 1) = none → Rq mX3_swap 8 none 89 [.ref 11, .int (tRings T), .int (nI a), v9] [] (hA t (cg_let u, cg_lc u, cg_rt u, cg_rl u, cg_ra u, cg_rf u, cg_rn u, cg_rc u, cg_now u, D9, cg_kep u, cg_im u, cg_mp u, cg_mw u, cg_mu u, cg_mn u, cg_mi u, cg_mc u, cg_md u, cg_mo u, cg_ms u, cg_mq u, cg_se u, cg_sc u, cg_re u)) (fun r h' => ∃ x, r = some x ∧ ∃ D' : zTown, x = zor (zsa (tSf T) (tg_keys T) (tg_keys T)) ∧ h' = hA t (cg_let u, cg_lc u, cg_rt u, cg_rl u, cg_ra u, cg_rf u, cg_rn u, cg_rc u, cg_now u, D', cg_kep u, cg_im u, cg_mp u, cg_mw u, cg_mu u, cg_mn u, cg_mi u, cg_mc u, cg_md u, cg_mo u, cg_ms u, cg_mq u, cg_se u, cg_sc u, cg_re u))) : ∀ (k : Nat) (b : Nat) (DX : zTown) (hd : b + k = tg_keys T) (hab0 : a < b) (hbn : ∀ b9, b9 < b → (decide (a < b9) && tSf T a b9) = false), Rq mX3_swap 8 none 34 [.ref 11, .int ((tRings T)), .int (nI (a)), .int (nI (b))] [] (hA t (cg_let u, cg_lc u, cg_rt u, cg_rl u, cg_ra u, cg_rf u, cg_rn u, cg_rc u, cg_now u, DX, cg_kep u, cg_im u, cg_mp u, cg_mw u, cg_mu u, cg_mn u, cg_mi u, cg_mc u, cg_md u, cg_mo u, cg_ms u, cg_mq u, cg_se u, cg_sc u, cg_re u)) (fun r h' => ∃ x, r = some x ∧ ∃ D' : zTown, x = zor (zsa (tSf T) (tg_keys T) (tg_keys T)) ∧ h' = hA t (cg_let u, cg_lc u, cg_rt u, cg_rl u, cg_ra u, cg_rf u, cg_rn u, cg_rc u, cg_now u, D', cg_kep u, cg_im u, cg_mp u, cg_mw u, cg_mu u, cg_mn u, cg_mi u, cg_mc u, cg_md u, cg_mo u, cg_ms u, cg_mq u, cg_se u, cg_sc u, cg_re u)) := by
  intro k
  induction k with
  | zero =>
    intro b DX hd hab0 hbn
    obtain ⟨he, hT, hty, hk10⟩ := id hc
    have h7 := hT.1
    have hpw9 : 2 ^ tg_people T ≤ 2 ^ 7 := Nat.pow_le_pow_right (by omega) h7
    have ho := he.ok hT
    obtain ⟨he1, he2, he3, he4, he5, he6, he7⟩ := id he
    have hwt9 := hT.2.2.2.1
    have hpp9 := Nat.two_pow_pos (tg_people T)
    have hk9 : tg_keys (cg_now u) ≤ 10 := by omega
    have hty9 := he.keys hty
    have hrg9 : tg_ring (cg_now u) ≤ 1 := ho.2.2.2.2.1
    have hX : tEq T (zbec (cg_now u) DX) := he.trans (zbec_eq (by omega) hk9)
    have hoX := hX.ok hT
    have hkX := hX.keys hty
    have e9 : b = tg_keys T := by omega
    refine r_iload_n eX3_swap_34 rfl rfl ?_
    refine r_aload_n eX3_swap_35 rfl rfl ?_
    refine r_getf (v := .ref 16) eX3_swap_36 fX3_23 rfl rfl ?_
    refine r_getf (v := .int (nI (tg_keys (cg_now u)))) eX3_swap_39 fX3_103 rfl rfl ?_
    refine n_icmp_ge eX3_swap_42 (by omega) (by omega) (fun hc42 => ?_) (fun hc42 => absurd hc42 (by omega))
    exact kk9 DX _ (zsa_none hza (fun b9 hb9 => hbn b9 (by omega)))
  | succ k ih =>
    intro b DX hd hab0 hbn
    obtain ⟨he, hT, hty, hk10⟩ := id hc
    have h7 := hT.1
    have hpw9 : 2 ^ tg_people T ≤ 2 ^ 7 := Nat.pow_le_pow_right (by omega) h7
    have ho := he.ok hT
    obtain ⟨he1, he2, he3, he4, he5, he6, he7⟩ := id he
    have hwt9 := hT.2.2.2.1
    have hpp9 := Nat.two_pow_pos (tg_people T)
    have hk9 : tg_keys (cg_now u) ≤ 10 := by omega
    have hty9 := he.keys hty
    have hrg9 : tg_ring (cg_now u) ≤ 1 := ho.2.2.2.2.1
    have hX : tEq T (zbec (cg_now u) DX) := he.trans (zbec_eq (by omega) hk9)
    have hoX := hX.ok hT
    have hkX := hX.keys hty
    refine r_iload_n eX3_swap_34 rfl rfl ?_
    refine r_aload_n eX3_swap_35 rfl rfl ?_
    refine r_getf (v := .ref 16) eX3_swap_36 fX3_23 rfl rfl ?_
    refine r_getf (v := .int (nI (tg_keys (cg_now u)))) eX3_swap_39 fX3_103 rfl rfl ?_
    refine n_icmp_ge eX3_swap_42 (by omega) (by omega) (fun hc42 => absurd hc42 (by omega)) (fun hc42 => ?_)
    refine r_aload_n eX3_swap_45 rfl rfl ?_
    refine r_getf (v := .ref 24) eX3_swap_46 fX3_27 rfl rfl ?_
    refine r_aload_n eX3_swap_49 rfl rfl ?_
    refine r_getf (v := .ref 16) eX3_swap_50 fX3_23 rfl rfl ?_
    refine r_callVv1 eX3_swap_53 lX3_54 (Or.inl ⟨_, _, _, rfl, rfl, rfl⟩) (s2_become_dra_now (t := t) (u := (cg_let u, cg_lc u, cg_rt u, cg_rl u, cg_ra u, cg_rf u, cg_rn u, cg_rc u, cg_now u, DX, cg_kep u, cg_im u, cg_mp u, cg_mw u, cg_mu u, cg_mn u, cg_mi u, cg_mc u, cg_md u, cg_mo u, cg_ms u, cg_mq u, cg_se u, cg_sc u, cg_re u)) hrg9) (by omega) (Nat.le_of_ble_eq_true rfl) (fun h1 hq => ?_)
    obtain rfl := (show h1 = hA t (cg_let u, cg_lc u, cg_rt u, cg_rl u, cg_ra u, cg_rf u, cg_rn u, cg_rc u, cg_now u, (zbec (cg_now u) DX), cg_kep u, cg_im u, cg_mp u, cg_mw u, cg_mu u, cg_mn u, cg_mi u, cg_mc u, cg_md u, cg_mo u, cg_ms u, cg_mq u, cg_se u, cg_sc u, cg_re u) from hq)
    refine r_aload_n eX3_swap_56 rfl rfl ?_
    refine r_getf (v := .ref 24) eX3_swap_57 fX3_27 rfl rfl ?_
    refine r_iload_n eX3_swap_60 rfl rfl ?_
    refine r_iload_n eX3_swap_61 rfl rfl ?_
    refine r_callVv2 eX3_swap_62 lX3_181 (Or.inl ⟨_, _, _, rfl, rfl, rfl⟩) (s2_exchange (t := t) (u := (cg_let u, cg_lc u, cg_rt u, cg_rl u, cg_ra u, cg_rf u, cg_rn u, cg_rc u, cg_now u, (zbec (cg_now u) DX), cg_kep u, cg_im u, cg_mp u, cg_mw u, cg_mu u, cg_mn u, cg_mi u, cg_mc u, cg_md u, cg_mo u, cg_ms u, cg_mq u, cg_se u, cg_sc u, cg_re u)) hoX (show tg_keys (cg_now u) ≤ 10 by omega) (show a < tg_keys (cg_now u) by omega) (show b < tg_keys (cg_now u) by omega)) (by omega) (Nat.le_of_ble_eq_true rfl) (fun h1 hq => ?_)
    obtain rfl := (show h1 = hA t (cg_let u, cg_lc u, cg_rt u, cg_rl u, cg_ra u, cg_rf u, cg_rn u, cg_rc u, cg_now u, (tSw (zbec (cg_now u) DX) a b), cg_kep u, cg_im u, cg_mp u, cg_mw u, cg_mu u, cg_mn u, cg_mi u, cg_mc u, cg_md u, cg_mo u, cg_ms u, cg_mq u, cg_se u, cg_sc u, cg_re u) from hq)
    refine r_aload_n eX3_swap_65 rfl rfl ?_
    refine r_getf (v := .ref 24) eX3_swap_66 fX3_27 rfl rfl ?_
    refine r_callVi0 eX3_swap_69 lX3_178 (Or.inl ⟨_, _, _, rfl, rfl, rfl⟩) (s2_ringCount_dra (t := t) (u := (cg_let u, cg_lc u, cg_rt u, cg_rl u, cg_ra u, cg_rf u, cg_rn u, cg_rc u, cg_now u, (tSw (zbec (cg_now u) DX) a b), cg_kep u, cg_im u, cg_mp u, cg_mw u, cg_mu u, cg_mn u, cg_mi u, cg_mc u, cg_md u, cg_mo u, cg_ms u, cg_mq u, cg_se u, cg_sc u, cg_re u)) (tSw_ok (a := a) (b := b) hoX) (show tg_keys (cg_now u) ≤ 10 by omega) (tSw_keys hkX (show a < tg_keys (cg_now u) by omega) (show b < tg_keys (cg_now u) by omega))) (by omega) (Nat.le_of_ble_eq_true rfl) (fun r1 h1 hq => ?_)
    obtain ⟨rfl, rfl⟩ := (show r1 = (tRings (tSw T a b)) ∧ h1 = hA t (cg_let u, cg_lc u, cg_rt u, cg_rl u, cg_ra u, cg_rf u, cg_rn u, cg_rc u, cg_now u, (tSw (zbec (cg_now u) DX) a b), cg_kep u, cg_im u, cg_mp u, cg_mw u, cg_mu u, cg_mn u, cg_mi u, cg_mc u, cg_md u, cg_mo u, cg_ms u, cg_mq u, cg_se u, cg_sc u, cg_re u) from by rw [tRings_eq (tSw_eq hX (by omega) (by omega))]; exact hq)
    refine r_iload_n eX3_swap_72 rfl rfl ?_
    refine r_icmp_ge eX3_swap_73 (fun hc73 => ?_) (fun hc73 => ?_)
    · refine n_iinc (k := 1) eX3_swap_83 rfl (by decide) rfl ?_
      refine r_goto eX3_swap_86 ?_
      refine ih (b + 1) _ (by omega) (by omega) (fun b9 hb9 => ?_)
      by_cases e : b9 = b
      · have e8 : tSf T a b = false := decide_eq_false (fun z => Int32.not_lt.mpr hc73 z.2)
        rw [e, e8, Bool.and_false]
      · exact hbn b9 (by omega)
    · refine n_bipush 10 eX3_swap_76 rfl ?_
      refine r_iload_n eX3_swap_78 rfl rfl ?_
      refine n_mul eX3_swap_79 ?_
      refine r_iload_n eX3_swap_80 rfl rfl ?_
      refine n_add eX3_swap_81 ?_
      have hab : a < b := by omega
      have hp9 : 0 ≤ tRings (tSw T a b) := tRings_y (tSw_ok hT) (tSw_keys hty (by omega) (by omega)) (tSw_full (by omega) (by omega) (by omega) hful)
      have hx := zsa_found (f := tSf T) hza hbn hab (decide_eq_true ⟨hp9, Int32.not_le.mp hc73⟩) (by omega) ha
      rw [hx]
      exact z_iret eX3_swap_82 rfl rfl ⟨_, rfl, _, rfl, rfl⟩
set_option maxHeartbeats 1000000 in
set_option maxRecDepth 100000 in
theorem s3_swap_o {t : zMod} {u : zCls} {T : zTown} (hc : cT (cg_now u) T) (hful : tFull T) : ∀ (k : Nat) (a : Nat) (DX : zTown) (v3 : Value) (hd : a + k = tg_keys T) (hza : zsa (tSf T) (tg_keys T) a = none), Rq mX3_swap 8 none 19 [.ref 11, .int ((tRings T)), .int (nI (a)), v3] [] (hA t (cg_let u, cg_lc u, cg_rt u, cg_rl u, cg_ra u, cg_rf u, cg_rn u, cg_rc u, cg_now u, DX, cg_kep u, cg_im u, cg_mp u, cg_mw u, cg_mu u, cg_mn u, cg_mi u, cg_mc u, cg_md u, cg_mo u, cg_ms u, cg_mq u, cg_se u, cg_sc u, cg_re u)) (fun r h' => ∃ x, r = some x ∧ ∃ D' : zTown, x = zor (zsa (tSf T) (tg_keys T) (tg_keys T)) ∧ h' = hA t (cg_let u, cg_lc u, cg_rt u, cg_rl u, cg_ra u, cg_rf u, cg_rn u, cg_rc u, cg_now u, D', cg_kep u, cg_im u, cg_mp u, cg_mw u, cg_mu u, cg_mn u, cg_mi u, cg_mc u, cg_md u, cg_mo u, cg_ms u, cg_mq u, cg_se u, cg_sc u, cg_re u)) := by
  intro k
  induction k with
  | zero =>
    intro a DX v3 hd hza
    obtain ⟨he, hT, hty, hk10⟩ := id hc
    have h7 := hT.1
    have hpw9 : 2 ^ tg_people T ≤ 2 ^ 7 := Nat.pow_le_pow_right (by omega) h7
    have ho := he.ok hT
    obtain ⟨he1, he2, he3, he4, he5, he6, he7⟩ := id he
    have hwt9 := hT.2.2.2.1
    have hpp9 := Nat.two_pow_pos (tg_people T)
    have hk9 : tg_keys (cg_now u) ≤ 10 := by omega
    have hty9 := he.keys hty
    have hrg9 : tg_ring (cg_now u) ≤ 1 := ho.2.2.2.2.1
    have hX : tEq T (zbec (cg_now u) DX) := he.trans (zbec_eq (by omega) hk9)
    have hoX := hX.ok hT
    have hkX := hX.keys hty
    have e9 : a = tg_keys T := by omega
    subst e9
    refine r_iload_n eX3_swap_19 rfl rfl ?_
    refine r_aload_n eX3_swap_20 rfl rfl ?_
    refine r_getf (v := .ref 16) eX3_swap_21 fX3_23 rfl rfl ?_
    refine r_getf (v := .int (nI (tg_keys (cg_now u)))) eX3_swap_24 fX3_103 rfl rfl ?_
    refine n_icmp_ge eX3_swap_27 (by omega) (by omega) (fun hc27 => ?_) (fun hc27 => absurd hc27 (by omega))
    refine r_bipush (v := (-9)) eX3_swap_95 rfl ?_
    rw [hza]
    exact z_iret eX3_swap_97 rfl rfl ⟨_, rfl, _, rfl, rfl⟩
  | succ k ih =>
    intro a DX v3 hd hza
    obtain ⟨he, hT, hty, hk10⟩ := id hc
    have h7 := hT.1
    have hpw9 : 2 ^ tg_people T ≤ 2 ^ 7 := Nat.pow_le_pow_right (by omega) h7
    have ho := he.ok hT
    obtain ⟨he1, he2, he3, he4, he5, he6, he7⟩ := id he
    have hwt9 := hT.2.2.2.1
    have hpp9 := Nat.two_pow_pos (tg_people T)
    have hk9 : tg_keys (cg_now u) ≤ 10 := by omega
    have hty9 := he.keys hty
    have hrg9 : tg_ring (cg_now u) ≤ 1 := ho.2.2.2.2.1
    have hX : tEq T (zbec (cg_now u) DX) := he.trans (zbec_eq (by omega) hk9)
    have hoX := hX.ok hT
    have hkX := hX.keys hty
    refine r_iload_n eX3_swap_19 rfl rfl ?_
    refine r_aload_n eX3_swap_20 rfl rfl ?_
    refine r_getf (v := .ref 16) eX3_swap_21 fX3_23 rfl rfl ?_
    refine r_getf (v := .int (nI (tg_keys (cg_now u)))) eX3_swap_24 fX3_103 rfl rfl ?_
    refine n_icmp_ge eX3_swap_27 (by omega) (by omega) (fun hc27 => absurd hc27 (by omega)) (fun hc27 => ?_)
    refine r_iload_n eX3_swap_30 rfl rfl ?_
    refine n_iconst 1 eX3_swap_31 rfl ?_
    refine n_add eX3_swap_32 ?_
    refine r_istore_n eX3_swap_33 rfl (by decide) ?_
    refine s3_swap_i hc hful (a := a) (by omega) hza (fun D9 v9 hz9 => ?_) (tg_keys T - (a + 1)) (a + 1) DX (by omega) (by omega) (fun b9 hb9 => ?_)
    · refine n_iinc (k := 1) eX3_swap_89 rfl (by decide) rfl ?_
      refine r_goto eX3_swap_92 ?_
      exact ih (a + 1) D9 v9 (by omega) hz9
    · rw [decide_eq_false (by omega)]; rfl
set_option maxHeartbeats 1000000 in
set_option maxRecDepth 100000 in
theorem s3_swap {t : zMod} {u : zCls} {T : zTown} (hc : cT (cg_now u) T) : Mi mX3_swap 8 [.ref 11] (hA t u) (fun r h' => ∃ D' : zTown, r = zor (zsa (tSf T) (tg_keys T) (tg_keys T)) ∧ h' = hA t (cg_let u, cg_lc u, cg_rt u, cg_rl u, cg_ra u, cg_rf u, cg_rn u, cg_rc u, cg_now u, D', cg_kep u, cg_im u, cg_mp u, cg_mw u, cg_mu u, cg_mn u, cg_mi u, cg_mc u, cg_md u, cg_mo u, cg_ms u, cg_mq u, cg_se u, cg_sc u, cg_re u)) := by
  obtain ⟨he, hT, hty, hk10⟩ := id hc
  have h7 := hT.1
  have hpw9 : 2 ^ tg_people T ≤ 2 ^ 7 := Nat.pow_le_pow_right (by omega) h7
  have ho := he.ok hT
  obtain ⟨he1, he2, he3, he4, he5, he6, he7⟩ := id he
  have hwt9 := hT.2.2.2.1
  have hpp9 := Nat.two_pow_pos (tg_people T)
  have hk9 : tg_keys (cg_now u) ≤ 10 := by omega
  have hty9 := he.keys hty
  refine Mi.of (by decide) rfl (Nat.le_of_ble_eq_true rfl) ?_
  refine r_aload_n eX3_swap_0 rfl rfl ?_
  refine r_getf (v := .ref 16) eX3_swap_1 fX3_23 rfl rfl ?_
  refine r_callVi0 eX3_swap_4 lX3_178 (Or.inl ⟨_, _, _, rfl, rfl, rfl⟩) (s2_ringCount_now (t := t) (u := u) ho hk9 hty9) (by omega) (Nat.le_of_ble_eq_true rfl) (fun r1 h1 hq => ?_)
  obtain ⟨rfl, rfl⟩ := (show r1 = (tRings T) ∧ h1 = hA t u from by rw [tRings_eq he]; exact hq)
  refine r_istore_n eX3_swap_7 rfl (by decide) ?_
  refine r_iload_n eX3_swap_8 rfl rfl ?_
  refine r_bipush (v := (-9)) eX3_swap_9 rfl ?_
  refine r_icmp_ne eX3_swap_11 (fun hc11 => ?_) (fun hc11 => ?_)
  · have hful : tFull T := Classical.byContradiction fun z => hc11 (tRings_n z)
    refine n_iconst 0 eX3_swap_17 rfl ?_
    refine r_istore_n eX3_swap_18 rfl (by decide) ?_
    refine Rq.mono (s3_swap_o hc hful (tg_keys T) 0 (cg_dra u) _ (Nat.zero_add _) rfl) (fun r h9 hq => ?_)
    obtain ⟨x, rfl, D9, q1, q2⟩ := hq
    exact ⟨x, rfl, D9, q1, q2⟩
  · refine r_bipush (v := (-9)) eX3_swap_14 rfl ?_
    have hn : ¬ tFull T := fun z => by
      have h1 := tRings_y hT hty z
      rw [hc11] at h1
      exact absurd h1 (by decide)
    rw [zsa_off hn]
    exact z_iret eX3_swap_16 rfl rfl ⟨_, rfl, _, rfl, rfl⟩
theorem tDrop_eq {T X : zTown} {k0 : Nat} (he : tEq T X) : tEq (tDrop T k0) (tDrop X k0) := by
  obtain ⟨h1, h2, h3, h4, h5, h6, h7⟩ := he
  refine ⟨h1, ?_, h3, h4, h5, h6, fun k hk => ?_⟩
  · show tg_keys T - 1 = tg_keys X - 1
    rw [h2]
  · have hk2 : k < tg_keys T - 1 := hk
    show zdp (tg_door T) k0 (tg_keys T) k = zdp (tg_door X) k0 (tg_keys X) k ∧ zdp (tg_held T) k0 (tg_keys T) k = zdp (tg_held X) k0 (tg_keys X) k
    unfold zdp
    rw [← h2]
    split
    · exact h7 (k + 1) (by omega)
    · exact h7 k (by omega)
theorem tDrop_ok {T : zTown} {k0 : Nat} (h : tOk T) : tOk (tDrop T k0) := ⟨h.1, Nat.le_trans (Nat.sub_le _ _) h.2.1, h.2.2.1, h.2.2.2.1, h.2.2.2.2.1, h.2.2.2.2.2⟩
theorem tDrop_keys {T : zTown} {k0 : Nat} (h : tKeys T) : tKeys (tDrop T k0) := fun k hk => by
  have hk2 : k < tg_keys T - 1 := hk
  show zdp (tg_door T) k0 (tg_keys T) k < tg_people T ∧ zdp (tg_held T) k0 (tg_keys T) k < tg_people T
  unfold zdp
  split
  · exact h (k + 1) (by omega)
  · exact h k (by omega)
set_option maxHeartbeats 1000000 in
set_option maxRecDepth 100000 in
theorem s3_gone_n {t : zMod} {u : zCls} {v : Int32} (hv : v < 0 ∨ nI (tg_keys (cg_now u)) ≤ v) : Mi mX3_gone 7 [.ref 11, .int (v)] (hA t u) (fun r h' => r = (-1) ∧ h' = hA t (cg_let u, cg_lc u, cg_rt u, cg_rl u, cg_ra u, cg_rf u, cg_rn u, cg_rc u, cg_now u, cg_dra u, cg_kep u, cg_im u, cg_mp u, cg_mw u, cg_mu u, cg_mn u, cg_mi u, cg_mc u, cg_md u, cg_mo u, cg_ms u, cg_mq u, cg_se u, cg_sc u, (va_up (cg_re u) 1 (cg_re u 1 + 1)))) := by
  refine Mi.of (by decide) rfl (Nat.le_of_ble_eq_true rfl) ?_
  refine r_aload_n eX3_gone_0 rfl rfl ?_
  refine r_getf (v := .ref 16) eX3_gone_1 fX3_23 rfl rfl ?_
  refine r_iload_n eX3_gone_4 rfl rfl ?_
  refine r_callVi1 eX3_gone_5 lX3_90 (Or.inl ⟨_, _, _, rfl, rfl, rfl⟩) (s2_hasKey_n_now (t := t) (u := u) hv) (by omega) (Nat.le_of_ble_eq_true rfl) (fun r1 h1 hq => ?_)
  obtain ⟨rfl, rfl⟩ := (show r1 = nI (0) ∧ h1 = hA t u from hq)
  refine n_if_ne eX3_gone_8 (by first | omega | exact zlt (hs _) | exact hou _ | exact hop _) (fun hc8 => absurd hc8 (by decide)) (fun hc8 => ?_)
  refine r_aload_n eX3_gone_11 rfl rfl ?_
  refine r_iconst (v := (-1)) eX3_gone_12 rfl ?_
  refine r_callVi1 eX3_gone_13 lX3_46 (Or.inl ⟨_, _, _, rfl, rfl, rfl⟩) (s3_refuse (t := t) (u := u) (x := (-1)) (c := 1) (by decide) (by decide)) (by omega) (Nat.le_of_ble_eq_true rfl) (fun r1 h1 hq => ?_)
  obtain ⟨rfl, rfl⟩ := (show r1 = (-1) ∧ h1 = hA t (cg_let u, cg_lc u, cg_rt u, cg_rl u, cg_ra u, cg_rf u, cg_rn u, cg_rc u, cg_now u, cg_dra u, cg_kep u, cg_im u, cg_mp u, cg_mw u, cg_mu u, cg_mn u, cg_mi u, cg_mc u, cg_md u, cg_mo u, cg_ms u, cg_mq u, cg_se u, cg_sc u, (va_up (cg_re u) 1 ((cg_re u) 1 + 1))) from hq)
  exact z_iret eX3_gone_16 rfl rfl ⟨_, rfl, rfl, rfl⟩
set_option maxHeartbeats 1000000 in
set_option maxRecDepth 100000 in
theorem s3_gone_k {t : zMod} {u : zCls} {T : zTown} (hc : cT (cg_now u) T) (hms : ∀ i, cg_ms u i ≤ 2147483647) {v : Nat} (hv : v < tg_keys T) : Mi mX3_gone 7 [.ref 11, .int (nI (v))] (hA t u) (fun r h' => ∃ (M' : zMp) (R' : zMr) (D' : zTown), h' = hA t (cg_let u, cg_lc u, cg_rt u, cg_rl u, cg_ra u, cg_rf u, cg_rn u, cg_rc u, cg_now u, D', cg_kep u, cg_im u, (pg_mp M'), (pg_mw M'), (pg_mu M'), (pg_mn M'), (pg_mi M'), (pg_mc M'), (pg_md M'), (qg_mo R'), (qg_ms R'), (qg_mq R'), cg_se u, cg_sc u, cg_re u) ∧ r = nI (zbs (fun p => decide (¬ tO T 0 0 p = 1000000)) (tg_people T)) &&& (nI (zbs (fun p => decide (¬ tO (tDrop T v) 0 0 p = 1000000)) (tg_people T)) ^^^ (-1)) ∧ ∀ i, qg_ms R' i ≤ 2147483647) := by
  obtain ⟨he, hT, hty, hk10⟩ := id hc
  have h7 := hT.1
  have hpw9 : 2 ^ tg_people T ≤ 2 ^ 7 := Nat.pow_le_pow_right (by omega) h7
  have ho := he.ok hT
  obtain ⟨he1, he2, he3, he4, he5, he6, he7⟩ := id he
  have hwt9 := hT.2.2.2.1
  have hpp9 := Nat.two_pow_pos (tg_people T)
  have hk9 : tg_keys (cg_now u) ≤ 10 := by omega
  have hty9 := he.keys hty
  have hrg9 : tg_ring (cg_now u) ≤ 1 := ho.2.2.2.2.1
  have hX : tEq T (zbec (cg_now u) (cg_dra u)) := he.trans (zbec_eq (by omega) hk9)
  have hoX := hX.ok hT
  have hcD : cT (tDrop (zbec (cg_now u) (cg_dra u)) v) (tDrop T v) := ⟨tDrop_eq hX, tDrop_ok hT, tDrop_keys hty, Nat.le_trans (Nat.sub_le _ _) hk10⟩
  have hvk : v < tg_keys (cg_now u) := by omega
  refine Mi.of (by decide) rfl (Nat.le_of_ble_eq_true rfl) ?_
  refine r_aload_n eX3_gone_0 rfl rfl ?_
  refine r_getf (v := .ref 16) eX3_gone_1 fX3_23 rfl rfl ?_
  refine r_iload_n eX3_gone_4 rfl rfl ?_
  refine r_callVi1 eX3_gone_5 lX3_90 (Or.inl ⟨_, _, _, rfl, rfl, rfl⟩) (s2_hasKey_y_now (t := t) (u := u) ho hvk) (by omega) (Nat.le_of_ble_eq_true rfl) (fun r1 h1 hq => ?_)
  obtain ⟨rfl, rfl⟩ := (show r1 = nI (1) ∧ h1 = hA t u from hq)
  refine n_if_ne eX3_gone_8 (by omega) (fun hc8 => ?_) (fun hc8 => absurd hc8 (by decide))
  refine r_aload_n eX3_gone_17 rfl rfl ?_
  refine r_aload_n eX3_gone_18 rfl rfl ?_
  refine r_getf (v := .ref 16) eX3_gone_19 fX3_23 rfl rfl ?_
  refine r_callVv1 eX3_gone_22 lX3_117 (Or.inl ⟨_, _, _, rfl, rfl, rfl⟩) (s3_morningOf_now (t := t) (u := u) (T := T) hc hms) (by omega) (Nat.le_of_ble_eq_true rfl) (fun h1 hq => ?_)
  obtain ⟨M22, R22, hh, hM22, hR22⟩ := hq
  obtain rfl := (show h1 = hA t (cg_let u, cg_lc u, cg_rt u, cg_rl u, cg_ra u, cg_rf u, cg_rn u, cg_rc u, cg_now u, cg_dra u, cg_kep u, cg_im u, (pg_mp M22), (pg_mw M22), (pg_mu M22), (pg_mn M22), (pg_mi M22), (pg_mc M22), (pg_md M22), (qg_mo R22), (qg_ms R22), (qg_mq R22), cg_se u, cg_sc u, cg_re u) from hh)
  refine r_aload_n eX3_gone_25 rfl rfl ?_
  refine r_getf (v := .ref 40) eX3_gone_26 fX3_36 rfl rfl ?_
  refine r_callVi0 eX3_gone_29 lX3_185 (Or.inl ⟨_, _, _, rfl, rfl, rfl⟩) (s0_everOutT (t := t) (u := (cg_let u, cg_lc u, cg_rt u, cg_rl u, cg_ra u, cg_rf u, cg_rn u, cg_rc u, cg_now u, cg_dra u, cg_kep u, cg_im u, (pg_mp M22), (pg_mw M22), (pg_mu M22), (pg_mn M22), (pg_mi M22), (pg_mc M22), (pg_md M22), (qg_mo R22), (qg_ms R22), (qg_mq R22), cg_se u, cg_sc u, cg_re u)) (T := T) hT hM22.1 hR22) (by omega) (Nat.le_of_ble_eq_true rfl) (fun r1 h1 hq => ?_)
  obtain ⟨rfl, rfl⟩ := (show r1 = nI (zbs (fun p => decide (¬ tO T 0 0 p = 1000000)) (tg_people T)) ∧ h1 = hA t (cg_let u, cg_lc u, cg_rt u, cg_rl u, cg_ra u, cg_rf u, cg_rn u, cg_rc u, cg_now u, cg_dra u, cg_kep u, cg_im u, (pg_mp M22), (pg_mw M22), (pg_mu M22), (pg_mn M22), (pg_mi M22), (pg_mc M22), (pg_md M22), (qg_mo R22), (qg_ms R22), (qg_mq R22), cg_se u, cg_sc u, cg_re u) from hq)
  refine r_istore_n eX3_gone_32 rfl (by decide) ?_
  refine r_aload_n eX3_gone_33 rfl rfl ?_
  refine r_getf (v := .ref 24) eX3_gone_34 fX3_27 rfl rfl ?_
  refine r_aload_n eX3_gone_37 rfl rfl ?_
  refine r_getf (v := .ref 16) eX3_gone_38 fX3_23 rfl rfl ?_
  refine r_callVv1 eX3_gone_41 lX3_54 (Or.inl ⟨_, _, _, rfl, rfl, rfl⟩) (s2_become_dra_now (t := t) (u := (cg_let u, cg_lc u, cg_rt u, cg_rl u, cg_ra u, cg_rf u, cg_rn u, cg_rc u, cg_now u, cg_dra u, cg_kep u, cg_im u, (pg_mp M22), (pg_mw M22), (pg_mu M22), (pg_mn M22), (pg_mi M22), (pg_mc M22), (pg_md M22), (qg_mo R22), (qg_ms R22), (qg_mq R22), cg_se u, cg_sc u, cg_re u)) hrg9) (by omega) (Nat.le_of_ble_eq_true rfl) (fun h1 hq => ?_)
  obtain rfl := (show h1 = hA t (cg_let u, cg_lc u, cg_rt u, cg_rl u, cg_ra u, cg_rf u, cg_rn u, cg_rc u, cg_now u, (zbec (cg_now u) (cg_dra u)), cg_kep u, cg_im u, (pg_mp M22), (pg_mw M22), (pg_mu M22), (pg_mn M22), (pg_mi M22), (pg_mc M22), (pg_md M22), (qg_mo R22), (qg_ms R22), (qg_mq R22), cg_se u, cg_sc u, cg_re u) from hq)
  refine r_aload_n eX3_gone_44 rfl rfl ?_
  refine r_getf (v := .ref 24) eX3_gone_45 fX3_27 rfl rfl ?_
  refine r_iload_n eX3_gone_48 rfl rfl ?_
  refine r_callVv1 eX3_gone_49 lX3_106 (Or.inl ⟨_, _, _, rfl, rfl, rfl⟩) (s2_dropKey_dra (t := t) (u := (cg_let u, cg_lc u, cg_rt u, cg_rl u, cg_ra u, cg_rf u, cg_rn u, cg_rc u, cg_now u, (zbec (cg_now u) (cg_dra u)), cg_kep u, cg_im u, (pg_mp M22), (pg_mw M22), (pg_mu M22), (pg_mn M22), (pg_mi M22), (pg_mc M22), (pg_md M22), (qg_mo R22), (qg_ms R22), (qg_mq R22), cg_se u, cg_sc u, cg_re u)) hoX (show tg_keys (cg_now u) ≤ 10 by omega) (show v < tg_keys (cg_now u) by omega)) (by omega) (Nat.le_of_ble_eq_true rfl) (fun h1 hq => ?_)
  obtain rfl := (show h1 = hA t (cg_let u, cg_lc u, cg_rt u, cg_rl u, cg_ra u, cg_rf u, cg_rn u, cg_rc u, cg_now u, (tDrop (zbec (cg_now u) (cg_dra u)) v), cg_kep u, cg_im u, (pg_mp M22), (pg_mw M22), (pg_mu M22), (pg_mn M22), (pg_mi M22), (pg_mc M22), (pg_md M22), (qg_mo R22), (qg_ms R22), (qg_mq R22), cg_se u, cg_sc u, cg_re u) from hq)
  refine r_aload_n eX3_gone_52 rfl rfl ?_
  refine r_aload_n eX3_gone_53 rfl rfl ?_
  refine r_getf (v := .ref 24) eX3_gone_54 fX3_27 rfl rfl ?_
  refine r_callVv1 eX3_gone_57 lX3_117 (Or.inl ⟨_, _, _, rfl, rfl, rfl⟩) (s3_morningOf_dra (t := t) (u := (cg_let u, cg_lc u, cg_rt u, cg_rl u, cg_ra u, cg_rf u, cg_rn u, cg_rc u, cg_now u, (tDrop (zbec (cg_now u) (cg_dra u)) v), cg_kep u, cg_im u, (pg_mp M22), (pg_mw M22), (pg_mu M22), (pg_mn M22), (pg_mi M22), (pg_mc M22), (pg_md M22), (qg_mo R22), (qg_ms R22), (qg_mq R22), cg_se u, cg_sc u, cg_re u)) (T := tDrop T v) hcD hR22.2.1) (by omega) (Nat.le_of_ble_eq_true rfl) (fun h1 hq => ?_)
  obtain ⟨M57, R57, hh, hM57, hR57⟩ := hq
  obtain rfl := (show h1 = hA t (cg_let u, cg_lc u, cg_rt u, cg_rl u, cg_ra u, cg_rf u, cg_rn u, cg_rc u, cg_now u, (tDrop (zbec (cg_now u) (cg_dra u)) v), cg_kep u, cg_im u, (pg_mp M57), (pg_mw M57), (pg_mu M57), (pg_mn M57), (pg_mi M57), (pg_mc M57), (pg_md M57), (qg_mo R57), (qg_ms R57), (qg_mq R57), cg_se u, cg_sc u, cg_re u) from hh)
  refine r_iload_n eX3_gone_60 rfl rfl ?_
  refine r_aload_n eX3_gone_61 rfl rfl ?_
  refine r_getf (v := .ref 40) eX3_gone_62 fX3_36 rfl rfl ?_
  refine r_callVi0 eX3_gone_65 lX3_185 (Or.inl ⟨_, _, _, rfl, rfl, rfl⟩) (s0_everOutT (t := t) (u := (cg_let u, cg_lc u, cg_rt u, cg_rl u, cg_ra u, cg_rf u, cg_rn u, cg_rc u, cg_now u, (tDrop (zbec (cg_now u) (cg_dra u)) v), cg_kep u, cg_im u, (pg_mp M57), (pg_mw M57), (pg_mu M57), (pg_mn M57), (pg_mi M57), (pg_mc M57), (pg_md M57), (qg_mo R57), (qg_ms R57), (qg_mq R57), cg_se u, cg_sc u, cg_re u)) (T := (tDrop T v)) (tDrop_ok hT) hM57.1 hR57) (by omega) (Nat.le_of_ble_eq_true rfl) (fun r1 h1 hq => ?_)
  obtain ⟨rfl, rfl⟩ := (show r1 = nI (zbs (fun p => decide (¬ tO (tDrop T v) 0 0 p = 1000000)) (tg_people T)) ∧ h1 = hA t (cg_let u, cg_lc u, cg_rt u, cg_rl u, cg_ra u, cg_rf u, cg_rn u, cg_rc u, cg_now u, (tDrop (zbec (cg_now u) (cg_dra u)) v), cg_kep u, cg_im u, (pg_mp M57), (pg_mw M57), (pg_mu M57), (pg_mn M57), (pg_mi M57), (pg_mc M57), (pg_md M57), (qg_mo R57), (qg_ms R57), (qg_mq R57), cg_se u, cg_sc u, cg_re u) from hq)
  refine r_iconst (v := (-1)) eX3_gone_68 rfl ?_
  refine r_ixor eX3_gone_69 ?_
  refine r_iand eX3_gone_70 ?_
  exact z_iret eX3_gone_71 rfl rfl ⟨_, rfl, M57, R57, _, rfl, rfl, hR57.2.1⟩
