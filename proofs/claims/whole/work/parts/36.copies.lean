/-! THE CLASS: copies of keys -/
def tKd (T : zTown) (D H : Nat → Nat) (k : Nat) : zTown := (tg_kind T, tg_wakes T, tg_takes T, tg_due T, tg_cost T, tg_people T, D, H, k, tg_watch T, tg_pace T, tg_ring T)
def tAdd (T : zTown) (d0 p0 : Nat) : zTown := tKd T (va_up (tg_door T) (tg_keys T) d0) (va_up (tg_held T) (tg_keys T) p0) (tg_keys T + 1)
theorem zhold_add {D H : Nat → Nat} {m d0 p0 p d : Nat} : zhold (va_up D m d0) (va_up H m p0) (m + 1) p d = (zhold D H m p d || (p0 == p && d0 == d)) := by
  rw [zhold, zu_s, zu_s, zhold_cong (fun k hk => ⟨zu_n (by omega), zu_n (by omega)⟩)]
theorem tHd_add (T : zTown) (d0 p0 p d : Nat) : tHd (tAdd T d0 p0) p d = (!(d == p) && (zhold (tg_door T) (tg_held T) (tg_keys T) p d || (p0 == p && d0 == d))) := by
  show (!(d == p) && zhold (va_up (tg_door T) (tg_keys T) d0) (va_up (tg_held T) (tg_keys T) p0) (tg_keys T + 1) p d) = _
  rw [zhold_add]
theorem tHd_add1 {T : zTown} {d0 p0 : Nat} (h : ¬ d0 = p0) : tHd (tAdd T d0 p0) p0 d0 = true := by
  rw [tHd_add]
  simp [h]
theorem tHd_add2 {T : zTown} {d0 p0 p d : Nat} (h : ¬ (p = p0 ∧ d = d0)) : tHd (tAdd T d0 p0) p d = tHd T p d := by
  rw [tHd_add]
  unfold tHd
  have e : (p0 == p && d0 == d) = false := by
    by_cases e1 : p = p0
    · have e2 : ¬ d = d0 := fun e2 => h ⟨e1, e2⟩
      have e3 : (d0 == d) = false := beq_eq_false_iff_ne.mpr (fun z => e2 z.symm)
      rw [e3, Bool.and_false]
    · have e3 : (p0 == p) = false := beq_eq_false_iff_ne.mpr (fun z => e1 z.symm)
      rw [e3, Bool.false_and]
  rw [e, Bool.or_false]
theorem tAdd_ok {T : zTown} {d0 p0 : Nat} (h : tOk T) (hk : tg_keys T ≤ 11) : tOk (tAdd T d0 p0) := ⟨h.1, Nat.succ_le_succ hk, h.2.2.1, h.2.2.2.1, h.2.2.2.2.1, h.2.2.2.2.2⟩
theorem tAll_hd {T : zTown} {D H : Nat → Nat} {k nw br : Nat} (hT : tOk T) (h : ∀ p d, p < tg_people T → d < tg_people T → tHd T p d = tHd (tKd T D H k) p d) : tAll (tKd T D H k) nw br = tAll T nw br := by
  show zmx (tO (tKd T D H k) nw br) (tg_people T) = zmx (tO T nw br) (tg_people T)
  refine zmx_cong fun i hi => ?_
  have h1 : zV2 1000000 1000000 500000 (tO T nw br i) (tO (tKd T D H k) nw br i) := (tRun_any (nw := nw) (NV := 1000000) (br := br) (hold' := tHd (tKd T D H k)) (ou := fun _ => 1000000) (op := sOp0 br (tg_people T) (fun _ => 1000000)) hT (tEq.rfl' T) h (by omega) (fun j hj => by unfold sOp0; rw [if_pos hj])).1 i hi
  unfold zV2 at h1
  omega
/-- a key more that changes nothing -/
theorem tAll_same {T : zTown} {d0 p0 nw br : Nat} (hT : tOk T) (h : d0 = p0 ∨ tHd T p0 d0 = true) : tAll (tAdd T d0 p0) nw br = tAll T nw br := by
  refine tAll_hd hT fun p d _ _ => ?_
  show tHd T p d = tHd (tAdd T d0 p0) p d
  by_cases e : p = p0 ∧ d = d0
  · obtain ⟨rfl, rfl⟩ := e
    rcases h with h | h
    · rw [tHd_add]
      unfold tHd
      simp [h]
    · rw [h, tHd_add]
      have h2 : (!(d == p) && zhold (tg_door T) (tg_held T) (tg_keys T) p d) = true := h
      rw [Bool.and_eq_true] at h2
      rw [h2.1, h2.2]
      rfl
  · exact (tHd_add2 e).symm
def tAddB (T : zTown) (j : Nat) : Bool := decide (j / 7 < tg_people T ∧ j % 7 < tg_people T ∧ ¬ j / 7 = j % 7 ∧ tHd T (j % 7) (j / 7) = false)
def tOne (T : zTown) (mi : Nat) : Bool := decide (tAll T 0 0 < 1000000 ∧ tAll T 0 0 ≤ mi)
def zany (F : Nat → Bool) : Nat → Nat → Bool
  | _, 0 => false
  | lo, k + 1 => F lo || zany F (lo + 1) k
def tF1 (T : zTown) (mi j : Nat) : Bool := tAddB T j && tOne (tAdd T (j / 7) (j % 7)) mi
def tF2 (T : zTown) (mi j : Nat) : Bool := tAddB T j && zany (tF1 (tAdd T (j / 7) (j % 7)) mi) (j + 1) (48 - j)
def pAdd (M : zMp) (j : Nat) : zMp := (pg_mp M, pg_mw M, pg_mu M, pg_mn M, pg_mi M, pg_mc M, va_up (pg_md M) (j % 7) (pg_md M (j % 7) ||| 1 * 2 ^ (j / 7)))
def zclr (a d : Nat) : Nat := a ^^^ (a &&& 2 ^ d)
def pDrop (M : zMp) (j : Nat) : zMp := (pg_mp M, pg_mw M, pg_mu M, pg_mn M, pg_mi M, pg_mc M, va_up (pg_md M) (j % 7) (zclr (pg_md M (j % 7)) (j / 7)))
theorem zclr_is : ∀ a, a < 128 → ∀ d, d < 7 → nI a &&& (nI (1 * 2 ^ d) ^^^ (-1)) = nI (zclr a d) := by decide +kernel
theorem zclr_lt {a d : Nat} (ha : a < 128) : zclr a d < 128 := by
  unfold zclr
  exact Nat.xor_lt_two_pow (n := 7) ha (Nat.lt_of_le_of_lt Nat.and_le_left ha)
theorem zclr_bit (a d i : Nat) : (zclr a d).testBit i = (a.testBit i && !(decide (i = d))) := by
  unfold zclr
  rw [Nat.testBit_xor, Nat.testBit_and, Nat.testBit_two_pow]
  by_cases e : i = d
  · subst e
    cases a.testBit i <;> simp
  · have e2 : ¬ d = i := fun z => e z.symm
    cases a.testBit i <;> simp [e, e2]
theorem pPr_add {M : zMp} {T : zTown} {j : Nat} (hT : tOk T) (hM : pPr M T) (h : tAddB T j = true) : pPr (pAdd M j) (tAdd T (j / 7) (j % 7)) := by
  obtain ⟨hd, hp, hne, hno⟩ := of_decide_eq_true h
  have h7 := hT.1
  refine ⟨hM.1, fun p hp' => ?_⟩
  obtain ⟨q1, q2, q3, q4, q5, q6, q7⟩ := hM.2 p hp'
  refine ⟨q1, q2, q3, q4, q5, ?_, fun d hd' => ?_⟩
  · show va_up (pg_md M) (j % 7) (pg_md M (j % 7) ||| 1 * 2 ^ (j / 7)) p < 128
    by_cases e : p = j % 7
    · rw [e, zu_s]; exact zor_lt (by rw [← e]; exact q6) (by omega)
    · rw [zu_n e]; exact q6
  · show (va_up (pg_md M) (j % 7) (pg_md M (j % 7) ||| 1 * 2 ^ (j / 7)) p).testBit d = _
    by_cases e : p = j % 7
    · rw [e, zu_s, zor_bit, ← e, q7 d hd']
      by_cases e2 : d = j / 7
      · rw [e2, e, tHd_add1 hne]; simp
      · rw [tHd_add2 (fun z => e2 z.2)]; simp [e2]
    · rw [zu_n e, tHd_add2 (fun z => e z.1)]; exact q7 d hd'
theorem pPr_drop {M : zMp} {T : zTown} {j : Nat} (hM : pPr M (tAdd T (j / 7) (j % 7))) (h : tAddB T j = true) : pPr (pDrop M j) T := by
  obtain ⟨hd, hp, hne, hno⟩ := of_decide_eq_true h
  refine ⟨hM.1, fun p hp' => ?_⟩
  obtain ⟨q1, q2, q3, q4, q5, q6, q7⟩ := hM.2 p hp'
  refine ⟨q1, q2, q3, q4, q5, ?_, fun d hd' => ?_⟩
  · show va_up (pg_md M) (j % 7) (zclr (pg_md M (j % 7)) (j / 7)) p < 128
    by_cases e : p = j % 7
    · rw [e, zu_s]; exact zclr_lt (by rw [← e]; exact q6)
    · rw [zu_n e]; exact q6
  · show (va_up (pg_md M) (j % 7) (zclr (pg_md M (j % 7)) (j / 7)) p).testBit d = _
    have q9 := q7 d hd'
    by_cases e : p = j % 7
    · rw [e, zu_s, zclr_bit, ← e, q9]
      by_cases e2 : d = j / 7
      · rw [e2, e, hno]; simp
      · rw [tHd_add2 (fun z => e2 z.2)]; simp [e2]
    · rw [zu_n e, q9]; exact tHd_add2 (fun z => e z.1)
set_option maxHeartbeats 1000000 in
set_option maxRecDepth 100000 in
theorem s3_doorOf {h : List zC} {j : Nat} (hj : j < 49) : Mi mX3_doorOf 1 [.int (nI (j))] h (fun r h' => r = nI (j / 7) ∧ h' = h) := by
  refine Mi.of (by decide) rfl (Nat.le_of_ble_eq_true rfl) ?_
  refine r_iload_n eX3_doorOf_0 rfl rfl ?_
  refine n_bipush 7 eX3_doorOf_1 rfl ?_
  refine n_div eX3_doorOf_3 (by omega) (by omega) (by omega) ?_
  exact z_iret eX3_doorOf_4 rfl rfl ⟨_, rfl, rfl, rfl⟩
set_option maxHeartbeats 1000000 in
set_option maxRecDepth 100000 in
theorem s3_holderOf {h : List zC} {j : Nat} (hj : j < 49) : Mi mX3_holderOf 1 [.int (nI (j))] h (fun r h' => r = nI (j % 7) ∧ h' = h) := by
  refine Mi.of (by decide) rfl (Nat.le_of_ble_eq_true rfl) ?_
  refine r_iload_n eX3_holderOf_0 rfl rfl ?_
  refine n_bipush 7 eX3_holderOf_1 rfl ?_
  refine n_rem eX3_holderOf_3 (by omega) (by omega) (by omega) ?_
  exact z_iret eX3_holderOf_4 rfl rfl ⟨_, rfl, rfl, rfl⟩
set_option maxHeartbeats 1000000 in
set_option maxRecDepth 100000 in
theorem s3_addPair_n1 {t : zMod} {u : zCls} {T : zTown} (hn : tg_people (cg_now u) = tg_people T) (ho : tOk (cg_now u)) {M : zMp} {R : zMr} (hM : pPr M T) {j : Nat} (hj : j < 49) (hd : tg_people T ≤ j / 7) : Mi mX3_addPair 3 [.ref 11, .int (nI (j))] (hA t (cg_let u, cg_lc u, cg_rt u, cg_rl u, cg_ra u, cg_rf u, cg_rn u, cg_rc u, cg_now u, cg_dra u, cg_kep u, cg_im u, (pg_mp M), (pg_mw M), (pg_mu M), (pg_mn M), (pg_mi M), (pg_mc M), (pg_md M), (qg_mo R), (qg_ms R), (qg_mq R), cg_se u, cg_sc u, cg_re u)) (fun r h' => r = nI 0 ∧ h' = hA t (cg_let u, cg_lc u, cg_rt u, cg_rl u, cg_ra u, cg_rf u, cg_rn u, cg_rc u, cg_now u, cg_dra u, cg_kep u, cg_im u, (pg_mp M), (pg_mw M), (pg_mu M), (pg_mn M), (pg_mi M), (pg_mc M), (pg_md M), (qg_mo R), (qg_ms R), (qg_mq R), cg_se u, cg_sc u, cg_re u)) := by
  obtain ⟨hp7, hk12, hpc, hwt, hrg, hpp⟩ := id ho
  refine Mi.of (by decide) rfl (Nat.le_of_ble_eq_true rfl) ?_
  refine r_iload_n eX3_addPair_0 rfl rfl ?_
  refine r_callSi1 eX3_addPair_1 lX3_160 (s3_doorOf (by omega)) (by omega) (Nat.le_of_ble_eq_true rfl) (fun r1 h1 hq => ?_)
  obtain ⟨rfl, rfl⟩ := hq
  refine r_istore_n eX3_addPair_4 rfl (by decide) ?_
  refine r_iload_n eX3_addPair_5 rfl rfl ?_
  refine r_callSi1 eX3_addPair_6 lX3_163 (s3_holderOf (by omega)) (by omega) (Nat.le_of_ble_eq_true rfl) (fun r1 h1 hq => ?_)
  obtain ⟨rfl, rfl⟩ := hq
  refine r_istore_n eX3_addPair_9 rfl (by decide) ?_
  refine r_aload_n eX3_addPair_10 rfl rfl ?_
  refine r_getf (v := .ref 16) eX3_addPair_11 fX3_23 rfl rfl ?_
  refine r_iload_n eX3_addPair_14 rfl rfl ?_
  refine r_callVi1 eX3_addPair_15 lX3_62 (Or.inl ⟨_, _, _, rfl, rfl, rfl⟩) (s2_hasPerson_n_now (t := t) (u := (cg_let u, cg_lc u, cg_rt u, cg_rl u, cg_ra u, cg_rf u, cg_rn u, cg_rc u, cg_now u, cg_dra u, cg_kep u, cg_im u, (pg_mp M), (pg_mw M), (pg_mu M), (pg_mn M), (pg_mi M), (pg_mc M), (pg_md M), (qg_mo R), (qg_ms R), (qg_mq R), cg_se u, cg_sc u, cg_re u)) (v := nI (j / 7)) (Or.inr (nI_le (show tg_people (cg_now u) ≤ j / 7 by omega) (by omega)))) (by omega) (Nat.le_of_ble_eq_true rfl) (fun r1 h1 hq => ?_)
  obtain ⟨rfl, rfl⟩ := (show r1 = nI (0) ∧ h1 = hA t (cg_let u, cg_lc u, cg_rt u, cg_rl u, cg_ra u, cg_rf u, cg_rn u, cg_rc u, cg_now u, cg_dra u, cg_kep u, cg_im u, (pg_mp M), (pg_mw M), (pg_mu M), (pg_mn M), (pg_mi M), (pg_mc M), (pg_md M), (qg_mo R), (qg_ms R), (qg_mq R), cg_se u, cg_sc u, cg_re u) from hq)
  refine n_if_eq eX3_addPair_18 (by omega) (fun hc18 => ?_) (fun hc18 => absurd hc18 (by decide))
  refine n_iconst 0 eX3_addPair_37 rfl ?_
  exact z_iret eX3_addPair_38 rfl (by decide) ⟨_, rfl, rfl, rfl⟩
set_option maxHeartbeats 1000000 in
set_option maxRecDepth 100000 in
theorem s3_addPair_n2 {t : zMod} {u : zCls} {T : zTown} (hn : tg_people (cg_now u) = tg_people T) (ho : tOk (cg_now u)) {M : zMp} {R : zMr} (hM : pPr M T) {j : Nat} (hj : j < 49) (hd : j / 7 < tg_people T) (hp : tg_people T ≤ j % 7) : Mi mX3_addPair 3 [.ref 11, .int (nI (j))] (hA t (cg_let u, cg_lc u, cg_rt u, cg_rl u, cg_ra u, cg_rf u, cg_rn u, cg_rc u, cg_now u, cg_dra u, cg_kep u, cg_im u, (pg_mp M), (pg_mw M), (pg_mu M), (pg_mn M), (pg_mi M), (pg_mc M), (pg_md M), (qg_mo R), (qg_ms R), (qg_mq R), cg_se u, cg_sc u, cg_re u)) (fun r h' => r = nI 0 ∧ h' = hA t (cg_let u, cg_lc u, cg_rt u, cg_rl u, cg_ra u, cg_rf u, cg_rn u, cg_rc u, cg_now u, cg_dra u, cg_kep u, cg_im u, (pg_mp M), (pg_mw M), (pg_mu M), (pg_mn M), (pg_mi M), (pg_mc M), (pg_md M), (qg_mo R), (qg_ms R), (qg_mq R), cg_se u, cg_sc u, cg_re u)) := by
  obtain ⟨hp7, hk12, hpc, hwt, hrg, hpp⟩ := id ho
  refine Mi.of (by decide) rfl (Nat.le_of_ble_eq_true rfl) ?_
  refine r_iload_n eX3_addPair_0 rfl rfl ?_
  refine r_callSi1 eX3_addPair_1 lX3_160 (s3_doorOf (by omega)) (by omega) (Nat.le_of_ble_eq_true rfl) (fun r1 h1 hq => ?_)
  obtain ⟨rfl, rfl⟩ := hq
  refine r_istore_n eX3_addPair_4 rfl (by decide) ?_
  refine r_iload_n eX3_addPair_5 rfl rfl ?_
  refine r_callSi1 eX3_addPair_6 lX3_163 (s3_holderOf (by omega)) (by omega) (Nat.le_of_ble_eq_true rfl) (fun r1 h1 hq => ?_)
  obtain ⟨rfl, rfl⟩ := hq
  refine r_istore_n eX3_addPair_9 rfl (by decide) ?_
  refine r_aload_n eX3_addPair_10 rfl rfl ?_
  refine r_getf (v := .ref 16) eX3_addPair_11 fX3_23 rfl rfl ?_
  refine r_iload_n eX3_addPair_14 rfl rfl ?_
  refine r_callVi1 eX3_addPair_15 lX3_62 (Or.inl ⟨_, _, _, rfl, rfl, rfl⟩) (s2_hasPerson_y_now (t := t) (u := (cg_let u, cg_lc u, cg_rt u, cg_rl u, cg_ra u, cg_rf u, cg_rn u, cg_rc u, cg_now u, cg_dra u, cg_kep u, cg_im u, (pg_mp M), (pg_mw M), (pg_mu M), (pg_mn M), (pg_mi M), (pg_mc M), (pg_md M), (qg_mo R), (qg_ms R), (qg_mq R), cg_se u, cg_sc u, cg_re u)) ho (show j / 7 < tg_people (cg_now u) by omega)) (by omega) (Nat.le_of_ble_eq_true rfl) (fun r1 h1 hq => ?_)
  obtain ⟨rfl, rfl⟩ := (show r1 = nI (1) ∧ h1 = hA t (cg_let u, cg_lc u, cg_rt u, cg_rl u, cg_ra u, cg_rf u, cg_rn u, cg_rc u, cg_now u, cg_dra u, cg_kep u, cg_im u, (pg_mp M), (pg_mw M), (pg_mu M), (pg_mn M), (pg_mi M), (pg_mc M), (pg_md M), (qg_mo R), (qg_ms R), (qg_mq R), cg_se u, cg_sc u, cg_re u) from hq)
  refine n_if_eq eX3_addPair_18 (by omega) (fun hc18 => absurd hc18 (by decide)) (fun hc18 => ?_)
  refine r_aload_n eX3_addPair_21 rfl rfl ?_
  refine r_getf (v := .ref 16) eX3_addPair_22 fX3_23 rfl rfl ?_
  refine r_iload_n eX3_addPair_25 rfl rfl ?_
  refine r_callVi1 eX3_addPair_26 lX3_62 (Or.inl ⟨_, _, _, rfl, rfl, rfl⟩) (s2_hasPerson_n_now (t := t) (u := (cg_let u, cg_lc u, cg_rt u, cg_rl u, cg_ra u, cg_rf u, cg_rn u, cg_rc u, cg_now u, cg_dra u, cg_kep u, cg_im u, (pg_mp M), (pg_mw M), (pg_mu M), (pg_mn M), (pg_mi M), (pg_mc M), (pg_md M), (qg_mo R), (qg_ms R), (qg_mq R), cg_se u, cg_sc u, cg_re u)) (v := nI (j % 7)) (Or.inr (nI_le (show tg_people (cg_now u) ≤ j % 7 by omega) (by omega)))) (by omega) (Nat.le_of_ble_eq_true rfl) (fun r1 h1 hq => ?_)
  obtain ⟨rfl, rfl⟩ := (show r1 = nI (0) ∧ h1 = hA t (cg_let u, cg_lc u, cg_rt u, cg_rl u, cg_ra u, cg_rf u, cg_rn u, cg_rc u, cg_now u, cg_dra u, cg_kep u, cg_im u, (pg_mp M), (pg_mw M), (pg_mu M), (pg_mn M), (pg_mi M), (pg_mc M), (pg_md M), (qg_mo R), (qg_ms R), (qg_mq R), cg_se u, cg_sc u, cg_re u) from hq)
  refine n_if_eq eX3_addPair_29 (by omega) (fun hc29 => ?_) (fun hc29 => absurd hc29 (by decide))
  refine n_iconst 0 eX3_addPair_37 rfl ?_
  exact z_iret eX3_addPair_38 rfl (by decide) ⟨_, rfl, rfl, rfl⟩
set_option maxHeartbeats 1000000 in
set_option maxRecDepth 100000 in
theorem s3_addPair_n3 {t : zMod} {u : zCls} {T : zTown} (hn : tg_people (cg_now u) = tg_people T) (ho : tOk (cg_now u)) {M : zMp} {R : zMr} (hM : pPr M T) {j : Nat} (hj : j < 49) (hd : j / 7 < tg_people T) (hp : j % 7 < tg_people T) (he : j / 7 = j % 7) : Mi mX3_addPair 3 [.ref 11, .int (nI (j))] (hA t (cg_let u, cg_lc u, cg_rt u, cg_rl u, cg_ra u, cg_rf u, cg_rn u, cg_rc u, cg_now u, cg_dra u, cg_kep u, cg_im u, (pg_mp M), (pg_mw M), (pg_mu M), (pg_mn M), (pg_mi M), (pg_mc M), (pg_md M), (qg_mo R), (qg_ms R), (qg_mq R), cg_se u, cg_sc u, cg_re u)) (fun r h' => r = nI 0 ∧ h' = hA t (cg_let u, cg_lc u, cg_rt u, cg_rl u, cg_ra u, cg_rf u, cg_rn u, cg_rc u, cg_now u, cg_dra u, cg_kep u, cg_im u, (pg_mp M), (pg_mw M), (pg_mu M), (pg_mn M), (pg_mi M), (pg_mc M), (pg_md M), (qg_mo R), (qg_ms R), (qg_mq R), cg_se u, cg_sc u, cg_re u)) := by
  obtain ⟨hp7, hk12, hpc, hwt, hrg, hpp⟩ := id ho
  refine Mi.of (by decide) rfl (Nat.le_of_ble_eq_true rfl) ?_
  refine r_iload_n eX3_addPair_0 rfl rfl ?_
  refine r_callSi1 eX3_addPair_1 lX3_160 (s3_doorOf (by omega)) (by omega) (Nat.le_of_ble_eq_true rfl) (fun r1 h1 hq => ?_)
  obtain ⟨rfl, rfl⟩ := hq
  refine r_istore_n eX3_addPair_4 rfl (by decide) ?_
  refine r_iload_n eX3_addPair_5 rfl rfl ?_
  refine r_callSi1 eX3_addPair_6 lX3_163 (s3_holderOf (by omega)) (by omega) (Nat.le_of_ble_eq_true rfl) (fun r1 h1 hq => ?_)
  obtain ⟨rfl, rfl⟩ := hq
  refine r_istore_n eX3_addPair_9 rfl (by decide) ?_
  refine r_aload_n eX3_addPair_10 rfl rfl ?_
  refine r_getf (v := .ref 16) eX3_addPair_11 fX3_23 rfl rfl ?_
  refine r_iload_n eX3_addPair_14 rfl rfl ?_
  refine r_callVi1 eX3_addPair_15 lX3_62 (Or.inl ⟨_, _, _, rfl, rfl, rfl⟩) (s2_hasPerson_y_now (t := t) (u := (cg_let u, cg_lc u, cg_rt u, cg_rl u, cg_ra u, cg_rf u, cg_rn u, cg_rc u, cg_now u, cg_dra u, cg_kep u, cg_im u, (pg_mp M), (pg_mw M), (pg_mu M), (pg_mn M), (pg_mi M), (pg_mc M), (pg_md M), (qg_mo R), (qg_ms R), (qg_mq R), cg_se u, cg_sc u, cg_re u)) ho (show j / 7 < tg_people (cg_now u) by omega)) (by omega) (Nat.le_of_ble_eq_true rfl) (fun r1 h1 hq => ?_)
  obtain ⟨rfl, rfl⟩ := (show r1 = nI (1) ∧ h1 = hA t (cg_let u, cg_lc u, cg_rt u, cg_rl u, cg_ra u, cg_rf u, cg_rn u, cg_rc u, cg_now u, cg_dra u, cg_kep u, cg_im u, (pg_mp M), (pg_mw M), (pg_mu M), (pg_mn M), (pg_mi M), (pg_mc M), (pg_md M), (qg_mo R), (qg_ms R), (qg_mq R), cg_se u, cg_sc u, cg_re u) from hq)
  refine n_if_eq eX3_addPair_18 (by omega) (fun hc18 => absurd hc18 (by decide)) (fun hc18 => ?_)
  refine r_aload_n eX3_addPair_21 rfl rfl ?_
  refine r_getf (v := .ref 16) eX3_addPair_22 fX3_23 rfl rfl ?_
  refine r_iload_n eX3_addPair_25 rfl rfl ?_
  refine r_callVi1 eX3_addPair_26 lX3_62 (Or.inl ⟨_, _, _, rfl, rfl, rfl⟩) (s2_hasPerson_y_now (t := t) (u := (cg_let u, cg_lc u, cg_rt u, cg_rl u, cg_ra u, cg_rf u, cg_rn u, cg_rc u, cg_now u, cg_dra u, cg_kep u, cg_im u, (pg_mp M), (pg_mw M), (pg_mu M), (pg_mn M), (pg_mi M), (pg_mc M), (pg_md M), (qg_mo R), (qg_ms R), (qg_mq R), cg_se u, cg_sc u, cg_re u)) ho (show j % 7 < tg_people (cg_now u) by omega)) (by omega) (Nat.le_of_ble_eq_true rfl) (fun r1 h1 hq => ?_)
  obtain ⟨rfl, rfl⟩ := (show r1 = nI (1) ∧ h1 = hA t (cg_let u, cg_lc u, cg_rt u, cg_rl u, cg_ra u, cg_rf u, cg_rn u, cg_rc u, cg_now u, cg_dra u, cg_kep u, cg_im u, (pg_mp M), (pg_mw M), (pg_mu M), (pg_mn M), (pg_mi M), (pg_mc M), (pg_md M), (qg_mo R), (qg_ms R), (qg_mq R), cg_se u, cg_sc u, cg_re u) from hq)
  refine n_if_eq eX3_addPair_29 (by omega) (fun hc29 => absurd hc29 (by decide)) (fun hc29 => ?_)
  refine r_iload_n eX3_addPair_32 rfl rfl ?_
  refine r_iload_n eX3_addPair_33 rfl rfl ?_
  refine n_icmp_ne eX3_addPair_34 (by omega) (by omega) (fun hc34 => absurd hc34 (by omega)) (fun hc34 => ?_)
  refine n_iconst 0 eX3_addPair_37 rfl ?_
  exact z_iret eX3_addPair_38 rfl (by decide) ⟨_, rfl, rfl, rfl⟩
set_option maxHeartbeats 1000000 in
set_option maxRecDepth 100000 in
theorem s3_addPair_n4 {t : zMod} {u : zCls} {T : zTown} (hn : tg_people (cg_now u) = tg_people T) (ho : tOk (cg_now u)) {M : zMp} {R : zMr} (hM : pPr M T) {j : Nat} (hj : j < 49) (hd : j / 7 < tg_people T) (hp : j % 7 < tg_people T) (he : ¬ j / 7 = j % 7) (hh : tHd T (j % 7) (j / 7) = true) : Mi mX3_addPair 3 [.ref 11, .int (nI (j))] (hA t (cg_let u, cg_lc u, cg_rt u, cg_rl u, cg_ra u, cg_rf u, cg_rn u, cg_rc u, cg_now u, cg_dra u, cg_kep u, cg_im u, (pg_mp M), (pg_mw M), (pg_mu M), (pg_mn M), (pg_mi M), (pg_mc M), (pg_md M), (qg_mo R), (qg_ms R), (qg_mq R), cg_se u, cg_sc u, cg_re u)) (fun r h' => r = nI 0 ∧ h' = hA t (cg_let u, cg_lc u, cg_rt u, cg_rl u, cg_ra u, cg_rf u, cg_rn u, cg_rc u, cg_now u, cg_dra u, cg_kep u, cg_im u, (pg_mp M), (pg_mw M), (pg_mu M), (pg_mn M), (pg_mi M), (pg_mc M), (pg_md M), (qg_mo R), (qg_ms R), (qg_mq R), cg_se u, cg_sc u, cg_re u)) := by
  obtain ⟨hp7, hk12, hpc, hwt, hrg, hpp⟩ := id ho
  obtain ⟨q1, q2, q3, q4, q5, q6, q7⟩ := hM.2 (j % 7) hp
  have hb9 := q7 (j / 7) hd
  have hb8 : pg_md M (j % 7) / 2 ^ (j / 7) &&& 1 = 1 := by rw [zbit, hb9, hh]; rfl
  refine Mi.of (by decide) rfl (Nat.le_of_ble_eq_true rfl) ?_
  refine r_iload_n eX3_addPair_0 rfl rfl ?_
  refine r_callSi1 eX3_addPair_1 lX3_160 (s3_doorOf (by omega)) (by omega) (Nat.le_of_ble_eq_true rfl) (fun r1 h1 hq => ?_)
  obtain ⟨rfl, rfl⟩ := hq
  refine r_istore_n eX3_addPair_4 rfl (by decide) ?_
  refine r_iload_n eX3_addPair_5 rfl rfl ?_
  refine r_callSi1 eX3_addPair_6 lX3_163 (s3_holderOf (by omega)) (by omega) (Nat.le_of_ble_eq_true rfl) (fun r1 h1 hq => ?_)
  obtain ⟨rfl, rfl⟩ := hq
  refine r_istore_n eX3_addPair_9 rfl (by decide) ?_
  refine r_aload_n eX3_addPair_10 rfl rfl ?_
  refine r_getf (v := .ref 16) eX3_addPair_11 fX3_23 rfl rfl ?_
  refine r_iload_n eX3_addPair_14 rfl rfl ?_
  refine r_callVi1 eX3_addPair_15 lX3_62 (Or.inl ⟨_, _, _, rfl, rfl, rfl⟩) (s2_hasPerson_y_now (t := t) (u := (cg_let u, cg_lc u, cg_rt u, cg_rl u, cg_ra u, cg_rf u, cg_rn u, cg_rc u, cg_now u, cg_dra u, cg_kep u, cg_im u, (pg_mp M), (pg_mw M), (pg_mu M), (pg_mn M), (pg_mi M), (pg_mc M), (pg_md M), (qg_mo R), (qg_ms R), (qg_mq R), cg_se u, cg_sc u, cg_re u)) ho (show j / 7 < tg_people (cg_now u) by omega)) (by omega) (Nat.le_of_ble_eq_true rfl) (fun r1 h1 hq => ?_)
  obtain ⟨rfl, rfl⟩ := (show r1 = nI (1) ∧ h1 = hA t (cg_let u, cg_lc u, cg_rt u, cg_rl u, cg_ra u, cg_rf u, cg_rn u, cg_rc u, cg_now u, cg_dra u, cg_kep u, cg_im u, (pg_mp M), (pg_mw M), (pg_mu M), (pg_mn M), (pg_mi M), (pg_mc M), (pg_md M), (qg_mo R), (qg_ms R), (qg_mq R), cg_se u, cg_sc u, cg_re u) from hq)
  refine n_if_eq eX3_addPair_18 (by omega) (fun hc18 => absurd hc18 (by decide)) (fun hc18 => ?_)
  refine r_aload_n eX3_addPair_21 rfl rfl ?_
  refine r_getf (v := .ref 16) eX3_addPair_22 fX3_23 rfl rfl ?_
  refine r_iload_n eX3_addPair_25 rfl rfl ?_
  refine r_callVi1 eX3_addPair_26 lX3_62 (Or.inl ⟨_, _, _, rfl, rfl, rfl⟩) (s2_hasPerson_y_now (t := t) (u := (cg_let u, cg_lc u, cg_rt u, cg_rl u, cg_ra u, cg_rf u, cg_rn u, cg_rc u, cg_now u, cg_dra u, cg_kep u, cg_im u, (pg_mp M), (pg_mw M), (pg_mu M), (pg_mn M), (pg_mi M), (pg_mc M), (pg_md M), (qg_mo R), (qg_ms R), (qg_mq R), cg_se u, cg_sc u, cg_re u)) ho (show j % 7 < tg_people (cg_now u) by omega)) (by omega) (Nat.le_of_ble_eq_true rfl) (fun r1 h1 hq => ?_)
  obtain ⟨rfl, rfl⟩ := (show r1 = nI (1) ∧ h1 = hA t (cg_let u, cg_lc u, cg_rt u, cg_rl u, cg_ra u, cg_rf u, cg_rn u, cg_rc u, cg_now u, cg_dra u, cg_kep u, cg_im u, (pg_mp M), (pg_mw M), (pg_mu M), (pg_mn M), (pg_mi M), (pg_mc M), (pg_md M), (qg_mo R), (qg_ms R), (qg_mq R), cg_se u, cg_sc u, cg_re u) from hq)
  refine n_if_eq eX3_addPair_29 (by omega) (fun hc29 => absurd hc29 (by decide)) (fun hc29 => ?_)
  refine r_iload_n eX3_addPair_32 rfl rfl ?_
  refine r_iload_n eX3_addPair_33 rfl rfl ?_
  refine n_icmp_ne eX3_addPair_34 (by omega) (by omega) (fun hc34 => ?_) (fun hc34 => absurd hc34 (by omega))
  refine r_aload_n eX3_addPair_39 rfl rfl ?_
  refine r_getf (v := .ref 40) eX3_addPair_40 fX3_36 rfl rfl ?_
  refine r_getf (v := .ref 53) eX3_addPair_43 fX3_220 rfl rfl ?_
  refine r_iload_n eX3_addPair_46 rfl rfl ?_
  refine n_iald (f := (pg_md M)) (j := j % 7) eX3_addPair_47 rfl rfl (by omega) (by decide) ?_
  refine r_iload_n eX3_addPair_48 rfl rfl ?_
  refine n_shr eX3_addPair_49 (by omega) (by omega) ?_
  refine n_iconst 1 eX3_addPair_50 rfl ?_
  refine n_and eX3_addPair_51 ?_
  refine n_if_eq eX3_addPair_52 (by omega) (fun hc52 => absurd hc52 (by omega)) (fun hc52 => ?_)
  refine n_iconst 0 eX3_addPair_55 rfl ?_
  exact z_iret eX3_addPair_56 rfl (by decide) ⟨_, rfl, rfl, rfl⟩
set_option maxHeartbeats 1000000 in
set_option maxRecDepth 100000 in
theorem s3_addPair_y {t : zMod} {u : zCls} {T : zTown} (hn : tg_people (cg_now u) = tg_people T) (ho : tOk (cg_now u)) {M : zMp} {R : zMr} (hM : pPr M T) {j : Nat} (hj : j < 49) (h : tAddB T j = true) : Mi mX3_addPair 3 [.ref 11, .int (nI (j))] (hA t (cg_let u, cg_lc u, cg_rt u, cg_rl u, cg_ra u, cg_rf u, cg_rn u, cg_rc u, cg_now u, cg_dra u, cg_kep u, cg_im u, (pg_mp M), (pg_mw M), (pg_mu M), (pg_mn M), (pg_mi M), (pg_mc M), (pg_md M), (qg_mo R), (qg_ms R), (qg_mq R), cg_se u, cg_sc u, cg_re u)) (fun r h' => r = nI 1 ∧ h' = hA t (cg_let u, cg_lc u, cg_rt u, cg_rl u, cg_ra u, cg_rf u, cg_rn u, cg_rc u, cg_now u, cg_dra u, cg_kep u, cg_im u, (pg_mp (pAdd M j)), (pg_mw (pAdd M j)), (pg_mu (pAdd M j)), (pg_mn (pAdd M j)), (pg_mi (pAdd M j)), (pg_mc (pAdd M j)), (pg_md (pAdd M j)), (qg_mo R), (qg_ms R), (qg_mq R), cg_se u, cg_sc u, cg_re u)) := by
  obtain ⟨hd, hp, he, hh⟩ := of_decide_eq_true h
  obtain ⟨hp7, hk12, hpc, hwt, hrg, hpp⟩ := id ho
  obtain ⟨q1, q2, q3, q4, q5, q6, q7⟩ := hM.2 (j % 7) hp
  have hb9 := q7 (j / 7) hd
  have hb8 : pg_md M (j % 7) / 2 ^ (j / 7) &&& 1 = 0 := by rw [zbit, hb9, hh]; rfl
  have hpw := zpow7 (show j / 7 < 7 by omega)
  refine Mi.of (by decide) rfl (Nat.le_of_ble_eq_true rfl) ?_
  refine r_iload_n eX3_addPair_0 rfl rfl ?_
  refine r_callSi1 eX3_addPair_1 lX3_160 (s3_doorOf (by omega)) (by omega) (Nat.le_of_ble_eq_true rfl) (fun r1 h1 hq => ?_)
  obtain ⟨rfl, rfl⟩ := hq
  refine r_istore_n eX3_addPair_4 rfl (by decide) ?_
  refine r_iload_n eX3_addPair_5 rfl rfl ?_
  refine r_callSi1 eX3_addPair_6 lX3_163 (s3_holderOf (by omega)) (by omega) (Nat.le_of_ble_eq_true rfl) (fun r1 h1 hq => ?_)
  obtain ⟨rfl, rfl⟩ := hq
  refine r_istore_n eX3_addPair_9 rfl (by decide) ?_
  refine r_aload_n eX3_addPair_10 rfl rfl ?_
  refine r_getf (v := .ref 16) eX3_addPair_11 fX3_23 rfl rfl ?_
  refine r_iload_n eX3_addPair_14 rfl rfl ?_
  refine r_callVi1 eX3_addPair_15 lX3_62 (Or.inl ⟨_, _, _, rfl, rfl, rfl⟩) (s2_hasPerson_y_now (t := t) (u := (cg_let u, cg_lc u, cg_rt u, cg_rl u, cg_ra u, cg_rf u, cg_rn u, cg_rc u, cg_now u, cg_dra u, cg_kep u, cg_im u, (pg_mp M), (pg_mw M), (pg_mu M), (pg_mn M), (pg_mi M), (pg_mc M), (pg_md M), (qg_mo R), (qg_ms R), (qg_mq R), cg_se u, cg_sc u, cg_re u)) ho (show j / 7 < tg_people (cg_now u) by omega)) (by omega) (Nat.le_of_ble_eq_true rfl) (fun r1 h1 hq => ?_)
  obtain ⟨rfl, rfl⟩ := (show r1 = nI (1) ∧ h1 = hA t (cg_let u, cg_lc u, cg_rt u, cg_rl u, cg_ra u, cg_rf u, cg_rn u, cg_rc u, cg_now u, cg_dra u, cg_kep u, cg_im u, (pg_mp M), (pg_mw M), (pg_mu M), (pg_mn M), (pg_mi M), (pg_mc M), (pg_md M), (qg_mo R), (qg_ms R), (qg_mq R), cg_se u, cg_sc u, cg_re u) from hq)
  refine n_if_eq eX3_addPair_18 (by omega) (fun hc18 => absurd hc18 (by decide)) (fun hc18 => ?_)
  refine r_aload_n eX3_addPair_21 rfl rfl ?_
  refine r_getf (v := .ref 16) eX3_addPair_22 fX3_23 rfl rfl ?_
  refine r_iload_n eX3_addPair_25 rfl rfl ?_
  refine r_callVi1 eX3_addPair_26 lX3_62 (Or.inl ⟨_, _, _, rfl, rfl, rfl⟩) (s2_hasPerson_y_now (t := t) (u := (cg_let u, cg_lc u, cg_rt u, cg_rl u, cg_ra u, cg_rf u, cg_rn u, cg_rc u, cg_now u, cg_dra u, cg_kep u, cg_im u, (pg_mp M), (pg_mw M), (pg_mu M), (pg_mn M), (pg_mi M), (pg_mc M), (pg_md M), (qg_mo R), (qg_ms R), (qg_mq R), cg_se u, cg_sc u, cg_re u)) ho (show j % 7 < tg_people (cg_now u) by omega)) (by omega) (Nat.le_of_ble_eq_true rfl) (fun r1 h1 hq => ?_)
  obtain ⟨rfl, rfl⟩ := (show r1 = nI (1) ∧ h1 = hA t (cg_let u, cg_lc u, cg_rt u, cg_rl u, cg_ra u, cg_rf u, cg_rn u, cg_rc u, cg_now u, cg_dra u, cg_kep u, cg_im u, (pg_mp M), (pg_mw M), (pg_mu M), (pg_mn M), (pg_mi M), (pg_mc M), (pg_md M), (qg_mo R), (qg_ms R), (qg_mq R), cg_se u, cg_sc u, cg_re u) from hq)
  refine n_if_eq eX3_addPair_29 (by omega) (fun hc29 => absurd hc29 (by decide)) (fun hc29 => ?_)
  refine r_iload_n eX3_addPair_32 rfl rfl ?_
  refine r_iload_n eX3_addPair_33 rfl rfl ?_
  refine n_icmp_ne eX3_addPair_34 (by omega) (by omega) (fun hc34 => ?_) (fun hc34 => absurd hc34 (by omega))
  refine r_aload_n eX3_addPair_39 rfl rfl ?_
  refine r_getf (v := .ref 40) eX3_addPair_40 fX3_36 rfl rfl ?_
  refine r_getf (v := .ref 53) eX3_addPair_43 fX3_220 rfl rfl ?_
  refine r_iload_n eX3_addPair_46 rfl rfl ?_
  refine n_iald (f := (pg_md M)) (j := j % 7) eX3_addPair_47 rfl rfl (by omega) (by decide) ?_
  refine r_iload_n eX3_addPair_48 rfl rfl ?_
  refine n_shr eX3_addPair_49 (by omega) (by omega) ?_
  refine n_iconst 1 eX3_addPair_50 rfl ?_
  refine n_and eX3_addPair_51 ?_
  refine n_if_eq eX3_addPair_52 (by omega) (fun hc52 => ?_) (fun hc52 => absurd hc52 (by omega))
  refine r_aload_n eX3_addPair_57 rfl rfl ?_
  refine r_getf (v := .ref 40) eX3_addPair_58 fX3_36 rfl rfl ?_
  refine r_getf (v := .ref 53) eX3_addPair_61 fX3_220 rfl rfl ?_
  refine r_iload_n eX3_addPair_64 rfl rfl ?_
  refine r_dup2 eX3_addPair_65 rfl rfl ?_
  refine n_iald (f := (pg_md M)) (j := j % 7) eX3_addPair_66 rfl rfl (by omega) (by decide) ?_
  refine n_iconst 1 eX3_addPair_67 rfl ?_
  refine r_iload_n eX3_addPair_68 rfl rfl ?_
  refine n_shl eX3_addPair_69 (by omega) (by omega) ?_
  refine n_or eX3_addPair_70 ?_
  refine cw_md (j := j % 7) (v := ((pg_md M) (j % 7)) ||| (1 * 2 ^ (j / 7))) eX3_addPair_71 rfl rfl (by omega) ?_
  refine n_iconst 1 eX3_addPair_72 rfl ?_
  exact z_iret eX3_addPair_73 rfl (by decide) ⟨_, rfl, rfl, rfl⟩
theorem s3_addPair_n {t : zMod} {u : zCls} {T : zTown} (hn : tg_people (cg_now u) = tg_people T) (ho : tOk (cg_now u)) {M : zMp} {R : zMr} (hM : pPr M T) {j : Nat} (hj : j < 49) (h : ¬ tAddB T j = true) : Mi mX3_addPair 3 [.ref 11, .int (nI (j))] (hA t (cg_let u, cg_lc u, cg_rt u, cg_rl u, cg_ra u, cg_rf u, cg_rn u, cg_rc u, cg_now u, cg_dra u, cg_kep u, cg_im u, (pg_mp M), (pg_mw M), (pg_mu M), (pg_mn M), (pg_mi M), (pg_mc M), (pg_md M), (qg_mo R), (qg_ms R), (qg_mq R), cg_se u, cg_sc u, cg_re u)) (fun r h' => r = nI 0 ∧ h' = hA t (cg_let u, cg_lc u, cg_rt u, cg_rl u, cg_ra u, cg_rf u, cg_rn u, cg_rc u, cg_now u, cg_dra u, cg_kep u, cg_im u, (pg_mp M), (pg_mw M), (pg_mu M), (pg_mn M), (pg_mi M), (pg_mc M), (pg_md M), (qg_mo R), (qg_ms R), (qg_mq R), cg_se u, cg_sc u, cg_re u)) := by
  by_cases hd : j / 7 < tg_people T
  · by_cases hp : j % 7 < tg_people T
    · by_cases he : j / 7 = j % 7
      · exact s3_addPair_n3 hn ho hM hj hd hp he
      · refine s3_addPair_n4 hn ho hM hj hd hp he ?_
        cases hh : tHd T (j % 7) (j / 7) with
        | true => rfl
        | false => exact absurd (decide_eq_true ⟨hd, hp, he, hh⟩) h
    · exact s3_addPair_n2 hn ho hM hj hd (by omega)
  · exact s3_addPair_n1 hn ho hM hj (by omega)
set_option maxHeartbeats 1000000 in
set_option maxRecDepth 100000 in
theorem s3_dropPair {t : zMod} {u : zCls} {M : zMp} {R : zMr} {j : Nat} (hj : j < 49) (hm : pg_md M (j % 7) < 128) : Mv mX3_dropPair 2 [.ref 11, .int (nI (j))] (hA t (cg_let u, cg_lc u, cg_rt u, cg_rl u, cg_ra u, cg_rf u, cg_rn u, cg_rc u, cg_now u, cg_dra u, cg_kep u, cg_im u, (pg_mp M), (pg_mw M), (pg_mu M), (pg_mn M), (pg_mi M), (pg_mc M), (pg_md M), (qg_mo R), (qg_ms R), (qg_mq R), cg_se u, cg_sc u, cg_re u)) (fun h' => h' = hA t (cg_let u, cg_lc u, cg_rt u, cg_rl u, cg_ra u, cg_rf u, cg_rn u, cg_rc u, cg_now u, cg_dra u, cg_kep u, cg_im u, (pg_mp (pDrop M j)), (pg_mw (pDrop M j)), (pg_mu (pDrop M j)), (pg_mn (pDrop M j)), (pg_mi (pDrop M j)), (pg_mc (pDrop M j)), (pg_md (pDrop M j)), (qg_mo R), (qg_ms R), (qg_mq R), cg_se u, cg_sc u, cg_re u)) := by
  have hpw := zpow7 (show j / 7 < 7 by omega)
  refine Mv.of (by decide) rfl rfl (Nat.le_of_ble_eq_true rfl) ?_
  refine r_aload_n eX3_dropPair_0 rfl rfl ?_
  refine r_getf (v := .ref 40) eX3_dropPair_1 fX3_36 rfl rfl ?_
  refine r_getf (v := .ref 53) eX3_dropPair_4 fX3_220 rfl rfl ?_
  refine r_iload_n eX3_dropPair_7 rfl rfl ?_
  refine r_callSi1 eX3_dropPair_8 lX3_163 (s3_holderOf (by omega)) (by omega) (Nat.le_of_ble_eq_true rfl) (fun r1 h1 hq => ?_)
  obtain ⟨rfl, rfl⟩ := hq
  refine r_dup2 eX3_dropPair_11 rfl rfl ?_
  refine n_iald (f := (pg_md M)) (j := j % 7) eX3_dropPair_12 rfl rfl (by omega) (by decide) ?_
  refine n_iconst 1 eX3_dropPair_13 rfl ?_
  refine r_iload_n eX3_dropPair_14 rfl rfl ?_
  refine r_callSi1 eX3_dropPair_15 lX3_160 (s3_doorOf (by omega)) (by omega) (Nat.le_of_ble_eq_true rfl) (fun r1 h1 hq => ?_)
  obtain ⟨rfl, rfl⟩ := hq
  refine n_shl eX3_dropPair_18 (by omega) (by omega) ?_
  refine r_iconst (v := (-1)) eX3_dropPair_19 rfl ?_
  refine r_ixor eX3_dropPair_20 ?_
  refine r_iand eX3_dropPair_21 ?_
  refine cw_md (j := j % 7) (v := zclr (pg_md M (j % 7)) (j / 7)) eX3_dropPair_22 rfl (zclr_is _ hm _ (by omega)) (by omega) ?_
  exact z_vret eX3_dropPair_23 ⟨rfl, rfl⟩
set_option maxHeartbeats 1000000 in
set_option maxRecDepth 100000 in
theorem s3_allOutBy {t : zMod} {u : zCls} {T : zTown} (hw : tg_watch (cg_now u) = tg_watch T) (hT : tOk T) {M : zMp} {R : zMr} (hM : pPr M T) (hR : ∀ i, qg_ms R i ≤ 2147483647) {mi : Nat} (hmi : mi < 2 ^ 31) : Mi mX3_allOutBy 5 [.ref 11, .int (nI (mi))] (hA t (cg_let u, cg_lc u, cg_rt u, cg_rl u, cg_ra u, cg_rf u, cg_rn u, cg_rc u, cg_now u, cg_dra u, cg_kep u, cg_im u, (pg_mp M), (pg_mw M), (pg_mu M), (pg_mn M), (pg_mi M), (pg_mc M), (pg_md M), (qg_mo R), (qg_ms R), (qg_mq R), cg_se u, cg_sc u, cg_re u)) (fun r h' => ∃ R' : zMr, h' = hA t (cg_let u, cg_lc u, cg_rt u, cg_rl u, cg_ra u, cg_rf u, cg_rn u, cg_rc u, cg_now u, cg_dra u, cg_kep u, cg_im u, (pg_mp M), (pg_mw M), (pg_mu M), (pg_mn M), (pg_mi M), (pg_mc M), (pg_md M), (qg_mo R'), (qg_ms R'), (qg_mq R'), cg_se u, cg_sc u, cg_re u) ∧ r = nI (tOne T mi).toNat ∧ ∀ i, qg_ms R' i ≤ 2147483647) := by
  have h7 := hT.1
  refine Mi.of (by decide) rfl (Nat.le_of_ble_eq_true rfl) ?_
  refine r_aload_n eX3_allOutBy_0 rfl rfl ?_
  refine r_getf (v := .ref 40) eX3_allOutBy_1 fX3_36 rfl rfl ?_
  refine r_aload_n eX3_allOutBy_4 rfl rfl ?_
  refine r_getf (v := .ref 16) eX3_allOutBy_5 fX3_23 rfl rfl ?_
  refine r_getf (v := .int (nI (tg_watch (cg_now u)))) eX3_allOutBy_8 fX3_87 rfl rfl ?_
  refine n_iconst 0 eX3_allOutBy_11 rfl ?_
  refine n_iconst 1 eX3_allOutBy_12 rfl ?_
  refine r_callVv3 eX3_allOutBy_13 lX3_147 (Or.inl ⟨_, _, _, rfl, rfl, rfl⟩) (s0_passT (t := t) (u := (cg_let u, cg_lc u, cg_rt u, cg_rl u, cg_ra u, cg_rf u, cg_rn u, cg_rc u, cg_now u, cg_dra u, cg_kep u, cg_im u, (pg_mp M), (pg_mw M), (pg_mu M), (pg_mn M), (pg_mi M), (pg_mc M), (pg_md M), (qg_mo R), (qg_ms R), (qg_mq R), cg_se u, cg_sc u, cg_re u)) (T := T) hT hM hR (by rw [hw]; exact hT.2.2.2.1) (by omega) (by omega)) (by omega) (Nat.le_of_ble_eq_true rfl) (fun h1 hq => ?_)
  obtain ⟨R13, hh, hR13⟩ := hq
  obtain rfl := (show h1 = hA t (cg_let u, cg_lc u, cg_rt u, cg_rl u, cg_ra u, cg_rf u, cg_rn u, cg_rc u, cg_now u, cg_dra u, cg_kep u, cg_im u, (pg_mp M), (pg_mw M), (pg_mu M), (pg_mn M), (pg_mi M), (pg_mc M), (pg_md M), (qg_mo R13), (qg_ms R13), (qg_mq R13), cg_se u, cg_sc u, cg_re u) from hh)
  rw [hw] at hR13
  refine r_aload_n eX3_allOutBy_16 rfl rfl ?_
  refine r_getf (v := .ref 40) eX3_allOutBy_17 fX3_36 rfl rfl ?_
  refine r_callVi0 eX3_allOutBy_20 lX3_151 (Or.inl ⟨_, _, _, rfl, rfl, rfl⟩) (s0_lastOutT (t := t) (u := (cg_let u, cg_lc u, cg_rt u, cg_rl u, cg_ra u, cg_rf u, cg_rn u, cg_rc u, cg_now u, cg_dra u, cg_kep u, cg_im u, (pg_mp M), (pg_mw M), (pg_mu M), (pg_mn M), (pg_mi M), (pg_mc M), (pg_md M), (qg_mo R13), (qg_ms R13), (qg_mq R13), cg_se u, cg_sc u, cg_re u)) (T := T) hT hM.1 hR13) (by omega) (Nat.le_of_ble_eq_true rfl) (fun r1 h1 hq => ?_)
  obtain ⟨rfl, rfl⟩ := (show r1 = nI (zmx (qg_mo R13) (tg_people T)) ∧ h1 = hA t (cg_let u, cg_lc u, cg_rt u, cg_rl u, cg_ra u, cg_rf u, cg_rn u, cg_rc u, cg_now u, cg_dra u, cg_kep u, cg_im u, (pg_mp M), (pg_mw M), (pg_mu M), (pg_mn M), (pg_mi M), (pg_mc M), (pg_md M), (qg_mo R13), (qg_ms R13), (qg_mq R13), cg_se u, cg_sc u, cg_re u) from hq)
  have hz20 := zV2_or (show zV2 1000000 2147483647 500000 (tAll T 0 0) (zmx (qg_mo R13) (tg_people T)) from qRs_all hR13)
  refine r_istore_n eX3_allOutBy_23 rfl (by decide) ?_
  refine r_iload_n eX3_allOutBy_24 rfl rfl ?_
  refine n_ldc 2147483647 eX3_allOutBy_25 kX3_188 rfl ?_
  refine n_icmp_eq eX3_allOutBy_27 (by omega) (by omega) (fun hc27 => ?_) (fun hc27 => ?_)
  · refine n_iconst 0 eX3_allOutBy_39 rfl ?_
    have q9 : tOne T mi = false := decide_eq_false (fun z => by omega)
    rw [q9]
    exact z_iret eX3_allOutBy_40 rfl (by decide) ⟨_, rfl, R13, rfl, rfl, hR13.2.1⟩
  · refine r_iload_n eX3_allOutBy_30 rfl rfl ?_
    refine r_iload_n eX3_allOutBy_31 rfl rfl ?_
    refine n_icmp_gt eX3_allOutBy_32 (by omega) (by omega) (fun hc32 => ?_) (fun hc32 => ?_)
    · refine n_iconst 0 eX3_allOutBy_39 rfl ?_
      have q9 : tOne T mi = false := decide_eq_false (fun z => by omega)
      rw [q9]
      exact z_iret eX3_allOutBy_40 rfl (by decide) ⟨_, rfl, R13, rfl, rfl, hR13.2.1⟩
    · refine n_iconst 1 eX3_allOutBy_35 rfl ?_
      refine r_goto eX3_allOutBy_36 ?_
      have q9 : tOne T mi = true := decide_eq_true ⟨by omega, by omega⟩
      rw [q9]
      exact z_iret eX3_allOutBy_40 rfl (by decide) ⟨_, rfl, R13, rfl, rfl, hR13.2.1⟩
set_option maxHeartbeats 1000000 in
set_option maxRecDepth 100000 in
theorem s3_one_l {t : zMod} {u : zCls} {T : zTown} (hn : tg_people (cg_now u) = tg_people T) (ho : tOk (cg_now u)) (hw : tg_watch (cg_now u) = tg_watch T) (hT : tOk T) (hk11 : tg_keys T ≤ 11) {mi : Nat} (hmi : mi < 2 ^ 31) {fi : Nat} : ∀ (k : Nat) (pr : Nat) (M : zMp) (R : zMr) (v4 : Value) (hd : pr + k = 49) (hM : pPr M T) (hR : ∀ i, qg_ms R i ≤ 2147483647), Rq mX3_oneMoreHelps 6 none 2 [.ref 11, .int (nI (fi)), .int (nI (mi)), .int (nI (pr)), v4] [] (hA t (cg_let u, cg_lc u, cg_rt u, cg_rl u, cg_ra u, cg_rf u, cg_rn u, cg_rc u, cg_now u, cg_dra u, cg_kep u, cg_im u, (pg_mp M), (pg_mw M), (pg_mu M), (pg_mn M), (pg_mi M), (pg_mc M), (pg_md M), (qg_mo R), (qg_ms R), (qg_mq R), cg_se u, cg_sc u, cg_re u)) (fun r h' => ∃ x, r = some x ∧ ∃ (M' : zMp) (R' : zMr), h' = hA t (cg_let u, cg_lc u, cg_rt u, cg_rl u, cg_ra u, cg_rf u, cg_rn u, cg_rc u, cg_now u, cg_dra u, cg_kep u, cg_im u, (pg_mp M'), (pg_mw M'), (pg_mu M'), (pg_mn M'), (pg_mi M'), (pg_mc M'), (pg_md M'), (qg_mo R'), (qg_ms R'), (qg_mq R'), cg_se u, cg_sc u, cg_re u) ∧ x = nI (zany (tF1 T mi) pr k).toNat ∧ pPr M' T ∧ ∀ i, qg_ms R' i ≤ 2147483647) := by
  intro k
  induction k with
  | zero =>
    intro pr M R v4 hd hM hR
    refine r_iload_n eX3_oneMoreHelps_2 rfl rfl ?_
    refine n_bipush 49 eX3_oneMoreHelps_3 rfl ?_
    refine n_icmp_ge eX3_oneMoreHelps_5 (by omega) (by omega) (fun hc5 => ?_) (fun hc5 => absurd hc5 (by omega))
    refine n_iconst 0 eX3_oneMoreHelps_41 rfl ?_
    exact z_iret eX3_oneMoreHelps_42 rfl (by decide) ⟨_, rfl, M, R, rfl, rfl, hM, hR⟩
  | succ k ih =>
    intro pr M R v4 hd hM hR
    have h7 := hT.1
    by_cases hadd : tAddB T pr = true
    · have hy := hadd
      refine r_iload_n eX3_oneMoreHelps_2 rfl rfl ?_
      refine n_bipush 49 eX3_oneMoreHelps_3 rfl ?_
      refine n_icmp_ge eX3_oneMoreHelps_5 (by first | omega | exact Nat.lt_trans (Bool.toNat_lt _) (by decide)) (by first | omega | exact Nat.lt_trans (Bool.toNat_lt _) (by decide)) (fun hc5 => absurd hc5 (by omega)) (fun hc5 => ?_)
      refine r_aload_n eX3_oneMoreHelps_8 rfl rfl ?_
      refine r_iload_n eX3_oneMoreHelps_9 rfl rfl ?_
      refine r_callVi1 eX3_oneMoreHelps_10 lX3_154 (Or.inl ⟨_, _, _, rfl, rfl, rfl⟩) (s3_addPair_y (t := t) (u := u) (T := T) (M := M) (R := R) hn ho hM (show pr < 49 by omega) hy) (by omega) (Nat.le_of_ble_eq_true rfl) (fun r1 h1 hq => ?_)
      obtain ⟨rfl, rfl⟩ := (show r1 = nI (1) ∧ h1 = hA t (cg_let u, cg_lc u, cg_rt u, cg_rl u, cg_ra u, cg_rf u, cg_rn u, cg_rc u, cg_now u, cg_dra u, cg_kep u, cg_im u, (pg_mp (pAdd M pr)), (pg_mw (pAdd M pr)), (pg_mu (pAdd M pr)), (pg_mn (pAdd M pr)), (pg_mi (pAdd M pr)), (pg_mc (pAdd M pr)), (pg_md (pAdd M pr)), (qg_mo R), (qg_ms R), (qg_mq R), cg_se u, cg_sc u, cg_re u) from hq)
      refine n_if_eq eX3_oneMoreHelps_13 (by first | omega | exact Nat.lt_trans (Bool.toNat_lt _) (by decide)) (fun hc13 => absurd hc13 (by decide)) (fun hc13 => ?_)
      refine r_aload_n eX3_oneMoreHelps_16 rfl rfl ?_
      refine r_iload_n eX3_oneMoreHelps_17 rfl rfl ?_
      refine r_callVi1 eX3_oneMoreHelps_18 lX3_169 (Or.inl ⟨_, _, _, rfl, rfl, rfl⟩) (s3_allOutBy (t := t) (u := u) (T := tAdd T (pr / 7) (pr % 7)) (M := pAdd M pr) (R := R) hw (tAdd_ok hT (by omega)) (pPr_add hT hM hy) hR hmi) (by omega) (Nat.le_of_ble_eq_true rfl) (fun r1 h1 hq => ?_)
      obtain ⟨R18, hh, hr, hR18⟩ := hq
      obtain rfl := (show h1 = hA t (cg_let u, cg_lc u, cg_rt u, cg_rl u, cg_ra u, cg_rf u, cg_rn u, cg_rc u, cg_now u, cg_dra u, cg_kep u, cg_im u, (pg_mp (pAdd M pr)), (pg_mw (pAdd M pr)), (pg_mu (pAdd M pr)), (pg_mn (pAdd M pr)), (pg_mi (pAdd M pr)), (pg_mc (pAdd M pr)), (pg_md (pAdd M pr)), (qg_mo R18), (qg_ms R18), (qg_mq R18), cg_se u, cg_sc u, cg_re u) from hh)
      obtain rfl := (show r1 = nI ((tOne (tAdd T (pr / 7) (pr % 7)) mi).toNat) from hr)
      have hbl18 := Bool.toNat_lt (tOne (tAdd T (pr / 7) (pr % 7)) mi)
      refine r_istore eX3_oneMoreHelps_21 (by decide) ?_
      refine r_aload_n eX3_oneMoreHelps_23 rfl rfl ?_
      refine r_iload_n eX3_oneMoreHelps_24 rfl rfl ?_
      refine r_callVv1 eX3_oneMoreHelps_25 lX3_157 (Or.inl ⟨_, _, _, rfl, rfl, rfl⟩) (s3_dropPair (t := t) (u := u) (M := (pAdd M pr)) (R := R18) (show pr < 49 by omega) ((pPr_add hT hM hy).2 (pr % 7) (of_decide_eq_true hy).2.1).2.2.2.2.2.1) (by omega) (Nat.le_of_ble_eq_true rfl) (fun h1 hq => ?_)
      obtain rfl := (show h1 = hA t (cg_let u, cg_lc u, cg_rt u, cg_rl u, cg_ra u, cg_rf u, cg_rn u, cg_rc u, cg_now u, cg_dra u, cg_kep u, cg_im u, (pg_mp (pDrop (pAdd M pr) pr)), (pg_mw (pDrop (pAdd M pr) pr)), (pg_mu (pDrop (pAdd M pr) pr)), (pg_mn (pDrop (pAdd M pr) pr)), (pg_mi (pDrop (pAdd M pr) pr)), (pg_mc (pDrop (pAdd M pr) pr)), (pg_md (pDrop (pAdd M pr) pr)), (qg_mo R18), (qg_ms R18), (qg_mq R18), cg_se u, cg_sc u, cg_re u) from hq)
      have hMd := pPr_drop (pPr_add hT hM hy) hy
      refine r_iload eX3_oneMoreHelps_28 rfl ?_
      refine n_if_eq eX3_oneMoreHelps_30 (by first | omega | exact Nat.lt_trans (Bool.toNat_lt _) (by decide)) (fun hc30 => ?_) (fun hc30 => ?_)
      · refine n_iinc (k := 1) eX3_oneMoreHelps_35 rfl (by decide) rfl ?_
        refine r_goto eX3_oneMoreHelps_38 ?_
        have hF : tF1 T mi pr = false := by
          have h8 := zt0 hc30
          unfold tF1
          rw [h8, Bool.and_false]
        rw [zany, hF, Bool.false_or]
        exact ih (pr + 1) (pDrop (pAdd M pr) pr) R18 (.int (nI ((tOne (tAdd T (pr / 7) (pr % 7)) mi).toNat))) (by omega) hMd hR18
      · refine n_iconst 1 eX3_oneMoreHelps_33 rfl ?_
        have hF : tF1 T mi pr = true := by
          have h8 := zt1 hc30
          unfold tF1
          rw [h8, hy]; rfl
        rw [zany, hF, Bool.true_or]
        exact z_iret eX3_oneMoreHelps_34 rfl (by decide) ⟨_, rfl, _, _, rfl, rfl, hMd, hR18⟩
    · have hy := hadd
      refine r_iload_n eX3_oneMoreHelps_2 rfl rfl ?_
      refine n_bipush 49 eX3_oneMoreHelps_3 rfl ?_
      refine n_icmp_ge eX3_oneMoreHelps_5 (by omega) (by omega) (fun hc5 => absurd hc5 (by omega)) (fun hc5 => ?_)
      refine r_aload_n eX3_oneMoreHelps_8 rfl rfl ?_
      refine r_iload_n eX3_oneMoreHelps_9 rfl rfl ?_
      refine r_callVi1 eX3_oneMoreHelps_10 lX3_154 (Or.inl ⟨_, _, _, rfl, rfl, rfl⟩) (s3_addPair_n (t := t) (u := u) (T := T) (M := M) (R := R) hn ho hM (show pr < 49 by omega) hy) (by omega) (Nat.le_of_ble_eq_true rfl) (fun r1 h1 hq => ?_)
      obtain ⟨rfl, rfl⟩ := (show r1 = nI (0) ∧ h1 = hA t (cg_let u, cg_lc u, cg_rt u, cg_rl u, cg_ra u, cg_rf u, cg_rn u, cg_rc u, cg_now u, cg_dra u, cg_kep u, cg_im u, (pg_mp M), (pg_mw M), (pg_mu M), (pg_mn M), (pg_mi M), (pg_mc M), (pg_md M), (qg_mo R), (qg_ms R), (qg_mq R), cg_se u, cg_sc u, cg_re u) from hq)
      refine n_if_eq eX3_oneMoreHelps_13 (by omega) (fun hc13 => ?_) (fun hc13 => absurd hc13 (by decide))
      refine n_iinc (k := 1) eX3_oneMoreHelps_35 rfl (by decide) rfl ?_
      refine r_goto eX3_oneMoreHelps_38 ?_
      have hF : tF1 T mi pr = false := by
        unfold tF1
        rw [Bool.not_eq_true _ |>.mp hy, Bool.false_and]
      rw [zany, hF, Bool.false_or]
      exact ih (pr + 1) M R v4 (by omega) hM hR
set_option maxHeartbeats 1000000 in
set_option maxRecDepth 100000 in
theorem s3_oneMore {t : zMod} {u : zCls} {T : zTown} (hn : tg_people (cg_now u) = tg_people T) (ho : tOk (cg_now u)) (hw : tg_watch (cg_now u) = tg_watch T) (hT : tOk T) (hk11 : tg_keys T ≤ 11) {mi : Nat} (hmi : mi < 2 ^ 31) {fi k : Nat} (hk : fi + k = 49) {M : zMp} {R : zMr} (hM : pPr M T) (hR : ∀ i, qg_ms R i ≤ 2147483647) : Mi mX3_oneMoreHelps 6 [.ref 11, .int (nI (fi)), .int (nI (mi))] (hA t (cg_let u, cg_lc u, cg_rt u, cg_rl u, cg_ra u, cg_rf u, cg_rn u, cg_rc u, cg_now u, cg_dra u, cg_kep u, cg_im u, (pg_mp M), (pg_mw M), (pg_mu M), (pg_mn M), (pg_mi M), (pg_mc M), (pg_md M), (qg_mo R), (qg_ms R), (qg_mq R), cg_se u, cg_sc u, cg_re u)) (fun r h' => ∃ (M' : zMp) (R' : zMr), h' = hA t (cg_let u, cg_lc u, cg_rt u, cg_rl u, cg_ra u, cg_rf u, cg_rn u, cg_rc u, cg_now u, cg_dra u, cg_kep u, cg_im u, (pg_mp M'), (pg_mw M'), (pg_mu M'), (pg_mn M'), (pg_mi M'), (pg_mc M'), (pg_md M'), (qg_mo R'), (qg_ms R'), (qg_mq R'), cg_se u, cg_sc u, cg_re u) ∧ r = nI (zany (tF1 T mi) fi k).toNat ∧ pPr M' T ∧ ∀ i, qg_ms R' i ≤ 2147483647) := by
  refine Mi.of (by decide) rfl (Nat.le_of_ble_eq_true rfl) ?_
  refine r_iload_n eX3_oneMoreHelps_0 rfl rfl ?_
  refine r_istore_n eX3_oneMoreHelps_1 rfl (by decide) ?_
  exact s3_one_l hn ho hw hT hk11 hmi k fi M R _ hk hM hR
set_option maxHeartbeats 1000000 in
set_option maxRecDepth 100000 in
theorem s3_two_l {t : zMod} {u : zCls} {T : zTown} (hn : tg_people (cg_now u) = tg_people T) (ho : tOk (cg_now u)) (hw : tg_watch (cg_now u) = tg_watch T) (hT : tOk T) (hk10 : tg_keys T ≤ 10) {mi : Nat} (hmi : mi < 2 ^ 31) : ∀ (k : Nat) (pr : Nat) (M : zMp) (R : zMr) (v3 : Value) (hd : pr + k = 49) (hM : pPr M T) (hR : ∀ i, qg_ms R i ≤ 2147483647), Rq mX3_twoMoreHelp 7 none 2 [.ref 11, .int (nI (mi)), .int (nI (pr)), v3] [] (hA t (cg_let u, cg_lc u, cg_rt u, cg_rl u, cg_ra u, cg_rf u, cg_rn u, cg_rc u, cg_now u, cg_dra u, cg_kep u, cg_im u, (pg_mp M), (pg_mw M), (pg_mu M), (pg_mn M), (pg_mi M), (pg_mc M), (pg_md M), (qg_mo R), (qg_ms R), (qg_mq R), cg_se u, cg_sc u, cg_re u)) (fun r h' => ∃ x, r = some x ∧ ∃ (M' : zMp) (R' : zMr), h' = hA t (cg_let u, cg_lc u, cg_rt u, cg_rl u, cg_ra u, cg_rf u, cg_rn u, cg_rc u, cg_now u, cg_dra u, cg_kep u, cg_im u, (pg_mp M'), (pg_mw M'), (pg_mu M'), (pg_mn M'), (pg_mi M'), (pg_mc M'), (pg_md M'), (qg_mo R'), (qg_ms R'), (qg_mq R'), cg_se u, cg_sc u, cg_re u) ∧ x = nI (zany (tF2 T mi) pr k).toNat ∧ pPr M' T ∧ ∀ i, qg_ms R' i ≤ 2147483647) := by
  intro k
  induction k with
  | zero =>
    intro pr M R v3 hd hM hR
    refine r_iload_n eX3_twoMoreHelp_2 rfl rfl ?_
    refine n_bipush 49 eX3_twoMoreHelp_3 rfl ?_
    refine n_icmp_ge eX3_twoMoreHelp_5 (by omega) (by omega) (fun hc5 => ?_) (fun hc5 => absurd hc5 (by omega))
    refine n_iconst 0 eX3_twoMoreHelp_42 rfl ?_
    exact z_iret eX3_twoMoreHelp_43 rfl (by decide) ⟨_, rfl, M, R, rfl, rfl, hM, hR⟩
  | succ k ih =>
    intro pr M R v3 hd hM hR
    have h7 := hT.1
    by_cases hadd : tAddB T pr = true
    · have hy := hadd
      refine r_iload_n eX3_twoMoreHelp_2 rfl rfl ?_
      refine n_bipush 49 eX3_twoMoreHelp_3 rfl ?_
      refine n_icmp_ge eX3_twoMoreHelp_5 (by first | omega | exact Nat.lt_trans (Bool.toNat_lt _) (by decide)) (by first | omega | exact Nat.lt_trans (Bool.toNat_lt _) (by decide)) (fun hc5 => absurd hc5 (by omega)) (fun hc5 => ?_)
      refine r_aload_n eX3_twoMoreHelp_8 rfl rfl ?_
      refine r_iload_n eX3_twoMoreHelp_9 rfl rfl ?_
      refine r_callVi1 eX3_twoMoreHelp_10 lX3_154 (Or.inl ⟨_, _, _, rfl, rfl, rfl⟩) (s3_addPair_y (t := t) (u := u) (T := T) (M := M) (R := R) hn ho hM (show pr < 49 by omega) hy) (by omega) (Nat.le_of_ble_eq_true rfl) (fun r1 h1 hq => ?_)
      obtain ⟨rfl, rfl⟩ := (show r1 = nI (1) ∧ h1 = hA t (cg_let u, cg_lc u, cg_rt u, cg_rl u, cg_ra u, cg_rf u, cg_rn u, cg_rc u, cg_now u, cg_dra u, cg_kep u, cg_im u, (pg_mp (pAdd M pr)), (pg_mw (pAdd M pr)), (pg_mu (pAdd M pr)), (pg_mn (pAdd M pr)), (pg_mi (pAdd M pr)), (pg_mc (pAdd M pr)), (pg_md (pAdd M pr)), (qg_mo R), (qg_ms R), (qg_mq R), cg_se u, cg_sc u, cg_re u) from hq)
      refine n_if_eq eX3_twoMoreHelp_13 (by first | omega | exact Nat.lt_trans (Bool.toNat_lt _) (by decide)) (fun hc13 => absurd hc13 (by decide)) (fun hc13 => ?_)
      refine r_aload_n eX3_twoMoreHelp_16 rfl rfl ?_
      refine r_iload_n eX3_twoMoreHelp_17 rfl rfl ?_
      refine n_iconst 1 eX3_twoMoreHelp_18 rfl ?_
      refine n_add eX3_twoMoreHelp_19 ?_
      refine r_iload_n eX3_twoMoreHelp_20 rfl rfl ?_
      refine r_callVi2 eX3_twoMoreHelp_21 lX3_172 (Or.inl ⟨_, _, _, rfl, rfl, rfl⟩) (s3_oneMore (t := t) (u := u) (T := tAdd T (pr / 7) (pr % 7)) (fi := pr + 1) (k := 48 - pr) hn ho hw (tAdd_ok hT (by omega)) (Nat.succ_le_succ hk10) hmi (by omega) (M := pAdd M pr) (R := R) (pPr_add hT hM hy) hR) (by omega) (Nat.le_of_ble_eq_true rfl) (fun r1 h1 hq => ?_)
      obtain ⟨M21, R21, hh, hr, hM21, hR21⟩ := hq
      obtain rfl := (show h1 = hA t (cg_let u, cg_lc u, cg_rt u, cg_rl u, cg_ra u, cg_rf u, cg_rn u, cg_rc u, cg_now u, cg_dra u, cg_kep u, cg_im u, (pg_mp M21), (pg_mw M21), (pg_mu M21), (pg_mn M21), (pg_mi M21), (pg_mc M21), (pg_md M21), (qg_mo R21), (qg_ms R21), (qg_mq R21), cg_se u, cg_sc u, cg_re u) from hh)
      obtain rfl := (show r1 = nI ((zany (tF1 (tAdd T (pr / 7) (pr % 7)) mi) (pr + 1) (48 - pr)).toNat) from hr)
      refine r_istore_n eX3_twoMoreHelp_24 rfl (by decide) ?_
      refine r_aload_n eX3_twoMoreHelp_25 rfl rfl ?_
      refine r_iload_n eX3_twoMoreHelp_26 rfl rfl ?_
      refine r_callVv1 eX3_twoMoreHelp_27 lX3_157 (Or.inl ⟨_, _, _, rfl, rfl, rfl⟩) (s3_dropPair (t := t) (u := u) (M := M21) (R := R21) (show pr < 49 by omega) (hM21.2 (pr % 7) (of_decide_eq_true hy).2.1).2.2.2.2.2.1) (by omega) (Nat.le_of_ble_eq_true rfl) (fun h1 hq => ?_)
      obtain rfl := (show h1 = hA t (cg_let u, cg_lc u, cg_rt u, cg_rl u, cg_ra u, cg_rf u, cg_rn u, cg_rc u, cg_now u, cg_dra u, cg_kep u, cg_im u, (pg_mp (pDrop M21 pr)), (pg_mw (pDrop M21 pr)), (pg_mu (pDrop M21 pr)), (pg_mn (pDrop M21 pr)), (pg_mi (pDrop M21 pr)), (pg_mc (pDrop M21 pr)), (pg_md (pDrop M21 pr)), (qg_mo R21), (qg_ms R21), (qg_mq R21), cg_se u, cg_sc u, cg_re u) from hq)
      have hMd := pPr_drop hM21 hy
      refine r_iload_n eX3_twoMoreHelp_30 rfl rfl ?_
      refine n_if_eq eX3_twoMoreHelp_31 (by first | omega | exact Nat.lt_trans (Bool.toNat_lt _) (by decide)) (fun hc31 => ?_) (fun hc31 => ?_)
      · refine n_iinc (k := 1) eX3_twoMoreHelp_36 rfl (by decide) rfl ?_
        refine r_goto eX3_twoMoreHelp_39 ?_
        have hF : tF2 T mi pr = false := by
          have h8 := zt0 hc31
          unfold tF2
          rw [h8, Bool.and_false]
        rw [zany, hF, Bool.false_or]
        exact ih (pr + 1) (pDrop M21 pr) R21 (.int (nI ((zany (tF1 (tAdd T (pr / 7) (pr % 7)) mi) (pr + 1) (48 - pr)).toNat))) (by omega) hMd hR21
      · refine n_iconst 1 eX3_twoMoreHelp_34 rfl ?_
        have hF : tF2 T mi pr = true := by
          have h8 := zt1 hc31
          unfold tF2
          rw [h8, hy]; rfl
        rw [zany, hF, Bool.true_or]
        exact z_iret eX3_twoMoreHelp_35 rfl (by decide) ⟨_, rfl, _, _, rfl, rfl, hMd, hR21⟩
    · have hy := hadd
      refine r_iload_n eX3_twoMoreHelp_2 rfl rfl ?_
      refine n_bipush 49 eX3_twoMoreHelp_3 rfl ?_
      refine n_icmp_ge eX3_twoMoreHelp_5 (by omega) (by omega) (fun hc5 => absurd hc5 (by omega)) (fun hc5 => ?_)
      refine r_aload_n eX3_twoMoreHelp_8 rfl rfl ?_
      refine r_iload_n eX3_twoMoreHelp_9 rfl rfl ?_
      refine r_callVi1 eX3_twoMoreHelp_10 lX3_154 (Or.inl ⟨_, _, _, rfl, rfl, rfl⟩) (s3_addPair_n (t := t) (u := u) (T := T) (M := M) (R := R) hn ho hM (show pr < 49 by omega) hy) (by omega) (Nat.le_of_ble_eq_true rfl) (fun r1 h1 hq => ?_)
      obtain ⟨rfl, rfl⟩ := (show r1 = nI (0) ∧ h1 = hA t (cg_let u, cg_lc u, cg_rt u, cg_rl u, cg_ra u, cg_rf u, cg_rn u, cg_rc u, cg_now u, cg_dra u, cg_kep u, cg_im u, (pg_mp M), (pg_mw M), (pg_mu M), (pg_mn M), (pg_mi M), (pg_mc M), (pg_md M), (qg_mo R), (qg_ms R), (qg_mq R), cg_se u, cg_sc u, cg_re u) from hq)
      refine n_if_eq eX3_twoMoreHelp_13 (by omega) (fun hc13 => ?_) (fun hc13 => absurd hc13 (by decide))
      refine n_iinc (k := 1) eX3_twoMoreHelp_36 rfl (by decide) rfl ?_
      refine r_goto eX3_twoMoreHelp_39 ?_
      have hF : tF2 T mi pr = false := by
        unfold tF2
        rw [Bool.not_eq_true _ |>.mp hy, Bool.false_and]
      rw [zany, hF, Bool.false_or]
      exact ih (pr + 1) M R v3 (by omega) hM hR
set_option maxHeartbeats 1000000 in
set_option maxRecDepth 100000 in
theorem s3_twoMore {t : zMod} {u : zCls} {T : zTown} (hn : tg_people (cg_now u) = tg_people T) (ho : tOk (cg_now u)) (hw : tg_watch (cg_now u) = tg_watch T) (hT : tOk T) (hk10 : tg_keys T ≤ 10) {mi : Nat} (hmi : mi < 2 ^ 31) {M : zMp} {R : zMr} (hM : pPr M T) (hR : ∀ i, qg_ms R i ≤ 2147483647) : Mi mX3_twoMoreHelp 7 [.ref 11, .int (nI (mi))] (hA t (cg_let u, cg_lc u, cg_rt u, cg_rl u, cg_ra u, cg_rf u, cg_rn u, cg_rc u, cg_now u, cg_dra u, cg_kep u, cg_im u, (pg_mp M), (pg_mw M), (pg_mu M), (pg_mn M), (pg_mi M), (pg_mc M), (pg_md M), (qg_mo R), (qg_ms R), (qg_mq R), cg_se u, cg_sc u, cg_re u)) (fun r h' => ∃ (M' : zMp) (R' : zMr), h' = hA t (cg_let u, cg_lc u, cg_rt u, cg_rl u, cg_ra u, cg_rf u, cg_rn u, cg_rc u, cg_now u, cg_dra u, cg_kep u, cg_im u, (pg_mp M'), (pg_mw M'), (pg_mu M'), (pg_mn M'), (pg_mi M'), (pg_mc M'), (pg_md M'), (qg_mo R'), (qg_ms R'), (qg_mq R'), cg_se u, cg_sc u, cg_re u) ∧ r = nI (zany (tF2 T mi) 0 49).toNat ∧ pPr M' T ∧ ∀ i, qg_ms R' i ≤ 2147483647) := by
  refine Mi.of (by decide) rfl (Nat.le_of_ble_eq_true rfl) ?_
  refine n_iconst 0 eX3_twoMoreHelp_0 rfl ?_
  refine r_istore_n eX3_twoMoreHelp_1 rfl (by decide) ?_
  exact s3_two_l hn ho hw hT hk10 hmi 49 0 M R _ (Nat.zero_add _) hM hR
set_option maxHeartbeats 1000000 in
set_option maxRecDepth 100000 in
theorem s3_copies_b {t : zMod} {u : zCls} {x : Int32} (hx : x < 0) : Mi mX3_copies 9 [.ref 11, .int (x)] (hA t u) (fun r h' => r = (-4) ∧ h' = hA t (cg_let u, cg_lc u, cg_rt u, cg_rl u, cg_ra u, cg_rf u, cg_rn u, cg_rc u, cg_now u, cg_dra u, cg_kep u, cg_im u, cg_mp u, cg_mw u, cg_mu u, cg_mn u, cg_mi u, cg_mc u, cg_md u, cg_mo u, cg_ms u, cg_mq u, cg_se u, cg_sc u, (va_up (cg_re u) 4 (cg_re u 4 + 1)))) := by
  refine Mi.of (by decide) rfl (Nat.le_of_ble_eq_true rfl) ?_
  refine r_iload_n eX3_copies_0 rfl rfl ?_
  refine r_if_ge eX3_copies_1 (fun hc1 => absurd hc1 (Int32.not_le.mpr hx)) (fun hc1 => ?_)
  refine r_aload_n eX3_copies_4 rfl rfl ?_
  refine r_bipush (v := (-4)) eX3_copies_5 rfl ?_
  refine r_callVi1 eX3_copies_7 lX3_46 (Or.inl ⟨_, _, _, rfl, rfl, rfl⟩) (s3_refuse (t := t) (u := u) (x := (-4)) (c := 4) (by decide) (by decide)) (by omega) (Nat.le_of_ble_eq_true rfl) (fun r1 h1 hq => ?_)
  obtain ⟨rfl, rfl⟩ := (show r1 = (-4) ∧ h1 = hA t (cg_let u, cg_lc u, cg_rt u, cg_rl u, cg_ra u, cg_rf u, cg_rn u, cg_rc u, cg_now u, cg_dra u, cg_kep u, cg_im u, cg_mp u, cg_mw u, cg_mu u, cg_mn u, cg_mi u, cg_mc u, cg_md u, cg_mo u, cg_ms u, cg_mq u, cg_se u, cg_sc u, (va_up (cg_re u) 4 ((cg_re u) 4 + 1))) from hq)
  exact z_iret eX3_copies_10 rfl rfl ⟨_, rfl, rfl, rfl⟩
set_option maxHeartbeats 1000000 in
set_option maxRecDepth 100000 in
theorem s3_copies_k {t : zMod} {u : zCls} {T : zTown} (hc : cT (cg_now u) T) (hms : ∀ i, cg_ms u i ≤ 2147483647) {mi : Nat} (hmi : mi < 2 ^ 31) : Mi mX3_copies 9 [.ref 11, .int (nI (mi))] (hA t u) (fun r h' => ∃ (M' : zMp) (R' : zMr), h' = hA t (cg_let u, cg_lc u, cg_rt u, cg_rl u, cg_ra u, cg_rf u, cg_rn u, cg_rc u, cg_now u, cg_dra u, cg_kep u, cg_im u, (pg_mp M'), (pg_mw M'), (pg_mu M'), (pg_mn M'), (pg_mi M'), (pg_mc M'), (pg_md M'), (qg_mo R'), (qg_ms R'), (qg_mq R'), cg_se u, cg_sc u, cg_re u) ∧ r = (if tOne T mi = true then 0 else if zany (tF1 T mi) 0 49 = true then 1 else if zany (tF2 T mi) 0 49 = true then 2 else -9) ∧ (∀ i, qg_ms R' i ≤ 2147483647)) := by
  obtain ⟨he, hT, hty, hk10⟩ := id hc
  have h7 := hT.1
  have hpw9 : 2 ^ tg_people T ≤ 2 ^ 7 := Nat.pow_le_pow_right (by omega) h7
  have ho := he.ok hT
  obtain ⟨he1, he2, he3, he4, he5, he6, he7⟩ := id he
  have hwt9 := hT.2.2.2.1
  have hpp9 := Nat.two_pow_pos (tg_people T)
  refine Mi.of (by decide) rfl (Nat.le_of_ble_eq_true rfl) ?_
  refine r_iload_n eX3_copies_0 rfl rfl ?_
  refine n_if_ge eX3_copies_1 (by first | omega | exact Nat.lt_trans (Bool.toNat_lt _) (by decide)) ?_
  refine r_aload_n eX3_copies_11 rfl rfl ?_
  refine r_getf (v := .ref 40) eX3_copies_12 fX3_36 rfl rfl ?_
  refine r_aload_n eX3_copies_15 rfl rfl ?_
  refine r_getf (v := .ref 16) eX3_copies_16 fX3_23 rfl rfl ?_
  refine r_callVv1 eX3_copies_19 lX3_166 (Or.inl ⟨_, _, _, rfl, rfl, rfl⟩) (s0_prepareT_now (t := t) (u := u) (T := T) hc) (by omega) (Nat.le_of_ble_eq_true rfl) (fun h1 hq => ?_)
  obtain ⟨M19, hh, hM19⟩ := hq
  obtain rfl := (show h1 = hA t (cg_let u, cg_lc u, cg_rt u, cg_rl u, cg_ra u, cg_rf u, cg_rn u, cg_rc u, cg_now u, cg_dra u, cg_kep u, cg_im u, (pg_mp M19), (pg_mw M19), (pg_mu M19), (pg_mn M19), (pg_mi M19), (pg_mc M19), (pg_md M19), cg_mo u, cg_ms u, cg_mq u, cg_se u, cg_sc u, cg_re u) from hh)
  refine r_aload_n eX3_copies_22 rfl rfl ?_
  refine r_iload_n eX3_copies_23 rfl rfl ?_
  refine r_callVi1 eX3_copies_24 lX3_169 (Or.inl ⟨_, _, _, rfl, rfl, rfl⟩) (s3_allOutBy (t := t) (u := u) (T := T) (M := M19) (R := nRs u) he3.symm hT hM19 hms hmi) (by omega) (Nat.le_of_ble_eq_true rfl) (fun r1 h1 hq => ?_)
  obtain ⟨R24, hh, hr, hR24⟩ := hq
  obtain rfl := (show h1 = hA t (cg_let u, cg_lc u, cg_rt u, cg_rl u, cg_ra u, cg_rf u, cg_rn u, cg_rc u, cg_now u, cg_dra u, cg_kep u, cg_im u, (pg_mp M19), (pg_mw M19), (pg_mu M19), (pg_mn M19), (pg_mi M19), (pg_mc M19), (pg_md M19), (qg_mo R24), (qg_ms R24), (qg_mq R24), cg_se u, cg_sc u, cg_re u) from hh)
  obtain rfl := (show r1 = nI ((tOne T mi).toNat) from hr)
  refine n_if_eq eX3_copies_27 (by first | omega | exact Nat.lt_trans (Bool.toNat_lt _) (by decide)) (fun hc27 => ?_) (fun hc27 => ?_)
  · refine r_aload_n eX3_copies_32 rfl rfl ?_
    refine n_iconst 0 eX3_copies_33 rfl ?_
    refine r_iload_n eX3_copies_34 rfl rfl ?_
    refine r_callVi2 eX3_copies_35 lX3_172 (Or.inl ⟨_, _, _, rfl, rfl, rfl⟩) (s3_oneMore (t := t) (u := u) (T := T) (fi := 0) (k := 49) he1.symm ho he3.symm hT (by omega) hmi rfl (M := M19) (R := R24) hM19 hR24) (by omega) (Nat.le_of_ble_eq_true rfl) (fun r1 h1 hq => ?_)
    obtain ⟨M35, R35, hh, hr, hM35, hR35⟩ := hq
    obtain rfl := (show h1 = hA t (cg_let u, cg_lc u, cg_rt u, cg_rl u, cg_ra u, cg_rf u, cg_rn u, cg_rc u, cg_now u, cg_dra u, cg_kep u, cg_im u, (pg_mp M35), (pg_mw M35), (pg_mu M35), (pg_mn M35), (pg_mi M35), (pg_mc M35), (pg_md M35), (qg_mo R35), (qg_ms R35), (qg_mq R35), cg_se u, cg_sc u, cg_re u) from hh)
    obtain rfl := (show r1 = nI ((zany (tF1 T mi) 0 49).toNat) from hr)
    refine n_if_eq eX3_copies_38 (by first | omega | exact Nat.lt_trans (Bool.toNat_lt _) (by decide)) (fun hc38 => ?_) (fun hc38 => ?_)
    · refine r_aload_n eX3_copies_43 rfl rfl ?_
      refine r_iload_n eX3_copies_44 rfl rfl ?_
      refine r_callVi1 eX3_copies_45 lX3_175 (Or.inl ⟨_, _, _, rfl, rfl, rfl⟩) (s3_twoMore (t := t) (u := u) (T := T) he1.symm ho he3.symm hT hk10 hmi (M := M35) (R := R35) hM35 hR35) (by omega) (Nat.le_of_ble_eq_true rfl) (fun r1 h1 hq => ?_)
      obtain ⟨M45, R45, hh, hr, hM45, hR45⟩ := hq
      obtain rfl := (show h1 = hA t (cg_let u, cg_lc u, cg_rt u, cg_rl u, cg_ra u, cg_rf u, cg_rn u, cg_rc u, cg_now u, cg_dra u, cg_kep u, cg_im u, (pg_mp M45), (pg_mw M45), (pg_mu M45), (pg_mn M45), (pg_mi M45), (pg_mc M45), (pg_md M45), (qg_mo R45), (qg_ms R45), (qg_mq R45), cg_se u, cg_sc u, cg_re u) from hh)
      obtain rfl := (show r1 = nI ((zany (tF2 T mi) 0 49).toNat) from hr)
      refine n_if_eq eX3_copies_48 (by first | omega | exact Nat.lt_trans (Bool.toNat_lt _) (by decide)) (fun hc48 => ?_) (fun hc48 => ?_)
      · refine r_bipush (v := (-9)) eX3_copies_55 rfl ?_
        have q9 : ((if tOne T mi = true then 0 else if zany (tF1 T mi) 0 49 = true then 1 else if zany (tF2 T mi) 0 49 = true then 2 else -9) : Int32) = (-9) := by
          rw [if_neg (by rw [zt0 hc27]; decide), if_neg (by rw [zt0 hc38]; decide), if_neg (by rw [zt0 hc48]; decide)]
        refine z_top q9.symm ?_
        exact z_iret eX3_copies_57 rfl rfl ⟨_, rfl, M45, R45, rfl, rfl, hR45⟩
      · refine n_iconst 2 eX3_copies_51 rfl ?_
        refine r_goto eX3_copies_52 ?_
        have q9 : ((if tOne T mi = true then 0 else if zany (tF1 T mi) 0 49 = true then 1 else if zany (tF2 T mi) 0 49 = true then 2 else -9) : Int32) = nI (2) := by
          rw [if_neg (by rw [zt0 hc27]; decide), if_neg (by rw [zt0 hc38]; decide), if_pos (zt1 hc48)]
          rfl
        refine z_top q9.symm ?_
        exact z_iret eX3_copies_57 rfl rfl ⟨_, rfl, M45, R45, rfl, rfl, hR45⟩
    · refine n_iconst 1 eX3_copies_41 rfl ?_
      have q9 : ((if tOne T mi = true then 0 else if zany (tF1 T mi) 0 49 = true then 1 else if zany (tF2 T mi) 0 49 = true then 2 else -9) : Int32) = nI (1) := by
        rw [if_neg (by rw [zt0 hc27]; decide), if_pos (zt1 hc38)]
        rfl
      refine z_top q9.symm ?_
      exact z_iret eX3_copies_42 rfl rfl ⟨_, rfl, M35, R35, rfl, rfl, hR35⟩
  · refine n_iconst 0 eX3_copies_30 rfl ?_
    have q9 : ((if tOne T mi = true then 0 else if zany (tF1 T mi) 0 49 = true then 1 else if zany (tF2 T mi) 0 49 = true then 2 else -9) : Int32) = nI (0) := by
      rw [if_pos (zt1 hc27)]
      rfl
    refine z_top q9.symm ?_
    exact z_iret eX3_copies_31 rfl rfl ⟨_, rfl, M19, R24, rfl, rfl, hR24⟩
def zcw (T : zTown) : Nat → Nat × Option Nat
  | 0 => (tAll T 0 0, none)
  | j + 1 => if tAddB T j = true ∧ tAll (tAdd T (j / 7) (j % 7)) 0 0 < (zcw T j).1 then (tAll (tAdd T (j / 7) (j % 7)) 0 0, some (10 * (j / 7) + j % 7)) else zcw T j
set_option maxHeartbeats 1000000 in
set_option maxRecDepth 100000 in
theorem s3_copy_l {t : zMod} {u : zCls} {T : zTown} (hc : cT (cg_now u) T) : ∀ (k : Nat) (pr : Nat) (ll : Nat) (an : Option Nat) (M : zMp) (R : zMr) (v4 : Value) (hd : pr + k = 49) (han : (zcw T pr).2 = an) (hll : zV2 1000000 2147483647 500000 (zcw T pr).1 ll) (hM : pPr M T) (hR : ∀ i, qg_ms R i ≤ 2147483647), Rq mX3_copy 7 none 31 [.ref 11, .int (nI (ll)), .int ((zor an)), .int (nI (pr)), v4] [] (hA t (cg_let u, cg_lc u, cg_rt u, cg_rl u, cg_ra u, cg_rf u, cg_rn u, cg_rc u, cg_now u, cg_dra u, cg_kep u, cg_im u, (pg_mp M), (pg_mw M), (pg_mu M), (pg_mn M), (pg_mi M), (pg_mc M), (pg_md M), (qg_mo R), (qg_ms R), (qg_mq R), cg_se u, cg_sc u, cg_re u)) (fun r h' => ∃ x, r = some x ∧ ∃ (M' : zMp) (R' : zMr), h' = hA t (cg_let u, cg_lc u, cg_rt u, cg_rl u, cg_ra u, cg_rf u, cg_rn u, cg_rc u, cg_now u, cg_dra u, cg_kep u, cg_im u, (pg_mp M'), (pg_mw M'), (pg_mu M'), (pg_mn M'), (pg_mi M'), (pg_mc M'), (pg_md M'), (qg_mo R'), (qg_ms R'), (qg_mq R'), cg_se u, cg_sc u, cg_re u) ∧ x = zor (zcw T 49).2 ∧ ∀ i, qg_ms R' i ≤ 2147483647) := by
  intro k
  induction k with
  | zero =>
    intro pr ll an M R v4 hd han hll hM hR
    obtain ⟨he, hT, hty, hk10⟩ := id hc
    have h7 := hT.1
    have hpw9 : 2 ^ tg_people T ≤ 2 ^ 7 := Nat.pow_le_pow_right (by omega) h7
    have ho := he.ok hT
    obtain ⟨he1, he2, he3, he4, he5, he6, he7⟩ := id he
    have hwt9 := hT.2.2.2.1
    have hpp9 := Nat.two_pow_pos (tg_people T)
    have e9 : pr = 49 := by omega
    subst e9
    refine r_iload_n eX3_copy_31 rfl rfl ?_
    refine n_bipush 49 eX3_copy_32 rfl ?_
    refine n_icmp_ge eX3_copy_34 (by omega) (by omega) (fun hc34 => ?_) (fun hc34 => absurd hc34 (by omega))
    refine r_iload_n eX3_copy_106 rfl rfl ?_
    rw [← han]
    exact z_iret eX3_copy_107 rfl rfl ⟨_, rfl, M, R, rfl, rfl, hR⟩
  | succ k ih =>
    intro pr ll an M R v4 hd han hll hM hR
    obtain ⟨he, hT, hty, hk10⟩ := id hc
    have h7 := hT.1
    have hpw9 : 2 ^ tg_people T ≤ 2 ^ 7 := Nat.pow_le_pow_right (by omega) h7
    have ho := he.ok hT
    obtain ⟨he1, he2, he3, he4, he5, he6, he7⟩ := id he
    have hwt9 := hT.2.2.2.1
    have hpp9 := Nat.two_pow_pos (tg_people T)
    have hll2 := zV2_or hll
    by_cases hadd : tAddB T pr = true
    · have hy := hadd
      refine r_iload_n eX3_copy_31 rfl rfl ?_
      refine n_bipush 49 eX3_copy_32 rfl ?_
      refine n_icmp_ge eX3_copy_34 (by omega) (by omega) (fun hc34 => absurd hc34 (by omega)) (fun hc34 => ?_)
      refine r_aload_n eX3_copy_37 rfl rfl ?_
      refine r_iload_n eX3_copy_38 rfl rfl ?_
      refine r_callVi1 eX3_copy_39 lX3_154 (Or.inl ⟨_, _, _, rfl, rfl, rfl⟩) (s3_addPair_y (t := t) (u := u) (T := T) (M := M) (R := R) he1.symm ho hM (show pr < 49 by omega) hy) (by omega) (Nat.le_of_ble_eq_true rfl) (fun r1 h1 hq => ?_)
      obtain ⟨rfl, rfl⟩ := (show r1 = nI (1) ∧ h1 = hA t (cg_let u, cg_lc u, cg_rt u, cg_rl u, cg_ra u, cg_rf u, cg_rn u, cg_rc u, cg_now u, cg_dra u, cg_kep u, cg_im u, (pg_mp (pAdd M pr)), (pg_mw (pAdd M pr)), (pg_mu (pAdd M pr)), (pg_mn (pAdd M pr)), (pg_mi (pAdd M pr)), (pg_mc (pAdd M pr)), (pg_md (pAdd M pr)), (qg_mo R), (qg_ms R), (qg_mq R), cg_se u, cg_sc u, cg_re u) from hq)
      refine n_if_ne eX3_copy_42 (by omega) (fun hc42 => ?_) (fun hc42 => absurd hc42 (by decide))
      refine r_aload_n eX3_copy_48 rfl rfl ?_
      refine r_getf (v := .ref 40) eX3_copy_49 fX3_36 rfl rfl ?_
      refine r_aload_n eX3_copy_52 rfl rfl ?_
      refine r_getf (v := .ref 16) eX3_copy_53 fX3_23 rfl rfl ?_
      refine r_getf (v := .int (nI (tg_watch (cg_now u)))) eX3_copy_56 fX3_87 rfl rfl ?_
      refine n_iconst 0 eX3_copy_59 rfl ?_
      refine n_iconst 1 eX3_copy_60 rfl ?_
      refine r_callVv3 eX3_copy_61 lX3_147 (Or.inl ⟨_, _, _, rfl, rfl, rfl⟩) (s0_passT (t := t) (u := (cg_let u, cg_lc u, cg_rt u, cg_rl u, cg_ra u, cg_rf u, cg_rn u, cg_rc u, cg_now u, cg_dra u, cg_kep u, cg_im u, (pg_mp (pAdd M pr)), (pg_mw (pAdd M pr)), (pg_mu (pAdd M pr)), (pg_mn (pAdd M pr)), (pg_mi (pAdd M pr)), (pg_mc (pAdd M pr)), (pg_md (pAdd M pr)), (qg_mo R), (qg_ms R), (qg_mq R), cg_se u, cg_sc u, cg_re u)) (T := (tAdd T (pr / 7) (pr % 7))) (tAdd_ok hT (by omega)) (pPr_add hT hM hy) hR (by rw [← he3]; exact hwt9) (by omega) (by omega)) (by omega) (Nat.le_of_ble_eq_true rfl) (fun h1 hq => ?_)
      obtain ⟨R61, hh, hR61⟩ := hq
      obtain rfl := (show h1 = hA t (cg_let u, cg_lc u, cg_rt u, cg_rl u, cg_ra u, cg_rf u, cg_rn u, cg_rc u, cg_now u, cg_dra u, cg_kep u, cg_im u, (pg_mp (pAdd M pr)), (pg_mw (pAdd M pr)), (pg_mu (pAdd M pr)), (pg_mn (pAdd M pr)), (pg_mi (pAdd M pr)), (pg_mc (pAdd M pr)), (pg_md (pAdd M pr)), (qg_mo R61), (qg_ms R61), (qg_mq R61), cg_se u, cg_sc u, cg_re u) from hh)
      rw [← he3] at hR61
      refine r_aload_n eX3_copy_64 rfl rfl ?_
      refine r_getf (v := .ref 40) eX3_copy_65 fX3_36 rfl rfl ?_
      refine r_callVi0 eX3_copy_68 lX3_151 (Or.inl ⟨_, _, _, rfl, rfl, rfl⟩) (s0_lastOutT (t := t) (u := (cg_let u, cg_lc u, cg_rt u, cg_rl u, cg_ra u, cg_rf u, cg_rn u, cg_rc u, cg_now u, cg_dra u, cg_kep u, cg_im u, (pg_mp (pAdd M pr)), (pg_mw (pAdd M pr)), (pg_mu (pAdd M pr)), (pg_mn (pAdd M pr)), (pg_mi (pAdd M pr)), (pg_mc (pAdd M pr)), (pg_md (pAdd M pr)), (qg_mo R61), (qg_ms R61), (qg_mq R61), cg_se u, cg_sc u, cg_re u)) (T := (tAdd T (pr / 7) (pr % 7))) (tAdd_ok hT (by omega)) hM.1 hR61) (by omega) (Nat.le_of_ble_eq_true rfl) (fun r1 h1 hq => ?_)
      obtain ⟨rfl, rfl⟩ := (show r1 = nI (zmx (qg_mo R61) (tg_people T)) ∧ h1 = hA t (cg_let u, cg_lc u, cg_rt u, cg_rl u, cg_ra u, cg_rf u, cg_rn u, cg_rc u, cg_now u, cg_dra u, cg_kep u, cg_im u, (pg_mp (pAdd M pr)), (pg_mw (pAdd M pr)), (pg_mu (pAdd M pr)), (pg_mn (pAdd M pr)), (pg_mi (pAdd M pr)), (pg_mc (pAdd M pr)), (pg_md (pAdd M pr)), (qg_mo R61), (qg_ms R61), (qg_mq R61), cg_se u, cg_sc u, cg_re u) from hq)
      have hz68 := zV2_or (show zV2 1000000 2147483647 500000 (tAll (tAdd T (pr / 7) (pr % 7)) 0 0) (zmx (qg_mo R61) (tg_people T)) from qRs_all hR61)
      refine r_istore eX3_copy_71 (by decide) ?_
      refine r_aload_n eX3_copy_73 rfl rfl ?_
      refine r_iload_n eX3_copy_74 rfl rfl ?_
      refine r_callVv1 eX3_copy_75 lX3_157 (Or.inl ⟨_, _, _, rfl, rfl, rfl⟩) (s3_dropPair (t := t) (u := u) (M := (pAdd M pr)) (R := R61) (show pr < 49 by omega) ((pPr_add hT hM hy).2 (pr % 7) (of_decide_eq_true hy).2.1).2.2.2.2.2.1) (by omega) (Nat.le_of_ble_eq_true rfl) (fun h1 hq => ?_)
      obtain rfl := (show h1 = hA t (cg_let u, cg_lc u, cg_rt u, cg_rl u, cg_ra u, cg_rf u, cg_rn u, cg_rc u, cg_now u, cg_dra u, cg_kep u, cg_im u, (pg_mp (pDrop (pAdd M pr) pr)), (pg_mw (pDrop (pAdd M pr) pr)), (pg_mu (pDrop (pAdd M pr) pr)), (pg_mn (pDrop (pAdd M pr) pr)), (pg_mi (pDrop (pAdd M pr) pr)), (pg_mc (pDrop (pAdd M pr) pr)), (pg_md (pDrop (pAdd M pr) pr)), (qg_mo R61), (qg_ms R61), (qg_mq R61), cg_se u, cg_sc u, cg_re u) from hq)
      have hMd := pPr_drop (pPr_add hT hM hy) hy
      refine r_iload eX3_copy_78 rfl ?_
      refine r_iload_n eX3_copy_80 rfl rfl ?_
      refine n_icmp_ge eX3_copy_81 (by omega) (by omega) (fun hc81 => ?_) (fun hc81 => ?_)
      · refine n_iinc (k := 1) eX3_copy_100 rfl (by decide) rfl ?_
        refine r_goto eX3_copy_103 ?_
        have e9 : zcw T (pr + 1) = zcw T pr := by rw [zcw, if_neg (fun z => by have := z.2; omega)]
        refine ih (pr + 1) ll an (pDrop (pAdd M pr) pr) R61 (.int (nI (zmx (qg_mo R61) (tg_people T)))) (by omega) (by rw [e9]; exact han) (by rw [e9]; exact hll) hMd hR61.2.1
      · refine r_iload eX3_copy_84 rfl ?_
        refine r_istore_n eX3_copy_86 rfl (by decide) ?_
        refine n_bipush 10 eX3_copy_87 rfl ?_
        refine r_iload_n eX3_copy_89 rfl rfl ?_
        refine r_callSi1 eX3_copy_90 lX3_160 (s3_doorOf (by omega)) (by omega) (Nat.le_of_ble_eq_true rfl) (fun r1 h1 hq => ?_)
        obtain ⟨rfl, rfl⟩ := hq
        refine n_mul eX3_copy_93 ?_
        refine r_iload_n eX3_copy_94 rfl rfl ?_
        refine r_callSi1 eX3_copy_95 lX3_163 (s3_holderOf (by omega)) (by omega) (Nat.le_of_ble_eq_true rfl) (fun r1 h1 hq => ?_)
        obtain ⟨rfl, rfl⟩ := hq
        refine n_add eX3_copy_98 ?_
        refine r_istore_n eX3_copy_99 rfl (by decide) ?_
        refine n_iinc (k := 1) eX3_copy_100 rfl (by decide) rfl ?_
        refine r_goto eX3_copy_103 ?_
        have e9 : zcw T (pr + 1) = (tAll (tAdd T (pr / 7) (pr % 7)) 0 0, some (10 * (pr / 7) + pr % 7)) := by rw [zcw, if_pos ⟨hy, by omega⟩]
        refine ih (pr + 1) (zmx (qg_mo R61) (tg_people T)) (some (10 * (pr / 7) + pr % 7)) (pDrop (pAdd M pr) pr) R61 (.int (nI (zmx (qg_mo R61) (tg_people T)))) (by omega) (by rw [e9]) ?_ hMd hR61.2.1
        rw [e9]
        exact hz68
    · have hy := hadd
      refine r_iload_n eX3_copy_31 rfl rfl ?_
      refine n_bipush 49 eX3_copy_32 rfl ?_
      refine n_icmp_ge eX3_copy_34 (by omega) (by omega) (fun hc34 => absurd hc34 (by omega)) (fun hc34 => ?_)
      refine r_aload_n eX3_copy_37 rfl rfl ?_
      refine r_iload_n eX3_copy_38 rfl rfl ?_
      refine r_callVi1 eX3_copy_39 lX3_154 (Or.inl ⟨_, _, _, rfl, rfl, rfl⟩) (s3_addPair_n (t := t) (u := u) (T := T) (M := M) (R := R) he1.symm ho hM (show pr < 49 by omega) hy) (by omega) (Nat.le_of_ble_eq_true rfl) (fun r1 h1 hq => ?_)
      obtain ⟨rfl, rfl⟩ := (show r1 = nI (0) ∧ h1 = hA t (cg_let u, cg_lc u, cg_rt u, cg_rl u, cg_ra u, cg_rf u, cg_rn u, cg_rc u, cg_now u, cg_dra u, cg_kep u, cg_im u, (pg_mp M), (pg_mw M), (pg_mu M), (pg_mn M), (pg_mi M), (pg_mc M), (pg_md M), (qg_mo R), (qg_ms R), (qg_mq R), cg_se u, cg_sc u, cg_re u) from hq)
      refine n_if_ne eX3_copy_42 (by omega) (fun hc42 => absurd hc42 (by decide)) (fun hc42 => ?_)
      refine r_goto eX3_copy_45 ?_
      refine n_iinc (k := 1) eX3_copy_100 rfl (by decide) rfl ?_
      refine r_goto eX3_copy_103 ?_
      have e9 : zcw T (pr + 1) = zcw T pr := by rw [zcw, if_neg (fun z => hy z.1)]
      exact ih (pr + 1) ll an M R v4 (by omega) (by rw [e9]; exact han) (by rw [e9]; exact hll) hM hR
set_option maxHeartbeats 1000000 in
set_option maxRecDepth 100000 in
theorem s3_copy_n {t : zMod} {u : zCls} (h0n : tg_people (cg_now u) = 0) : Mi mX3_copy 7 [.ref 11] (hA t u) (fun r h' => r = (-3) ∧ h' = hA t (cg_let u, cg_lc u, cg_rt u, cg_rl u, cg_ra u, cg_rf u, cg_rn u, cg_rc u, cg_now u, cg_dra u, cg_kep u, cg_im u, cg_mp u, cg_mw u, cg_mu u, cg_mn u, cg_mi u, cg_mc u, cg_md u, cg_mo u, cg_ms u, cg_mq u, cg_se u, cg_sc u, (va_up (cg_re u) 3 (cg_re u 3 + 1)))) := by
  refine Mi.of (by decide) rfl (Nat.le_of_ble_eq_true rfl) ?_
  refine r_aload_n eX3_copy_0 rfl rfl ?_
  refine r_getf (v := .ref 16) eX3_copy_1 fX3_23 rfl rfl ?_
  refine r_getf (v := .int (nI (tg_people (cg_now u)))) eX3_copy_4 fX3_130 rfl rfl ?_
  refine n_if_ne eX3_copy_7 (by omega) (fun hc7 => absurd hc7 (by omega)) (fun hc7 => ?_)
  refine r_aload_n eX3_copy_10 rfl rfl ?_
  refine r_bipush (v := (-3)) eX3_copy_11 rfl ?_
  refine r_callVi1 eX3_copy_13 lX3_46 (Or.inl ⟨_, _, _, rfl, rfl, rfl⟩) (s3_refuse (t := t) (u := u) (x := (-3)) (c := 3) (by decide) (by decide)) (by omega) (Nat.le_of_ble_eq_true rfl) (fun r1 h1 hq => ?_)
  obtain ⟨rfl, rfl⟩ := (show r1 = (-3) ∧ h1 = hA t (cg_let u, cg_lc u, cg_rt u, cg_rl u, cg_ra u, cg_rf u, cg_rn u, cg_rc u, cg_now u, cg_dra u, cg_kep u, cg_im u, cg_mp u, cg_mw u, cg_mu u, cg_mn u, cg_mi u, cg_mc u, cg_md u, cg_mo u, cg_ms u, cg_mq u, cg_se u, cg_sc u, (va_up (cg_re u) 3 ((cg_re u) 3 + 1))) from hq)
  exact z_iret eX3_copy_16 rfl rfl ⟨_, rfl, rfl, rfl⟩
set_option maxHeartbeats 1000000 in
set_option maxRecDepth 100000 in
theorem s3_copy_k {t : zMod} {u : zCls} {T : zTown} (hc : cT (cg_now u) T) (hms : ∀ i, cg_ms u i ≤ 2147483647) (h0n : ¬ tg_people T = 0) : Mi mX3_copy 7 [.ref 11] (hA t u) (fun r h' => ∃ (M' : zMp) (R' : zMr), h' = hA t (cg_let u, cg_lc u, cg_rt u, cg_rl u, cg_ra u, cg_rf u, cg_rn u, cg_rc u, cg_now u, cg_dra u, cg_kep u, cg_im u, (pg_mp M'), (pg_mw M'), (pg_mu M'), (pg_mn M'), (pg_mi M'), (pg_mc M'), (pg_md M'), (qg_mo R'), (qg_ms R'), (qg_mq R'), cg_se u, cg_sc u, cg_re u) ∧ r = zor (zcw T 49).2 ∧ (∀ i, qg_ms R' i ≤ 2147483647)) := by
  obtain ⟨he, hT, hty, hk10⟩ := id hc
  have h7 := hT.1
  have hpw9 : 2 ^ tg_people T ≤ 2 ^ 7 := Nat.pow_le_pow_right (by omega) h7
  have ho := he.ok hT
  obtain ⟨he1, he2, he3, he4, he5, he6, he7⟩ := id he
  have hwt9 := hT.2.2.2.1
  have hpp9 := Nat.two_pow_pos (tg_people T)
  refine Mi.of (by decide) rfl (Nat.le_of_ble_eq_true rfl) ?_
  refine r_aload_n eX3_copy_0 rfl rfl ?_
  refine r_getf (v := .ref 16) eX3_copy_1 fX3_23 rfl rfl ?_
  refine r_getf (v := .int (nI (tg_people (cg_now u)))) eX3_copy_4 fX3_130 rfl rfl ?_
  refine n_if_ne eX3_copy_7 (by omega) (fun hc7 => ?_) (fun hc7 => absurd hc7 (by omega))
  refine r_aload_n eX3_copy_17 rfl rfl ?_
  refine r_aload_n eX3_copy_18 rfl rfl ?_
  refine r_getf (v := .ref 16) eX3_copy_19 fX3_23 rfl rfl ?_
  refine r_callVi1 eX3_copy_22 lX3_126 (Or.inl ⟨_, _, _, rfl, rfl, rfl⟩) (s3_lastOutOf_now (t := t) (u := u) (T := T) hc hms) (by omega) (Nat.le_of_ble_eq_true rfl) (fun r1 h1 hq => ?_)
  obtain ⟨M22, R22, hh, hr, hM22, hR22⟩ := hq
  obtain rfl := (show h1 = hA t (cg_let u, cg_lc u, cg_rt u, cg_rl u, cg_ra u, cg_rf u, cg_rn u, cg_rc u, cg_now u, cg_dra u, cg_kep u, cg_im u, (pg_mp M22), (pg_mw M22), (pg_mu M22), (pg_mn M22), (pg_mi M22), (pg_mc M22), (pg_md M22), (qg_mo R22), (qg_ms R22), (qg_mq R22), cg_se u, cg_sc u, cg_re u) from hh)
  obtain rfl := (show r1 = nI (zmx (qg_mo R22) (tg_people T)) from hr)
  have hz22 := zV2_or (qRs_all hR22)
  refine r_istore_n eX3_copy_25 rfl (by decide) ?_
  refine r_bipush (v := (-9)) eX3_copy_26 rfl ?_
  refine r_istore_n eX3_copy_28 rfl (by decide) ?_
  refine n_iconst 0 eX3_copy_29 rfl ?_
  refine r_istore_n eX3_copy_30 rfl (by decide) ?_
  refine z_ls (ls' := [.ref 11, .int (nI (zmx (qg_mo R22) (tg_people T))), .int (zor none), .int (nI 0), .retAddr 0]) rfl ?_
  refine Rq.mono (s3_copy_l hc 49 0 _ none M22 R22 _ (Nat.zero_add _) rfl (qRs_all hR22) hM22 hR22.2.1) (fun r h9 hq => ?_)
  exact hq
