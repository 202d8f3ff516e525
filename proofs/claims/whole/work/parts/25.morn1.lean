/-! THE CLASS: its morning -/
theorem cw_mw {Y : zM} {d : Nat} {sc : Option (Nat × (Nat → Int32))} {pc pc' : Nat} {ls st : List Value} {Q : Option Int32 → List zC → Prop} {t : zMod} {b_let : Nat → Nat} {b_lc : Nat} {b_rt : Nat} {b_rl : Nat} {b_ra : Nat} {b_rf : Nat} {b_rn : Nat → Nat} {b_rc : Nat} {b_now : zTown} {b_dra : zTown} {b_kep : zTown} {b_im : Nat} {b_mp : Nat} {b_mw : Nat → Nat → Nat} {b_mu : Nat → Nat} {b_mn : Nat → Nat} {b_mi : Nat → Nat} {b_mc : Nat → Nat} {b_md : Nat → Nat} {b_mo : Nat → Nat} {b_ms : Nat → Nat} {b_mq : Nat → Int32} {b_se : Nat → Nat} {b_sc : Nat} {b_re : Nat → Nat} {p j v : Nat} (hp : p < 7) {x y : Int32} (hd : zd Y pc .iastore 1 pc') (hx : x = nI j) (hy : y = nI v) (hj : j < 7) (kk : Rq Y d sc pc' ls st (hA t (b_let, b_lc, b_rt, b_rl, b_ra, b_rf, b_rn, b_rc, b_now, b_dra, b_kep, b_im, b_mp, (fun a => if a = p then va_up (b_mw p) j v else b_mw a), b_mu, b_mn, b_mi, b_mc, b_md, b_mo, b_ms, b_mq, b_se, b_sc, b_re)) Q) : Rq Y d sc pc ls (.int y :: .int x :: .ref (42 + p) :: st) (hA t (b_let, b_lc, b_rt, b_rl, b_ra, b_rf, b_rn, b_rc, b_now, b_dra, b_kep, b_im, b_mp, b_mw, b_mu, b_mn, b_mi, b_mc, b_md, b_mo, b_ms, b_mq, b_se, b_sc, b_re)) Q := by
  rcases (by omega : p = 0 ∨ p = 1 ∨ p = 2 ∨ p = 3 ∨ p = 4 ∨ p = 5 ∨ p = 6) with rfl | rfl | rfl | rfl | rfl | rfl | rfl
  · exact cw_mw0 hd hx hy hj kk
  · exact cw_mw1 hd hx hy hj kk
  · exact cw_mw2 hd hx hy hj kk
  · exact cw_mw3 hd hx hy hj kk
  · exact cw_mw4 hd hx hy hj kk
  · exact cw_mw5 hd hx hy hj kk
  · exact cw_mw6 hd hx hy hj kk
theorem zmw_rd {t : zMod} {u : zCls} {p : Nat} (hp : p < 7) : zn (hA t u) (42 + p) = some (zI 7 (fun i => nI (cg_mw u p i))) := by
  rcases (by omega : p = 0 ∨ p = 1 ∨ p = 2 ∨ p = 3 ∨ p = 4 ∨ p = 5 ∨ p = 6) with rfl | rfl | rfl | rfl | rfl | rfl | rfl <;> rfl
def zMo (u : zCls) : Prop := cg_mp u ≤ 7 ∧ ∀ p, p < cg_mp u → (∀ h, h < cg_mp u → cg_mw u p h ≤ 7) ∧ cg_mu u p ≤ 2000 ∧ cg_mn u p ≤ 1000 ∧ cg_mc u p ≤ 1000 ∧ (cg_mi u p ≤ 2000 ∨ cg_mi u p = 2147483647) ∧ cg_md u p < 128
def cHd (u : zCls) (p d : Nat) : Bool := (cg_md u p).testBit d
def cWin (u : zCls) (wd p : Nat) : Nat := if wd = 1 then cg_mi u p else 2147483647
/-- who opens: the class's note -/
def zgq (way : Nat → Nat → Nat) (nd pc : Nat) (hold : Nat → Bool) (m0 p : Nat) (op : Nat → Nat) (oq : Nat → Int32) : Nat → Nat → Int32
  | 0 => oq
  | d + 1 => if hold d = true then (if (zgo way nd pc hold m0 p op d).1 + (pc * way (zgo way nd pc hold m0 p op d).2.1 d + nd) < (zgo way nd pc hold m0 p op d).2.2 d ∨ ((zgo way nd pc hold m0 p op d).1 + (pc * way (zgo way nd pc hold m0 p op d).2.1 d + nd) = (zgo way nd pc hold m0 p op d).2.2 d ∧ nI p < zgq way nd pc hold m0 p op oq d d) then upd (zgq way nd pc hold m0 p op oq d) d (nI p) else zgq way nd pc hold m0 p op oq d) else zgq way nd pc hold m0 p op oq d
def zrq (way : Nat → Nat → Nat) (nd pc : Nat → Nat) (hold : Nat → Nat → Bool) (W : Nat → Bool) (up win : Nat → Nat) (NV n : Nat) : Nat → Nat → (Nat → Nat) → (Nat → Nat) → (Nat → Int32) → Nat → Int32
  | 0, _, _, _, oq => oq
  | k + 1, G, ou, op, oq => match zfst G.testBit (zcand W up win op) NV n with
    | none => oq
    | some p => zrq way nd pc hold W up win NV n k (G ||| 1 * 2 ^ p) (va_up ou p (zcand W up win op p)) (zgo way (nd p) (pc p) (hold p) (zcand W up win op p) p op n).2.2 (zgq way (nd p) (pc p) (hold p) (zcand W up win op p) p op oq n)
theorem zgo_b {way : Nat → Nat → Nat} {nd pc n m0 p : Nat} {hold : Nat → Bool} {op : Nat → Nat} (hw : ∀ a b, a < n → b < n → way a b ≤ 7) (hn : nd ≤ 1000) (hc : pc ≤ 1000) (hp : p < n) : ∀ d, d ≤ n → (zgo way nd pc hold m0 p op d).1 ≤ m0 + 8000 * d ∧ (zgo way nd pc hold m0 p op d).2.1 < n ∧ ∀ i, (zgo way nd pc hold m0 p op d).2.2 i = op i ∨ (zgo way nd pc hold m0 p op d).2.2 i ≤ m0 + 8000 * d
  | 0, _ => ⟨Nat.le_refl _, hp, fun _ => Or.inl rfl⟩
  | d + 1, hd => by
    obtain ⟨i1, i2, i3⟩ := zgo_b (hold := hold) (m0 := m0) (op := op) hw hn hc hp d (by omega)
    have h1 := Nat.mul_le_mul hc (hw _ d i2 (by omega))
    rw [zgo, zgs]
    split
    · refine ⟨by dsimp only; omega, by dsimp only; omega, fun i => ?_⟩
      dsimp only
      split
      · by_cases e : i = d
        · subst e
          right
          rw [zu_s]
          omega
        · rw [zu_n e]
          rcases i3 i with h | h
          · exact Or.inl h
          · exact Or.inr (by omega)
      · rcases i3 i with h | h
        · exact Or.inl h
        · exact Or.inr (by omega)
    · refine ⟨by omega, i2, fun i => ?_⟩
      rcases i3 i with h | h
      · exact Or.inl h
      · exact Or.inr (by omega)
set_option maxHeartbeats 1000000 in
set_option maxRecDepth 100000 in
theorem s0_minuteOut {t : zMod} {u : zCls} (hu : zMo u) {p wd : Nat} (hp : p < cg_mp u) (hwd : wd < 2) (hop : ∀ i, cg_ms u i ≤ 2147483647) : Mi mX0_minuteOut 2 [.ref 40, .int (nI (p)), .int (nI (wd))] (hA t u) (fun r h' => r = nI (min (cWin u wd p) (max (cg_ms u p) (cg_mu u p))) ∧ h' = hA t u) := by
  obtain ⟨hp7, hq⟩ := id hu
  obtain ⟨q1, q2, q3, q4, q5, q6⟩ := hq p hp
  have q7 := hop p
  refine Mi.of (by decide) rfl (Nat.le_of_ble_eq_true rfl) ?_
  refine r_aload_n eX0_minuteOut_0 rfl rfl ?_
  refine r_getf (v := .ref 55) eX0_minuteOut_1 fX0_35 rfl rfl ?_
  refine r_iload_n eX0_minuteOut_4 rfl rfl ?_
  refine n_iald (f := cg_ms u) (j := p) eX0_minuteOut_5 rfl rfl (by omega) (by decide) ?_
  refine r_aload_n eX0_minuteOut_6 rfl rfl ?_
  refine r_getf (v := .ref 49) eX0_minuteOut_7 fX0_16 rfl rfl ?_
  refine r_iload_n eX0_minuteOut_10 rfl rfl ?_
  refine n_iald (f := cg_mu u) (j := p) eX0_minuteOut_11 rfl rfl (by omega) (by decide) ?_
  refine n_max eX0_minuteOut_12 lX0_83 (by omega) (Nat.le_of_ble_eq_true rfl) (by omega) (by omega) ?_
  refine r_istore_n eX0_minuteOut_15 rfl (by decide) ?_
  refine r_iload_n eX0_minuteOut_16 rfl rfl ?_
  refine n_if_eq eX0_minuteOut_17 (by omega) (fun hc17 => ?_) (fun hc17 => ?_)
  · refine r_iload_n eX0_minuteOut_33 rfl rfl ?_
    have q9 : min (cWin u wd p) (max (cg_ms u p) (cg_mu u p)) = max ((cg_ms u) (p)) ((cg_mu u) (p)) := by
      unfold cWin
      rw [if_neg (by omega)]
      omega
    rw [q9]
    exact z_iret eX0_minuteOut_34 rfl rfl ⟨_, rfl, rfl, rfl⟩
  · refine r_iload_n eX0_minuteOut_20 rfl rfl ?_
    refine r_aload_n eX0_minuteOut_21 rfl rfl ?_
    refine r_getf (v := .ref 51) eX0_minuteOut_22 fX0_23 rfl rfl ?_
    refine r_iload_n eX0_minuteOut_25 rfl rfl ?_
    refine n_iald (f := cg_mi u) (j := p) eX0_minuteOut_26 rfl rfl (by omega) (by decide) ?_
    refine n_min eX0_minuteOut_27 lX0_88 (by omega) (Nat.le_of_ble_eq_true rfl) (by omega) (by omega) ?_
    refine r_goto eX0_minuteOut_30 ?_
    have q9 : min (cWin u wd p) (max (cg_ms u p) (cg_mu u p)) = min (max ((cg_ms u) (p)) ((cg_mu u) (p))) ((cg_mi u) (p)) := by
      unfold cWin
      rw [if_pos (by omega)]
      exact Nat.min_comm _ _
    rw [q9]
    exact z_iret eX0_minuteOut_34 rfl rfl ⟨_, rfl, rfl, rfl⟩
set_option maxHeartbeats 1000000 in
set_option maxRecDepth 100000 in
theorem s0_openDoors_l {t : zMod} {u : zCls} (hu : zMo u) {p : Nat} (hp : p < cg_mp u) (hm : cg_mo u p ≤ 400000) (hop : ∀ i, cg_ms u i ≤ 2147483647) : ∀ (k : Nat) (dd : Nat) (hd : dd + k = cg_mp u), Rq mX0_openDoors 2 none 12 [.ref 40, .int (nI (p)), .int (nI ((zgo (cg_mw u) (cg_mn u p) (cg_mc u p) (cHd u p) (cg_mo u p) p (cg_ms u) dd).1)), .int (nI ((zgo (cg_mw u) (cg_mn u p) (cg_mc u p) (cHd u p) (cg_mo u p) p (cg_ms u) dd).2.1)), .int (nI (dd))] [] (hA t (cg_let u, cg_lc u, cg_rt u, cg_rl u, cg_ra u, cg_rf u, cg_rn u, cg_rc u, cg_now u, cg_dra u, cg_kep u, cg_im u, cg_mp u, cg_mw u, cg_mu u, cg_mn u, cg_mi u, cg_mc u, cg_md u, cg_mo u, (zgo (cg_mw u) (cg_mn u p) (cg_mc u p) (cHd u p) (cg_mo u p) p (cg_ms u) dd).2.2, (zgq (cg_mw u) (cg_mn u p) (cg_mc u p) (cHd u p) (cg_mo u p) p (cg_ms u) (cg_mq u) dd), cg_se u, cg_sc u, cg_re u)) (fun r h' => r = none ∧ h' = hA t (cg_let u, cg_lc u, cg_rt u, cg_rl u, cg_ra u, cg_rf u, cg_rn u, cg_rc u, cg_now u, cg_dra u, cg_kep u, cg_im u, cg_mp u, cg_mw u, cg_mu u, cg_mn u, cg_mi u, cg_mc u, cg_md u, cg_mo u, (zgo (cg_mw u) (cg_mn u p) (cg_mc u p) (cHd u p) (cg_mo u p) p (cg_ms u) (cg_mp u)).2.2, (zgq (cg_mw u) (cg_mn u p) (cg_mc u p) (cHd u p) (cg_mo u p) p (cg_ms u) (cg_mq u) (cg_mp u)), cg_se u, cg_sc u, cg_re u)) := by
  intro k
  induction k with
  | zero =>
    intro dd hd
    have e9 : dd = cg_mp u := by omega
    subst e9
    obtain ⟨hp7, hq⟩ := id hu
    refine r_iload eX0_openDoors_12 rfl ?_
    refine r_aload_n eX0_openDoors_14 rfl rfl ?_
    refine r_getf (v := .int (nI (cg_mp u))) eX0_openDoors_15 fX0_47 rfl rfl ?_
    refine n_icmp_ge eX0_openDoors_18 (by omega) (by omega) (fun hc18 => ?_) (fun hc18 => absurd hc18 (by omega))
    exact z_vret eX0_openDoors_119 ⟨rfl, rfl⟩
  | succ k ih =>
    intro dd hd
    obtain ⟨hp7, hq⟩ := id hu
    have hdn : dd < cg_mp u := by omega
    obtain ⟨q1, q2, q3, q4, q5, q6⟩ := hq p hp
    obtain ⟨b1, b2, b3⟩ := zgo_b (hold := cHd u p) (m0 := cg_mo u p) (op := cg_ms u) (fun a b ha hb => (hq a ha).1 b hb) q3 q4 hp dd (by omega)
    have hw9 := Nat.mul_le_mul q4 ((hq _ b2).1 dd hdn)
    have ho9 : (zgo (cg_mw u) (cg_mn u p) (cg_mc u p) (cHd u p) (cg_mo u p) p (cg_ms u) dd).2.2 dd ≤ 2147483647 := Nat.le_trans (zgo_op dd dd) (hop dd)
    have hb2 := zb2 (cg_md u p) dd
    refine r_iload eX0_openDoors_12 rfl ?_
    refine r_aload_n eX0_openDoors_14 rfl rfl ?_
    refine r_getf (v := .int (nI (cg_mp u))) eX0_openDoors_15 fX0_47 rfl rfl ?_
    refine n_icmp_ge eX0_openDoors_18 (by omega) (by omega) (fun hc18 => absurd hc18 (by omega)) (fun hc18 => ?_)
    refine r_aload_n eX0_openDoors_21 rfl rfl ?_
    refine r_getf (v := .ref 53) eX0_openDoors_22 fX0_29 rfl rfl ?_
    refine r_iload_n eX0_openDoors_25 rfl rfl ?_
    refine n_iald (f := cg_md u) (j := p) eX0_openDoors_26 rfl rfl (by omega) (by decide) ?_
    refine r_iload eX0_openDoors_27 rfl ?_
    refine n_shr eX0_openDoors_29 (by omega) (by omega) ?_
    refine n_iconst 1 eX0_openDoors_30 rfl ?_
    refine n_and eX0_openDoors_31 ?_
    refine n_if_eq eX0_openDoors_32 (by omega) (fun hc32 => ?_) (fun hc32 => ?_)
    · refine n_iinc (k := 1) eX0_openDoors_113 rfl (by decide) rfl ?_
      refine r_goto eX0_openDoors_116 ?_
      have hh : cHd u p dd = false := zb0' hc32
      have e1 : (zgo (cg_mw u) (cg_mn u p) (cg_mc u p) (cHd u p) (cg_mo u p) p (cg_ms u) (dd + 1)) = (zgo (cg_mw u) (cg_mn u p) (cg_mc u p) (cHd u p) (cg_mo u p) p (cg_ms u) dd) := by rw [zgo, zgs, if_neg (by rw [hh]; decide)]
      have e2 : (zgq (cg_mw u) (cg_mn u p) (cg_mc u p) (cHd u p) (cg_mo u p) p (cg_ms u) (cg_mq u) (dd + 1)) = (zgq (cg_mw u) (cg_mn u p) (cg_mc u p) (cHd u p) (cg_mo u p) p (cg_ms u) (cg_mq u) dd) := by rw [zgq, if_neg (by rw [hh]; decide)]
      have ih9 := ih (dd + 1) (by omega)
      rw [e1, e2] at ih9
      exact ih9
    · refine r_iload_n eX0_openDoors_35 rfl rfl ?_
      refine r_aload_n eX0_openDoors_36 rfl rfl ?_
      refine r_getf (v := .ref 52) eX0_openDoors_37 fX0_26 rfl rfl ?_
      refine r_iload_n eX0_openDoors_40 rfl rfl ?_
      refine n_iald (f := cg_mc u) (j := p) eX0_openDoors_41 rfl rfl (by omega) (by decide) ?_
      refine r_aload_n eX0_openDoors_42 rfl rfl ?_
      refine r_getf (v := .ref 41) eX0_openDoors_43 fX0_11 rfl rfl ?_
      refine r_iload_n eX0_openDoors_46 rfl rfl ?_
      refine r_aald (j := (zgo (cg_mw u) (cg_mn u p) (cg_mc u p) (cHd u p) (cg_mo u p) p (cg_ms u) dd).2.1) (b := 42 + ((zgo (cg_mw u) (cg_mn u p) (cg_mc u p) (cHd u p) (cg_mo u p) p (cg_ms u) dd).2.1)) (f := fun i => some (42 + i)) eX0_openDoors_47 rfl rfl (by omega) (by decide) rfl ?_
      refine r_iload eX0_openDoors_48 rfl ?_
      refine n_iald (f := cg_mw u ((zgo (cg_mw u) (cg_mn u p) (cg_mc u p) (cHd u p) (cg_mo u p) p (cg_ms u) dd).2.1)) (j := dd) eX0_openDoors_50 (zmw_rd (by omega)) rfl (by omega) (by decide) ?_
      refine n_mul eX0_openDoors_51 ?_
      refine r_aload_n eX0_openDoors_52 rfl rfl ?_
      refine r_getf (v := .ref 50) eX0_openDoors_53 fX0_20 rfl rfl ?_
      refine r_iload_n eX0_openDoors_56 rfl rfl ?_
      refine n_iald (f := cg_mn u) (j := p) eX0_openDoors_57 rfl rfl (by omega) (by decide) ?_
      refine n_add eX0_openDoors_58 ?_
      refine n_add eX0_openDoors_59 ?_
      refine r_istore_n eX0_openDoors_60 rfl (by decide) ?_
      refine r_iload eX0_openDoors_61 rfl ?_
      refine r_istore_n eX0_openDoors_63 rfl (by decide) ?_
      refine r_iload_n eX0_openDoors_64 rfl rfl ?_
      refine r_aload_n eX0_openDoors_65 rfl rfl ?_
      refine r_getf (v := .ref 55) eX0_openDoors_66 fX0_35 rfl rfl ?_
      refine r_iload eX0_openDoors_69 rfl ?_
      refine n_iald (f := (zgo (cg_mw u) (cg_mn u p) (cg_mc u p) (cHd u p) (cg_mo u p) p (cg_ms u) dd).2.2) (j := dd) eX0_openDoors_71 rfl rfl (by omega) (by decide) ?_
      refine n_icmp_lt eX0_openDoors_72 (by omega) (by omega) (fun hc72 => ?_) (fun hc72 => ?_)
      · refine r_aload_n eX0_openDoors_97 rfl rfl ?_
        refine r_getf (v := .ref 55) eX0_openDoors_98 fX0_35 rfl rfl ?_
        refine r_iload eX0_openDoors_101 rfl ?_
        refine r_iload_n eX0_openDoors_103 rfl rfl ?_
        refine cw_ms (j := dd) (v := ((zgo (cg_mw u) (cg_mn u p) (cg_mc u p) (cHd u p) (cg_mo u p) p (cg_ms u) dd).1) + ((((cg_mc u) (p)) * ((cg_mw u ((zgo (cg_mw u) (cg_mn u p) (cg_mc u p) (cHd u p) (cg_mo u p) p (cg_ms u) dd).2.1)) (dd))) + ((cg_mn u) (p)))) eX0_openDoors_104 rfl rfl (by omega) ?_
        refine r_aload_n eX0_openDoors_105 rfl rfl ?_
        refine r_getf (v := .ref 56) eX0_openDoors_106 fX0_38 rfl rfl ?_
        refine r_iload eX0_openDoors_109 rfl ?_
        refine r_iload_n eX0_openDoors_111 rfl rfl ?_
        refine cw_mq (j := dd) eX0_openDoors_112 rfl (by omega) ?_
        refine n_iinc (k := 1) eX0_openDoors_113 rfl (by decide) rfl ?_
        refine r_goto eX0_openDoors_116 ?_
        have hh : cHd u p dd = true := zb1' hc32
        have e1 : (zgo (cg_mw u) (cg_mn u p) (cg_mc u p) (cHd u p) (cg_mo u p) p (cg_ms u) (dd + 1)) = ((zgo (cg_mw u) (cg_mn u p) (cg_mc u p) (cHd u p) (cg_mo u p) p (cg_ms u) dd).1 + (cg_mc u p * cg_mw u ((zgo (cg_mw u) (cg_mn u p) (cg_mc u p) (cHd u p) (cg_mo u p) p (cg_ms u) dd).2.1) dd + cg_mn u p), dd, va_up ((zgo (cg_mw u) (cg_mn u p) (cg_mc u p) (cHd u p) (cg_mo u p) p (cg_ms u) dd).2.2) dd ((zgo (cg_mw u) (cg_mn u p) (cg_mc u p) (cHd u p) (cg_mo u p) p (cg_ms u) dd).1 + (cg_mc u p * cg_mw u ((zgo (cg_mw u) (cg_mn u p) (cg_mc u p) (cHd u p) (cg_mo u p) p (cg_ms u) dd).2.1) dd + cg_mn u p))) := by rw [zgo, zgs, if_pos hh]; rw [if_pos hc72]
        have e2 : (zgq (cg_mw u) (cg_mn u p) (cg_mc u p) (cHd u p) (cg_mo u p) p (cg_ms u) (cg_mq u) (dd + 1)) = upd ((zgq (cg_mw u) (cg_mn u p) (cg_mc u p) (cHd u p) (cg_mo u p) p (cg_ms u) (cg_mq u) dd)) dd (nI p) := by rw [zgq, if_pos hh, if_pos (Or.inl hc72)]
        have ih9 := ih (dd + 1) (by omega)
        rw [e1, e2] at ih9
        exact ih9
      · refine r_iload_n eX0_openDoors_75 rfl rfl ?_
        refine r_aload_n eX0_openDoors_76 rfl rfl ?_
        refine r_getf (v := .ref 55) eX0_openDoors_77 fX0_35 rfl rfl ?_
        refine r_iload eX0_openDoors_80 rfl ?_
        refine n_iald (f := (zgo (cg_mw u) (cg_mn u p) (cg_mc u p) (cHd u p) (cg_mo u p) p (cg_ms u) dd).2.2) (j := dd) eX0_openDoors_82 rfl rfl (by omega) (by decide) ?_
        refine n_icmp_ne eX0_openDoors_83 (by omega) (by omega) (fun hc83 => ?_) (fun hc83 => ?_)
        · refine n_iinc (k := 1) eX0_openDoors_113 rfl (by decide) rfl ?_
          refine r_goto eX0_openDoors_116 ?_
          have hh : cHd u p dd = true := zb1' hc32
          have e1 : (zgo (cg_mw u) (cg_mn u p) (cg_mc u p) (cHd u p) (cg_mo u p) p (cg_ms u) (dd + 1)) = ((zgo (cg_mw u) (cg_mn u p) (cg_mc u p) (cHd u p) (cg_mo u p) p (cg_ms u) dd).1 + (cg_mc u p * cg_mw u ((zgo (cg_mw u) (cg_mn u p) (cg_mc u p) (cHd u p) (cg_mo u p) p (cg_ms u) dd).2.1) dd + cg_mn u p), dd, (zgo (cg_mw u) (cg_mn u p) (cg_mc u p) (cHd u p) (cg_mo u p) p (cg_ms u) dd).2.2) := by rw [zgo, zgs, if_pos hh]; rw [if_neg (by omega)]
          have e2 : (zgq (cg_mw u) (cg_mn u p) (cg_mc u p) (cHd u p) (cg_mo u p) p (cg_ms u) (cg_mq u) (dd + 1)) = (zgq (cg_mw u) (cg_mn u p) (cg_mc u p) (cHd u p) (cg_mo u p) p (cg_ms u) (cg_mq u) dd) := by rw [zgq, if_pos hh, if_neg (fun z => z.elim (fun z => by omega) (fun z => hc83 z.1))]
          have ih9 := ih (dd + 1) (by omega)
          rw [e1, e2] at ih9
          exact ih9
        · refine r_iload_n eX0_openDoors_86 rfl rfl ?_
          refine r_aload_n eX0_openDoors_87 rfl rfl ?_
          refine r_getf (v := .ref 56) eX0_openDoors_88 fX0_38 rfl rfl ?_
          refine r_iload eX0_openDoors_91 rfl ?_
          refine r_iald (f := (zgq (cg_mw u) (cg_mn u p) (cg_mc u p) (cHd u p) (cg_mo u p) p (cg_ms u) (cg_mq u) dd)) (j := dd) eX0_openDoors_93 rfl rfl (by omega) (by decide) ?_
          refine r_icmp_ge eX0_openDoors_94 (fun hc94 => ?_) (fun hc94 => ?_)
          · refine n_iinc (k := 1) eX0_openDoors_113 rfl (by decide) rfl ?_
            refine r_goto eX0_openDoors_116 ?_
            have hh : cHd u p dd = true := zb1' hc32
            have e1 : (zgo (cg_mw u) (cg_mn u p) (cg_mc u p) (cHd u p) (cg_mo u p) p (cg_ms u) (dd + 1)) = ((zgo (cg_mw u) (cg_mn u p) (cg_mc u p) (cHd u p) (cg_mo u p) p (cg_ms u) dd).1 + (cg_mc u p * cg_mw u ((zgo (cg_mw u) (cg_mn u p) (cg_mc u p) (cHd u p) (cg_mo u p) p (cg_ms u) dd).2.1) dd + cg_mn u p), dd, (zgo (cg_mw u) (cg_mn u p) (cg_mc u p) (cHd u p) (cg_mo u p) p (cg_ms u) dd).2.2) := by rw [zgo, zgs, if_pos hh]; rw [if_neg (by omega)]
            have e2 : (zgq (cg_mw u) (cg_mn u p) (cg_mc u p) (cHd u p) (cg_mo u p) p (cg_ms u) (cg_mq u) (dd + 1)) = (zgq (cg_mw u) (cg_mn u p) (cg_mc u p) (cHd u p) (cg_mo u p) p (cg_ms u) (cg_mq u) dd) := by rw [zgq, if_pos hh, if_neg (fun z => z.elim (fun z => by omega) (fun z => absurd z.2 (Int32.not_lt.mpr hc94)))]
            have ih9 := ih (dd + 1) (by omega)
            rw [e1, e2] at ih9
            exact ih9
          · refine r_aload_n eX0_openDoors_97 rfl rfl ?_
            refine r_getf (v := .ref 55) eX0_openDoors_98 fX0_35 rfl rfl ?_
            refine r_iload eX0_openDoors_101 rfl ?_
            refine r_iload_n eX0_openDoors_103 rfl rfl ?_
            refine cw_ms (j := dd) (v := ((zgo (cg_mw u) (cg_mn u p) (cg_mc u p) (cHd u p) (cg_mo u p) p (cg_ms u) dd).1) + ((((cg_mc u) (p)) * ((cg_mw u ((zgo (cg_mw u) (cg_mn u p) (cg_mc u p) (cHd u p) (cg_mo u p) p (cg_ms u) dd).2.1)) (dd))) + ((cg_mn u) (p)))) eX0_openDoors_104 rfl rfl (by omega) ?_
            refine r_aload_n eX0_openDoors_105 rfl rfl ?_
            refine r_getf (v := .ref 56) eX0_openDoors_106 fX0_38 rfl rfl ?_
            refine r_iload eX0_openDoors_109 rfl ?_
            refine r_iload_n eX0_openDoors_111 rfl rfl ?_
            refine cw_mq (j := dd) eX0_openDoors_112 rfl (by omega) ?_
            refine n_iinc (k := 1) eX0_openDoors_113 rfl (by decide) rfl ?_
            refine r_goto eX0_openDoors_116 ?_
            have hh : cHd u p dd = true := zb1' hc32
            have e0 : va_up ((zgo (cg_mw u) (cg_mn u p) (cg_mc u p) (cHd u p) (cg_mo u p) p (cg_ms u) dd).2.2) dd ((zgo (cg_mw u) (cg_mn u p) (cg_mc u p) (cHd u p) (cg_mo u p) p (cg_ms u) dd).1 + (cg_mc u p * cg_mw u ((zgo (cg_mw u) (cg_mn u p) (cg_mc u p) (cHd u p) (cg_mo u p) p (cg_ms u) dd).2.1) dd + cg_mn u p)) = (zgo (cg_mw u) (cg_mn u p) (cg_mc u p) (cHd u p) (cg_mo u p) p (cg_ms u) dd).2.2 := by
              funext i
              unfold va_up
              split
              · rename_i hi; rw [hi]; exact hc83
              · rfl
            have e1 : (zgo (cg_mw u) (cg_mn u p) (cg_mc u p) (cHd u p) (cg_mo u p) p (cg_ms u) (dd + 1)) = ((zgo (cg_mw u) (cg_mn u p) (cg_mc u p) (cHd u p) (cg_mo u p) p (cg_ms u) dd).1 + (cg_mc u p * cg_mw u ((zgo (cg_mw u) (cg_mn u p) (cg_mc u p) (cHd u p) (cg_mo u p) p (cg_ms u) dd).2.1) dd + cg_mn u p), dd, va_up ((zgo (cg_mw u) (cg_mn u p) (cg_mc u p) (cHd u p) (cg_mo u p) p (cg_ms u) dd).2.2) dd ((zgo (cg_mw u) (cg_mn u p) (cg_mc u p) (cHd u p) (cg_mo u p) p (cg_ms u) dd).1 + (cg_mc u p * cg_mw u ((zgo (cg_mw u) (cg_mn u p) (cg_mc u p) (cHd u p) (cg_mo u p) p (cg_ms u) dd).2.1) dd + cg_mn u p))) := by rw [zgo, zgs, if_pos hh]; rw [if_neg (by omega), e0]
            have e2 : (zgq (cg_mw u) (cg_mn u p) (cg_mc u p) (cHd u p) (cg_mo u p) p (cg_ms u) (cg_mq u) (dd + 1)) = upd ((zgq (cg_mw u) (cg_mn u p) (cg_mc u p) (cHd u p) (cg_mo u p) p (cg_ms u) (cg_mq u) dd)) dd (nI p) := by rw [zgq, if_pos hh, if_pos (Or.inr ⟨hc83, Int32.not_le.mp hc94⟩)]
            have ih9 := ih (dd + 1) (by omega)
            rw [e1, e2] at ih9
            exact ih9
set_option maxHeartbeats 1000000 in
set_option maxRecDepth 100000 in
theorem s0_openDoors {t : zMod} {u : zCls} (hu : zMo u) {p : Nat} (hp : p < cg_mp u) (hm : cg_mo u p ≤ 400000) (hop : ∀ i, cg_ms u i ≤ 2147483647) : Mv mX0_openDoors 2 [.ref 40, .int (nI (p))] (hA t u) (fun h' => h' = hA t (cg_let u, cg_lc u, cg_rt u, cg_rl u, cg_ra u, cg_rf u, cg_rn u, cg_rc u, cg_now u, cg_dra u, cg_kep u, cg_im u, cg_mp u, cg_mw u, cg_mu u, cg_mn u, cg_mi u, cg_mc u, cg_md u, cg_mo u, (zgo (cg_mw u) (cg_mn u p) (cg_mc u p) (cHd u p) (cg_mo u p) p (cg_ms u) (cg_mp u)).2.2, (zgq (cg_mw u) (cg_mn u p) (cg_mc u p) (cHd u p) (cg_mo u p) p (cg_ms u) (cg_mq u) (cg_mp u)), cg_se u, cg_sc u, cg_re u)) := by
  obtain ⟨hp7, hq⟩ := id hu
  refine Mv.of (by decide) rfl rfl (Nat.le_of_ble_eq_true rfl) ?_
  refine r_aload_n eX0_openDoors_0 rfl rfl ?_
  refine r_getf (v := .ref 54) eX0_openDoors_1 fX0_32 rfl rfl ?_
  refine r_iload_n eX0_openDoors_4 rfl rfl ?_
  refine n_iald (f := cg_mo u) (j := p) eX0_openDoors_5 rfl rfl (by omega) (by decide) ?_
  refine r_istore_n eX0_openDoors_6 rfl (by decide) ?_
  refine r_iload_n eX0_openDoors_7 rfl rfl ?_
  refine r_istore_n eX0_openDoors_8 rfl (by decide) ?_
  refine n_iconst 0 eX0_openDoors_9 rfl ?_
  refine r_istore eX0_openDoors_10 (by decide) ?_
  refine z_h (h' := hA t (cg_let u, cg_lc u, cg_rt u, cg_rl u, cg_ra u, cg_rf u, cg_rn u, cg_rc u, cg_now u, cg_dra u, cg_kep u, cg_im u, cg_mp u, cg_mw u, cg_mu u, cg_mn u, cg_mi u, cg_mc u, cg_md u, cg_mo u, (cg_ms u), (cg_mq u), cg_se u, cg_sc u, cg_re u)) rfl ?_
  exact s0_openDoors_l hu hp hm hop (cg_mp u) 0 (Nat.zero_add _)
theorem zmx_le2 {f : Nat → Nat} {b : Nat} : ∀ {n : Nat}, (∀ i, i < n → f i ≤ b) → zmx f n ≤ b
  | 0, _ => Nat.zero_le _
  | n + 1, h => by
    have := zmx_le2 (n := n) (fun i hi => h i (by omega))
    have := h n (by omega)
    rw [zmx]
    omega
set_option maxHeartbeats 1000000 in
set_option maxRecDepth 100000 in
theorem s0_lastOut_l {t : zMod} {u : zCls} (hp7 : cg_mp u ≤ 7) (ho : ∀ i, i < cg_mp u → cg_mo u i ≤ 2147483647) : ∀ (k : Nat) (p : Nat) (hd : p + k = cg_mp u), Rq mX0_lastOut 2 none 4 [.ref 40, .int (nI (zmx (cg_mo u) p)), .int (nI (p))] [] (hA t u) (fun r h' => ∃ x, r = some x ∧ (x = nI (zmx (cg_mo u) (cg_mp u)) ∧ h' = hA t u)) := by
  intro k
  induction k with
  | zero =>
    intro p hd
    have e9 : p = cg_mp u := by omega
    subst e9
    refine r_iload_n eX0_lastOut_4 rfl rfl ?_
    refine r_aload_n eX0_lastOut_5 rfl rfl ?_
    refine r_getf (v := .int (nI (cg_mp u))) eX0_lastOut_6 fX0_47 rfl rfl ?_
    refine n_icmp_ge eX0_lastOut_9 (by omega) (by omega) (fun hc9 => ?_) (fun hc9 => absurd hc9 (by omega))
    refine r_iload_n eX0_lastOut_29 rfl rfl ?_
    exact z_iret eX0_lastOut_30 rfl rfl ⟨_, rfl, rfl, rfl⟩
  | succ k ih =>
    intro p hd
    have h9 := ho p (by omega)
    have hz := zmx_le2 (f := cg_mo u) (n := p) (fun i hi => ho i (by omega))
    refine r_iload_n eX0_lastOut_4 rfl rfl ?_
    refine r_aload_n eX0_lastOut_5 rfl rfl ?_
    refine r_getf (v := .int (nI (cg_mp u))) eX0_lastOut_6 fX0_47 rfl rfl ?_
    refine n_icmp_ge eX0_lastOut_9 (by omega) (by omega) (fun hc9 => absurd hc9 (by omega)) (fun hc9 => ?_)
    refine r_iload_n eX0_lastOut_12 rfl rfl ?_
    refine r_aload_n eX0_lastOut_13 rfl rfl ?_
    refine r_getf (v := .ref 54) eX0_lastOut_14 fX0_32 rfl rfl ?_
    refine r_iload_n eX0_lastOut_17 rfl rfl ?_
    refine n_iald (f := cg_mo u) (j := p) eX0_lastOut_18 rfl rfl (by omega) (by decide) ?_
    refine n_max eX0_lastOut_19 lX0_83 (by omega) (Nat.le_of_ble_eq_true rfl) (by omega) (by omega) ?_
    refine r_istore_n eX0_lastOut_22 rfl (by decide) ?_
    refine n_iinc (k := 1) eX0_lastOut_23 rfl (by decide) rfl ?_
    refine r_goto eX0_lastOut_26 ?_
    have ih9 := ih (p + 1) (by omega)
    rw [show zmx (cg_mo u) (p + 1) = max (zmx (cg_mo u) p) ((cg_mo u) (p)) from rfl] at ih9
    exact ih9
set_option maxHeartbeats 1000000 in
set_option maxRecDepth 100000 in
theorem s0_lastOut {t : zMod} {u : zCls} (hp7 : cg_mp u ≤ 7) (ho : ∀ i, i < cg_mp u → cg_mo u i ≤ 2147483647) : Mi mX0_lastOut 2 [.ref 40] (hA t u) (fun r h' => r = nI (zmx (cg_mo u) (cg_mp u)) ∧ h' = hA t u) := by
  refine Mi.of (by decide) rfl (Nat.le_of_ble_eq_true rfl) ?_
  refine n_iconst 0 eX0_lastOut_0 rfl ?_
  refine r_istore_n eX0_lastOut_1 rfl (by decide) ?_
  refine n_iconst 0 eX0_lastOut_2 rfl ?_
  refine r_istore_n eX0_lastOut_3 rfl (by decide) ?_
  exact s0_lastOut_l hp7 ho (cg_mp u) 0 (Nat.zero_add _)
theorem zbs_y {f : Nat → Bool} {n : Nat} (h : f n = true) : zbs f (n + 1) = zbs f n ||| 1 * 2 ^ n := by rw [zbs, if_pos h]
theorem zbs_n {f : Nat → Bool} {n : Nat} (h : f n = false) : zbs f (n + 1) = zbs f n := by rw [zbs, h]; exact Nat.or_zero _
theorem zbs_lt2 {f : Nat → Bool} : ∀ {n : Nat}, zbs f n < 2 ^ n
  | 0 => by rw [zbs]; decide
  | n + 1 => by
    have ih := zbs_lt2 (f := f) (n := n)
    have h1 := Nat.pow_lt_pow_right (show 1 < 2 by omega) (Nat.lt_succ_self n)
    cases h : f n with
    | true => rw [zbs_y h]; exact Nat.or_lt_two_pow (Nat.lt_trans ih h1) (by rw [Nat.one_mul]; exact h1)
    | false => rw [zbs_n h]; exact Nat.lt_trans ih h1
set_option maxHeartbeats 1000000 in
set_option maxRecDepth 100000 in
theorem s0_everOut_l {t : zMod} {u : zCls} (hp7 : cg_mp u ≤ 7) (ho : ∀ i, i < cg_mp u → cg_mo u i ≤ 2147483647) : ∀ (k : Nat) (p : Nat) (hd : p + k = cg_mp u), Rq mX0_everOut 2 none 4 [.ref 40, .int (nI (zbs (fun p => decide (¬ cg_mo u p = 2147483647)) p)), .int (nI (p))] [] (hA t u) (fun r h' => ∃ x, r = some x ∧ (x = nI (zbs (fun p => decide (¬ cg_mo u p = 2147483647)) (cg_mp u)) ∧ h' = hA t u)) := by
  intro k
  induction k with
  | zero =>
    intro p hd
    have e9 : p = cg_mp u := by omega
    subst e9
    refine r_iload_n eX0_everOut_4 rfl rfl ?_
    refine r_aload_n eX0_everOut_5 rfl rfl ?_
    refine r_getf (v := .int (nI (cg_mp u))) eX0_everOut_6 fX0_47 rfl rfl ?_
    refine n_icmp_ge eX0_everOut_9 (by omega) (by omega) (fun hc9 => ?_) (fun hc9 => absurd hc9 (by omega))
    refine r_iload_n eX0_everOut_35 rfl rfl ?_
    exact z_iret eX0_everOut_36 rfl rfl ⟨_, rfl, rfl, rfl⟩
  | succ k ih =>
    intro p hd
    have h9 := ho p (by omega)
    have hpw := Nat.pow_lt_pow_right (show 1 < 2 by omega) (show p < 7 by omega)
    refine r_iload_n eX0_everOut_4 rfl rfl ?_
    refine r_aload_n eX0_everOut_5 rfl rfl ?_
    refine r_getf (v := .int (nI (cg_mp u))) eX0_everOut_6 fX0_47 rfl rfl ?_
    refine n_icmp_ge eX0_everOut_9 (by omega) (by omega) (fun hc9 => absurd hc9 (by omega)) (fun hc9 => ?_)
    refine r_aload_n eX0_everOut_12 rfl rfl ?_
    refine r_getf (v := .ref 54) eX0_everOut_13 fX0_32 rfl rfl ?_
    refine r_iload_n eX0_everOut_16 rfl rfl ?_
    refine n_iald (f := cg_mo u) (j := p) eX0_everOut_17 rfl rfl (by omega) (by decide) ?_
    refine n_ldc 2147483647 eX0_everOut_18 kX0_74 rfl ?_
    refine n_icmp_eq eX0_everOut_20 (by omega) (by omega) (fun hc20 => ?_) (fun hc20 => ?_)
    · refine n_iinc (k := 1) eX0_everOut_29 rfl (by decide) rfl ?_
      refine r_goto eX0_everOut_32 ?_
      have ih9 := ih (p + 1) (by omega)
      rw [zbs_n (decide_eq_false (fun z => z hc20))] at ih9
      exact ih9
    · refine r_iload_n eX0_everOut_23 rfl rfl ?_
      refine n_iconst 1 eX0_everOut_24 rfl ?_
      refine r_iload_n eX0_everOut_25 rfl rfl ?_
      refine n_shl eX0_everOut_26 (by omega) (by omega) ?_
      refine n_or eX0_everOut_27 ?_
      refine r_istore_n eX0_everOut_28 rfl (by decide) ?_
      refine n_iinc (k := 1) eX0_everOut_29 rfl (by decide) rfl ?_
      refine r_goto eX0_everOut_32 ?_
      have ih9 := ih (p + 1) (by omega)
      rw [zbs_y (decide_eq_true hc20)] at ih9
      exact ih9
set_option maxHeartbeats 1000000 in
set_option maxRecDepth 100000 in
theorem s0_everOut {t : zMod} {u : zCls} (hp7 : cg_mp u ≤ 7) (ho : ∀ i, i < cg_mp u → cg_mo u i ≤ 2147483647) : Mi mX0_everOut 2 [.ref 40] (hA t u) (fun r h' => r = nI (zbs (fun p => decide (¬ cg_mo u p = 2147483647)) (cg_mp u)) ∧ h' = hA t u) := by
  refine Mi.of (by decide) rfl (Nat.le_of_ble_eq_true rfl) ?_
  refine n_iconst 0 eX0_everOut_0 rfl ?_
  refine r_istore_n eX0_everOut_1 rfl (by decide) ?_
  refine n_iconst 0 eX0_everOut_2 rfl ?_
  refine r_istore_n eX0_everOut_3 rfl (by decide) ?_
  exact s0_everOut_l hp7 ho (cg_mp u) 0 (Nat.zero_add _)
