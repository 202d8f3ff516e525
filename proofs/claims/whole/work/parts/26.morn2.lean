/-! THE CLASS: one morning passed, prepared -/
def cO0 (u : zCls) (i : Nat) : Nat := if i < cg_mp u then 2147483647 else cg_mo u i
def cP0 (u : zCls) (br i : Nat) : Nat := if i < cg_mp u then zop0 br 2147483647 i else cg_ms u i
def cQ0 (u : zCls) (i : Nat) : Int32 := if i < cg_mp u then -9 else cg_mq u i
def cRun (u : zCls) (wa br wd : Nat) : Nat × (Nat → Nat) × (Nat → Nat) := zrun (cg_mw u) (cg_mn u) (cg_mc u) (cHd u) wa.testBit (cg_mu u) (cWin u wd) 2147483647 (cg_mp u) (cg_mp u) 0 (cO0 u) (cP0 u br)
def cRq (u : zCls) (wa br wd : Nat) : Nat → Int32 := zrq (cg_mw u) (cg_mn u) (cg_mc u) (cHd u) wa.testBit (cg_mu u) (cWin u wd) 2147483647 (cg_mp u) (cg_mp u) 0 (cO0 u) (cP0 u br) (cQ0 u)
def zB (C x : Nat) : Prop := x ≤ C ∨ x = 2147483647
theorem cCand_b {u : zCls} {wd C p : Nat} {W : Nat → Bool} {op : Nat → Nat} (hu : zMo u) (hC : 2000 ≤ C) (hp : p < cg_mp u) (ho : zB C (op p)) : zB C (zcand W (cg_mu u) (cWin u wd) op p) := by
  obtain ⟨q1, q2, q3, q4, q5, q6⟩ := hu.2 p hp
  unfold zB at ho ⊢
  unfold zcand cWin
  split
  · omega
  · split <;> omega
set_option maxHeartbeats 1000000 in
set_option maxRecDepth 100000 in
theorem s0_pass_1 {t : zMod} {u : zCls} (hu : zMo u) {br wa wd : Nat} (hbr : br < 128) {Q : Option Int32 → List zC → Prop} (kk9 : ∀ (v5 v6 v7 v8 v9 : Value), Rq mX0_pass 4 none 58 [.ref 40, .int (nI wa), .int (nI br), .int (nI wd), .int (nI (cg_mp u)), v5, v6, v7, v8, v9] [] (hA t (cg_let u, cg_lc u, cg_rt u, cg_rl u, cg_ra u, cg_rf u, cg_rn u, cg_rc u, cg_now u, cg_dra u, cg_kep u, cg_im u, cg_mp u, cg_mw u, cg_mu u, cg_mn u, cg_mi u, cg_mc u, cg_md u, (cO0 u), (cP0 u br), (cQ0 u), cg_se u, cg_sc u, cg_re u)) Q) : ∀ (k : Nat) (pp : Nat) (X : Nat → Nat) (Y : Nat → Nat) (Z : Nat → Int32) (v5 : Value) (v6 : Value) (v7 : Value) (v8 : Value) (v9 : Value) (hd : pp + k = cg_mp u) (hX : ∀ i, X i = if i < pp then 2147483647 else cg_mo u i) (hY : ∀ i, Y i = if i < pp then zop0 br 2147483647 i else cg_ms u i) (hZ : ∀ i, Z i = if i < pp then -9 else cg_mq u i), Rq mX0_pass 4 none 3 [.ref 40, .int (nI (wa)), .int (nI (br)), .int (nI (wd)), .int (nI (pp)), v5, v6, v7, v8, v9] [] (hA t (cg_let u, cg_lc u, cg_rt u, cg_rl u, cg_ra u, cg_rf u, cg_rn u, cg_rc u, cg_now u, cg_dra u, cg_kep u, cg_im u, cg_mp u, cg_mw u, cg_mu u, cg_mn u, cg_mi u, cg_mc u, cg_md u, X, Y, Z, cg_se u, cg_sc u, cg_re u)) Q  := by
  intro k
  induction k with
  | zero =>
    intro pp X Y Z v5 v6 v7 v8 v9 hd hX hY hZ
    obtain ⟨hp7, hq⟩ := id hu
    have e9 : pp = cg_mp u := by omega
    subst e9
    have e1 : X = cO0 u := funext hX
    have e2 : Y = cP0 u br := funext hY
    have e3 : Z = cQ0 u := funext hZ
    subst e1
    subst e2
    subst e3
    refine r_iload eX0_pass_3 rfl ?_
    refine r_aload_n eX0_pass_5 rfl rfl ?_
    refine r_getf (v := .int (nI (cg_mp u))) eX0_pass_6 fX0_47 rfl rfl ?_
    refine n_icmp_ge eX0_pass_9 (by omega) (by omega) (fun hc9 => ?_) (fun hc9 => absurd hc9 (by omega))
    exact kk9 v5 v6 v7 v8 v9
  | succ k ih =>
    intro pp X Y Z v5 v6 v7 v8 v9 hd hX hY hZ
    obtain ⟨hp7, hq⟩ := id hu
    have hb2 := zb2 br pp
    refine r_iload eX0_pass_3 rfl ?_
    refine r_aload_n eX0_pass_5 rfl rfl ?_
    refine r_getf (v := .int (nI (cg_mp u))) eX0_pass_6 fX0_47 rfl rfl ?_
    refine n_icmp_ge eX0_pass_9 (by omega) (by omega) (fun hc9 => absurd hc9 (by omega)) (fun hc9 => ?_)
    refine r_aload_n eX0_pass_12 rfl rfl ?_
    refine r_getf (v := .ref 54) eX0_pass_13 fX0_32 rfl rfl ?_
    refine r_iload eX0_pass_16 rfl ?_
    refine n_ldc 2147483647 eX0_pass_18 kX0_74 rfl ?_
    refine cw_mo (j := pp) (v := 2147483647) eX0_pass_20 rfl rfl (by omega) ?_
    refine r_aload_n eX0_pass_21 rfl rfl ?_
    refine r_getf (v := .ref 55) eX0_pass_22 fX0_35 rfl rfl ?_
    refine r_iload eX0_pass_25 rfl ?_
    refine r_iload_n eX0_pass_27 rfl rfl ?_
    refine r_iload eX0_pass_28 rfl ?_
    refine n_shr eX0_pass_30 (by omega) (by omega) ?_
    refine n_iconst 1 eX0_pass_31 rfl ?_
    refine n_and eX0_pass_32 ?_
    refine n_if_eq eX0_pass_33 (by omega) (fun hc33 => ?_) (fun hc33 => ?_)
    · refine n_ldc 2147483647 eX0_pass_40 kX0_74 rfl ?_
      refine cw_ms (j := pp) (v := 2147483647) eX0_pass_42 rfl rfl (by omega) ?_
      refine r_aload_n eX0_pass_43 rfl rfl ?_
      refine r_getf (v := .ref 56) eX0_pass_44 fX0_38 rfl rfl ?_
      refine r_iload eX0_pass_47 rfl ?_
      refine r_bipush (v := (-9)) eX0_pass_49 rfl ?_
      refine cw_mq (j := pp) eX0_pass_51 rfl (by omega) ?_
      refine n_iinc (k := 1) eX0_pass_52 rfl (by decide) rfl ?_
      refine r_goto eX0_pass_55 ?_
      refine ih (pp + 1) _ _ _ v5 v6 v7 v8 v9 (by omega) (fun i => ?_) (fun i => ?_) (fun i => ?_)
      · by_cases e : i = pp
        · rw [e, zu_s, if_pos (by omega)]
        · rw [zu_n e, hX i]
          by_cases h9 : i < pp
          · rw [if_pos h9, if_pos (by omega)]
          · rw [if_neg h9, if_neg (by omega)]
      · by_cases e : i = pp
        · rw [e, zu_s, if_pos (by omega)]
          unfold zop0
          rw [if_neg (by rw [zb0' hc33]; decide)]
        · rw [zu_n e, hY i]
          by_cases h9 : i < pp
          · rw [if_pos h9, if_pos (by omega)]
          · rw [if_neg h9, if_neg (by omega)]
      · by_cases e : i = pp
        · rw [e, zupd_s, if_pos (by omega)]
        · rw [zupd_n e, hZ i]
          by_cases h9 : i < pp
          · rw [if_pos h9, if_pos (by omega)]
          · rw [if_neg h9, if_neg (by omega)]
    · refine n_iconst 0 eX0_pass_36 rfl ?_
      refine r_goto eX0_pass_37 ?_
      refine cw_ms (j := pp) (v := 0) eX0_pass_42 rfl rfl (by omega) ?_
      refine r_aload_n eX0_pass_43 rfl rfl ?_
      refine r_getf (v := .ref 56) eX0_pass_44 fX0_38 rfl rfl ?_
      refine r_iload eX0_pass_47 rfl ?_
      refine r_bipush (v := (-9)) eX0_pass_49 rfl ?_
      refine cw_mq (j := pp) eX0_pass_51 rfl (by omega) ?_
      refine n_iinc (k := 1) eX0_pass_52 rfl (by decide) rfl ?_
      refine r_goto eX0_pass_55 ?_
      refine ih (pp + 1) _ _ _ v5 v6 v7 v8 v9 (by omega) (fun i => ?_) (fun i => ?_) (fun i => ?_)
      · by_cases e : i = pp
        · rw [e, zu_s, if_pos (by omega)]
        · rw [zu_n e, hX i]
          by_cases h9 : i < pp
          · rw [if_pos h9, if_pos (by omega)]
          · rw [if_neg h9, if_neg (by omega)]
      · by_cases e : i = pp
        · rw [e, zu_s, if_pos (by omega)]
          unfold zop0
          rw [if_pos (zb1' hc33)]
        · rw [zu_n e, hY i]
          by_cases h9 : i < pp
          · rw [if_pos h9, if_pos (by omega)]
          · rw [if_neg h9, if_neg (by omega)]
      · by_cases e : i = pp
        · rw [e, zupd_s, if_pos (by omega)]
        · rw [zupd_n e, hZ i]
          by_cases h9 : i < pp
          · rw [if_pos h9, if_pos (by omega)]
          · rw [if_neg h9, if_neg (by omega)]
/-- the least minute so far -/
def zle (c : Nat → Nat) : Option Nat → Nat
  | none => 2147483647
  | some q => c q
theorem zle_iff {G : Nat → Bool} {c : Nat → Nat} {n p : Nat} : (c p < 2147483647 ∧ ∀ q, zfst G c 2147483647 n = some q → c p < c q) ↔ c p < zle c (zfst G c 2147483647 n) := by
  cases h : zfst G c 2147483647 n with
  | none => exact ⟨fun z => z.1, fun z => ⟨z, fun q hq => by cases hq⟩⟩
  | some q =>
    have := zfst_lt h
    constructor
    · intro z; exact z.2 q rfl
    · intro z
      have z1 : c p < c q := z
      exact ⟨by omega, fun q' hq' => by cases hq'; exact z1⟩
theorem zfst_y {G : Nat → Bool} {c : Nat → Nat} {n : Nat} (h1 : G n = false) (h2 : c n < zle c (zfst G c 2147483647 n)) : zfst G c 2147483647 (n + 1) = some n := by
  rw [zfst, if_pos ⟨h1, zle_iff.mpr h2⟩]
theorem zfst_n {G : Nat → Bool} {c : Nat → Nat} {n : Nat} (h : G n = true ∨ ¬ c n < zle c (zfst G c 2147483647 n)) : zfst G c 2147483647 (n + 1) = zfst G c 2147483647 n := by
  rw [zfst, if_neg]
  intro z
  rcases h with h | h
  · rw [h] at z; cases z.1
  · exact h (zle_iff.mp z.2)
theorem zle_le {c : Nat → Nat} {n : Nat} {G : Nat → Bool} : zle c (zfst G c 2147483647 n) ≤ 2147483647 := by
  cases h : zfst G c 2147483647 n with
  | none => exact Nat.le_refl _
  | some q => exact Nat.le_of_lt (zfst_lt h).2.2
set_option maxHeartbeats 1000000 in
set_option maxRecDepth 100000 in
theorem s0_pass_i {t : zMod} {u : zCls} (hu : zMo u) {wa br wd g tu C : Nat} {OU OP : Nat → Nat} {OQ : Nat → Int32} (hg : g < 128) (hwa : wa < 128) (hwd : wd < 2) (hC : 2000 ≤ C) (hop : ∀ i, OP i ≤ 2147483647) (hb : ∀ i, i < cg_mp u → zB C (OP i)) {Q : Option Int32 → List zC → Prop} (kk9 : ∀ (v9 : Value), Rq mX0_pass 4 none 146 [.ref 40, .int (nI wa), .int (nI br), .int (nI wd), .int (nI g), .int (nI tu), .int (zor (zfst g.testBit (zcand wa.testBit (cg_mu u) (cWin u wd) OP) 2147483647 (cg_mp u))), .int (nI (zle (zcand wa.testBit (cg_mu u) (cWin u wd) OP) (zfst g.testBit (zcand wa.testBit (cg_mu u) (cWin u wd) OP) 2147483647 (cg_mp u)))), .int (nI (cg_mp u)), v9] [] (hA t (cg_let u, cg_lc u, cg_rt u, cg_rl u, cg_ra u, cg_rf u, cg_rn u, cg_rc u, cg_now u, cg_dra u, cg_kep u, cg_im u, cg_mp u, cg_mw u, cg_mu u, cg_mn u, cg_mi u, cg_mc u, cg_md u, OU, OP, OQ, cg_se u, cg_sc u, cg_re u)) Q) : ∀ (k : Nat) (p : Nat) (v9 : Value) (hd : p + k = cg_mp u), Rq mX0_pass 4 none 84 [.ref 40, .int (nI (wa)), .int (nI (br)), .int (nI (wd)), .int (nI (g)), .int (nI (tu)), .int ((zor (zfst g.testBit (zcand wa.testBit (cg_mu u) (cWin u wd) OP) 2147483647 p))), .int (nI ((zle (zcand wa.testBit (cg_mu u) (cWin u wd) OP) (zfst g.testBit (zcand wa.testBit (cg_mu u) (cWin u wd) OP) 2147483647 p)))), .int (nI (p)), v9] [] (hA t (cg_let u, cg_lc u, cg_rt u, cg_rl u, cg_ra u, cg_rf u, cg_rn u, cg_rc u, cg_now u, cg_dra u, cg_kep u, cg_im u, cg_mp u, cg_mw u, cg_mu u, cg_mn u, cg_mi u, cg_mc u, cg_md u, OU, OP, OQ, cg_se u, cg_sc u, cg_re u)) Q  := by
  intro k
  induction k with
  | zero =>
    intro p v9 hd
    obtain ⟨hp7, hq⟩ := id hu
    have e9 : p = cg_mp u := by omega
    subst e9
    refine r_iload eX0_pass_84 rfl ?_
    refine r_aload_n eX0_pass_86 rfl rfl ?_
    refine r_getf (v := .int (nI (cg_mp u))) eX0_pass_87 fX0_47 rfl rfl ?_
    refine n_icmp_ge eX0_pass_90 (by omega) (by omega) (fun hc90 => ?_) (fun hc90 => absurd hc90 (by omega))
    exact kk9 v9
  | succ k ih =>
    intro p v9 hd
    obtain ⟨hp7, hq⟩ := id hu
    obtain ⟨q1, q2, q3, q4, q5, q6⟩ := hq p (by omega)
    have hb2 := zb2 g p
    have hb3 := zb2 wa p
    have hop9 := hop p
    have hle := zle_le (c := (zcand wa.testBit (cg_mu u) (cWin u wd) OP)) (n := p) (G := g.testBit)
    have hmm : min (cWin u wd p) (max (OP p) (cg_mu u p)) ≤ 2147483647 := by omega
    refine r_iload eX0_pass_84 rfl ?_
    refine r_aload_n eX0_pass_86 rfl rfl ?_
    refine r_getf (v := .int (nI (cg_mp u))) eX0_pass_87 fX0_47 rfl rfl ?_
    refine n_icmp_ge eX0_pass_90 (by omega) (by omega) (fun hc90 => absurd hc90 (by omega)) (fun hc90 => ?_)
    refine r_iload eX0_pass_93 rfl ?_
    refine r_iload eX0_pass_95 rfl ?_
    refine n_shr eX0_pass_97 (by omega) (by omega) ?_
    refine n_iconst 1 eX0_pass_98 rfl ?_
    refine n_and eX0_pass_99 ?_
    refine n_if_ne eX0_pass_100 (by omega) (fun hc100 => ?_) (fun hc100 => ?_)
    · refine n_iinc (k := 1) eX0_pass_140 rfl (by decide) rfl ?_
      refine r_goto eX0_pass_143 ?_
      have e1 : (zfst g.testBit (zcand wa.testBit (cg_mu u) (cWin u wd) OP) 2147483647 (p + 1)) = (zfst g.testBit (zcand wa.testBit (cg_mu u) (cWin u wd) OP) 2147483647 p) := zfst_n (Or.inl (zb1' hc100))
      have ih9 := ih (p + 1) v9 (by omega)
      rw [e1] at ih9
      exact ih9
    · refine r_iload_n eX0_pass_103 rfl rfl ?_
      refine r_iload eX0_pass_104 rfl ?_
      refine n_shr eX0_pass_106 (by omega) (by omega) ?_
      refine n_iconst 1 eX0_pass_107 rfl ?_
      refine n_and eX0_pass_108 ?_
      refine n_if_eq eX0_pass_109 (by omega) (fun hc109 => ?_) (fun hc109 => ?_)
      · refine r_aload_n eX0_pass_116 rfl rfl ?_
        refine r_iload eX0_pass_117 rfl ?_
        refine r_iload_n eX0_pass_119 rfl rfl ?_
        refine r_callVi2 eX0_pass_120 lX0_75 (Or.inl ⟨_, _, _, rfl, rfl, rfl⟩) (s0_minuteOut (t := t) (u := (cg_let u, cg_lc u, cg_rt u, cg_rl u, cg_ra u, cg_rf u, cg_rn u, cg_rc u, cg_now u, cg_dra u, cg_kep u, cg_im u, cg_mp u, cg_mw u, cg_mu u, cg_mn u, cg_mi u, cg_mc u, cg_md u, OU, OP, OQ, cg_se u, cg_sc u, cg_re u)) hu (show p < cg_mp u by omega) hwd hop) (by omega) (Nat.le_of_ble_eq_true rfl) (fun r1 h1 hq => ?_)
        obtain ⟨rfl, rfl⟩ := (show r1 = nI (min (cWin u wd p) (max (OP p) (cg_mu u p))) ∧ h1 = hA t (cg_let u, cg_lc u, cg_rt u, cg_rl u, cg_ra u, cg_rf u, cg_rn u, cg_rc u, cg_now u, cg_dra u, cg_kep u, cg_im u, cg_mp u, cg_mw u, cg_mu u, cg_mn u, cg_mi u, cg_mc u, cg_md u, OU, OP, OQ, cg_se u, cg_sc u, cg_re u) from hq)
        refine r_istore eX0_pass_123 (by decide) ?_
        refine r_iload eX0_pass_125 rfl ?_
        refine r_iload eX0_pass_127 rfl ?_
        refine n_icmp_ge eX0_pass_129 (by omega) (by omega) (fun hc129 => ?_) (fun hc129 => ?_)
        · refine n_iinc (k := 1) eX0_pass_140 rfl (by decide) rfl ?_
          refine r_goto eX0_pass_143 ?_
          have hcc : (zcand wa.testBit (cg_mu u) (cWin u wd) OP) p = min (cWin u wd p) (max (OP p) (cg_mu u p)) := if_neg (by rw [zb0' hc109]; decide)
          have e1 : (zfst g.testBit (zcand wa.testBit (cg_mu u) (cWin u wd) OP) 2147483647 (p + 1)) = (zfst g.testBit (zcand wa.testBit (cg_mu u) (cWin u wd) OP) 2147483647 p) := zfst_n (Or.inr (by rw [hcc]; omega))
          have ih9 := ih (p + 1) (.int (nI (min (cWin u wd p) (max (OP p) (cg_mu u p))))) (by omega)
          rw [e1] at ih9
          exact ih9
        · refine r_iload eX0_pass_132 rfl ?_
          refine r_istore eX0_pass_134 (by decide) ?_
          refine r_iload eX0_pass_136 rfl ?_
          refine r_istore eX0_pass_138 (by decide) ?_
          refine n_iinc (k := 1) eX0_pass_140 rfl (by decide) rfl ?_
          refine r_goto eX0_pass_143 ?_
          have hcc : (zcand wa.testBit (cg_mu u) (cWin u wd) OP) p = min (cWin u wd p) (max (OP p) (cg_mu u p)) := if_neg (by rw [zb0' hc109]; decide)
          have e1 : (zfst g.testBit (zcand wa.testBit (cg_mu u) (cWin u wd) OP) 2147483647 (p + 1)) = some p := zfst_y (zb0' hc100) (by rw [hcc]; exact hc129)
          have ih9 := ih (p + 1) (.int (nI (min (cWin u wd p) (max (OP p) (cg_mu u p))))) (by omega)
          rw [e1] at ih9
          rw [show zle (zcand wa.testBit (cg_mu u) (cWin u wd) OP) (some p) = min (cWin u wd p) (max (OP p) (cg_mu u p)) from hcc] at ih9
          exact ih9
      · refine n_iconst 0 eX0_pass_112 rfl ?_
        refine r_goto eX0_pass_113 ?_
        refine r_istore eX0_pass_123 (by decide) ?_
        refine r_iload eX0_pass_125 rfl ?_
        refine r_iload eX0_pass_127 rfl ?_
        refine n_icmp_ge eX0_pass_129 (by omega) (by omega) (fun hc129 => ?_) (fun hc129 => ?_)
        · refine n_iinc (k := 1) eX0_pass_140 rfl (by decide) rfl ?_
          refine r_goto eX0_pass_143 ?_
          have hcc : (zcand wa.testBit (cg_mu u) (cWin u wd) OP) p = 0 := if_pos (zb1' hc109)
          have e1 : (zfst g.testBit (zcand wa.testBit (cg_mu u) (cWin u wd) OP) 2147483647 (p + 1)) = (zfst g.testBit (zcand wa.testBit (cg_mu u) (cWin u wd) OP) 2147483647 p) := zfst_n (Or.inr (by rw [hcc]; omega))
          have ih9 := ih (p + 1) (.int (nI (0))) (by omega)
          rw [e1] at ih9
          exact ih9
        · refine r_iload eX0_pass_132 rfl ?_
          refine r_istore eX0_pass_134 (by decide) ?_
          refine r_iload eX0_pass_136 rfl ?_
          refine r_istore eX0_pass_138 (by decide) ?_
          refine n_iinc (k := 1) eX0_pass_140 rfl (by decide) rfl ?_
          refine r_goto eX0_pass_143 ?_
          have hcc : (zcand wa.testBit (cg_mu u) (cWin u wd) OP) p = 0 := if_pos (zb1' hc109)
          have e1 : (zfst g.testBit (zcand wa.testBit (cg_mu u) (cWin u wd) OP) 2147483647 (p + 1)) = some p := zfst_y (zb0' hc100) (by rw [hcc]; exact hc129)
          have ih9 := ih (p + 1) (.int (nI (0))) (by omega)
          rw [e1] at ih9
          rw [show zle (zcand wa.testBit (cg_mu u) (cWin u wd) OP) (some p) = 0 from hcc] at ih9
          exact ih9
set_option maxHeartbeats 1000000 in
set_option maxRecDepth 100000 in
theorem s0_pass_tn {t : zMod} {u : zCls} (hu : zMo u) {k tu g wa br wd : Nat} {OU OP : Nat → Nat} {OQ : Nat → Int32} {v8 v9 : Value} (hf : (zfst g.testBit (zcand wa.testBit (cg_mu u) (cWin u wd) OP) 2147483647 (cg_mp u)) = none) : Rq mX0_pass 4 none 146 [.ref 40, .int (nI wa), .int (nI br), .int (nI wd), .int (nI g), .int (nI tu), .int (zor none), .int (nI (zle (zcand wa.testBit (cg_mu u) (cWin u wd) OP) none)), v8, v9] [] (hA t (cg_let u, cg_lc u, cg_rt u, cg_rl u, cg_ra u, cg_rf u, cg_rn u, cg_rc u, cg_now u, cg_dra u, cg_kep u, cg_im u, cg_mp u, cg_mw u, cg_mu u, cg_mn u, cg_mi u, cg_mc u, cg_md u, OU, OP, OQ, cg_se u, cg_sc u, cg_re u)) (fun r h' => r = none ∧ h' = hA t (cg_let u, cg_lc u, cg_rt u, cg_rl u, cg_ra u, cg_rf u, cg_rn u, cg_rc u, cg_now u, cg_dra u, cg_kep u, cg_im u, cg_mp u, cg_mw u, cg_mu u, cg_mn u, cg_mi u, cg_mc u, cg_md u, (zrun (cg_mw u) (cg_mn u) (cg_mc u) (cHd u) wa.testBit (cg_mu u) (cWin u wd) 2147483647 (cg_mp u) (k + 1) g OU OP).2.1, (zrun (cg_mw u) (cg_mn u) (cg_mc u) (cHd u) wa.testBit (cg_mu u) (cWin u wd) 2147483647 (cg_mp u) (k + 1) g OU OP).2.2, (zrq (cg_mw u) (cg_mn u) (cg_mc u) (cHd u) wa.testBit (cg_mu u) (cWin u wd) 2147483647 (cg_mp u) (k + 1) g OU OP OQ), cg_se u, cg_sc u, cg_re u)) := by
  have e1 : (zrun (cg_mw u) (cg_mn u) (cg_mc u) (cHd u) wa.testBit (cg_mu u) (cWin u wd) 2147483647 (cg_mp u) (k + 1) g OU OP) = (g, OU, OP) := zrun_none hf (k + 1)
  have e2 : (zrq (cg_mw u) (cg_mn u) (cg_mc u) (cHd u) wa.testBit (cg_mu u) (cWin u wd) 2147483647 (cg_mp u) (k + 1) g OU OP OQ) = OQ := by rw [zrq, hf]
  rw [e1, e2]
  refine r_iload eX0_pass_146 rfl ?_
  refine r_if_ge eX0_pass_148 (fun hc148 => absurd hc148 (by decide)) (fun hc148 => ?_)
  exact z_vret eX0_pass_151 ⟨rfl, rfl⟩
set_option maxHeartbeats 1000000 in
set_option maxRecDepth 100000 in
theorem s0_pass_ts {t : zMod} {u : zCls} (hu : zMo u) {tu g wa br wd C p : Nat} {OU OP : Nat → Nat} {OQ : Nat → Int32} {v8 v9 : Value} {Q : Option Int32 → List zC → Prop} (hf : (zfst g.testBit (zcand wa.testBit (cg_mu u) (cWin u wd) OP) 2147483647 (cg_mp u)) = some p) (hcp : (zcand wa.testBit (cg_mu u) (cWin u wd) OP) p ≤ C) (hC : C ≤ 400000) (hg : g < 128) (hop : ∀ i, OP i ≤ 2147483647) (hwa : wa < 128) (htu : tu < cg_mp u) (kk : Rq mX0_pass 4 none 64 [.ref 40, .int (nI wa), .int (nI br), .int (nI wd), .int (nI (g ||| 1 * 2 ^ p)), .int (nI (tu + 1)), .int (nI p), .int (nI ((zcand wa.testBit (cg_mu u) (cWin u wd) OP) p)), v8, v9] [] (hA t (cg_let u, cg_lc u, cg_rt u, cg_rl u, cg_ra u, cg_rf u, cg_rn u, cg_rc u, cg_now u, cg_dra u, cg_kep u, cg_im u, cg_mp u, cg_mw u, cg_mu u, cg_mn u, cg_mi u, cg_mc u, cg_md u, (va_up OU p ((zcand wa.testBit (cg_mu u) (cWin u wd) OP) p)), (zgo (cg_mw u) (cg_mn u p) (cg_mc u p) (cHd u p) ((zcand wa.testBit (cg_mu u) (cWin u wd) OP) p) p OP (cg_mp u)).2.2, (zgq (cg_mw u) (cg_mn u p) (cg_mc u p) (cHd u p) ((zcand wa.testBit (cg_mu u) (cWin u wd) OP) p) p OP OQ (cg_mp u)), cg_se u, cg_sc u, cg_re u)) Q) : Rq mX0_pass 4 none 146 [.ref 40, .int (nI wa), .int (nI br), .int (nI wd), .int (nI g), .int (nI tu), .int (zor (some p)), .int (nI (zle (zcand wa.testBit (cg_mu u) (cWin u wd) OP) (some p))), v8, v9] [] (hA t (cg_let u, cg_lc u, cg_rt u, cg_rl u, cg_ra u, cg_rf u, cg_rn u, cg_rc u, cg_now u, cg_dra u, cg_kep u, cg_im u, cg_mp u, cg_mw u, cg_mu u, cg_mn u, cg_mi u, cg_mc u, cg_md u, OU, OP, OQ, cg_se u, cg_sc u, cg_re u)) Q := by
  obtain ⟨hp7, hq⟩ := id hu
  have hlt := zfst_lt hf
  have hpw := Nat.pow_lt_pow_right (show 1 < 2 by omega) (show p < 7 by omega)
  refine r_iload eX0_pass_146 rfl ?_
  refine n_if_ge eX0_pass_148 (by omega) ?_
  refine r_iload eX0_pass_152 rfl ?_
  refine n_iconst 1 eX0_pass_154 rfl ?_
  refine r_iload eX0_pass_155 rfl ?_
  refine n_shl eX0_pass_157 (by omega) (by omega) ?_
  refine n_or eX0_pass_158 ?_
  refine r_istore eX0_pass_159 (by decide) ?_
  refine r_aload_n eX0_pass_161 rfl rfl ?_
  refine r_getf (v := .ref 54) eX0_pass_162 fX0_32 rfl rfl ?_
  refine r_iload eX0_pass_165 rfl ?_
  refine r_iload eX0_pass_167 rfl ?_
  refine cw_mo (j := p) (v := ((zcand wa.testBit (cg_mu u) (cWin u wd) OP) p)) eX0_pass_169 rfl rfl (by omega) ?_
  refine r_aload_n eX0_pass_170 rfl rfl ?_
  refine r_iload eX0_pass_171 rfl ?_
  refine r_callVv1 eX0_pass_173 lX0_79 (Or.inl ⟨_, _, _, rfl, rfl, rfl⟩) (s0_openDoors (t := t) (u := (cg_let u, cg_lc u, cg_rt u, cg_rl u, cg_ra u, cg_rf u, cg_rn u, cg_rc u, cg_now u, cg_dra u, cg_kep u, cg_im u, cg_mp u, cg_mw u, cg_mu u, cg_mn u, cg_mi u, cg_mc u, cg_md u, (va_up (OU) (p) (((zcand wa.testBit (cg_mu u) (cWin u wd) OP) p))), OP, OQ, cg_se u, cg_sc u, cg_re u)) hu hlt.1 (by show va_up OU p ((zcand wa.testBit (cg_mu u) (cWin u wd) OP) p) p ≤ 400000; rw [zu_s]; omega) hop) (by omega) (Nat.le_of_ble_eq_true rfl) (fun h1 hq => ?_)
  have hq9 : h1 = hA t (cg_let u, cg_lc u, cg_rt u, cg_rl u, cg_ra u, cg_rf u, cg_rn u, cg_rc u, cg_now u, cg_dra u, cg_kep u, cg_im u, cg_mp u, cg_mw u, cg_mu u, cg_mn u, cg_mi u, cg_mc u, cg_md u, (va_up OU p ((zcand wa.testBit (cg_mu u) (cWin u wd) OP) p)), (zgo (cg_mw u) (cg_mn u p) (cg_mc u p) (cHd u p) ((zcand wa.testBit (cg_mu u) (cWin u wd) OP) p) p OP (cg_mp u)).2.2, (zgq (cg_mw u) (cg_mn u p) (cg_mc u p) (cHd u p) ((zcand wa.testBit (cg_mu u) (cWin u wd) OP) p) p OP OQ (cg_mp u)), cg_se u, cg_sc u, cg_re u) := by
    have e9 : va_up OU p ((zcand wa.testBit (cg_mu u) (cWin u wd) OP) p) p = ((zcand wa.testBit (cg_mu u) (cWin u wd) OP) p) := zu_s
    have hq8 : h1 = hA t (cg_let u, cg_lc u, cg_rt u, cg_rl u, cg_ra u, cg_rf u, cg_rn u, cg_rc u, cg_now u, cg_dra u, cg_kep u, cg_im u, cg_mp u, cg_mw u, cg_mu u, cg_mn u, cg_mi u, cg_mc u, cg_md u, (va_up OU p ((zcand wa.testBit (cg_mu u) (cWin u wd) OP) p)), (zgo (cg_mw u) (cg_mn u p) (cg_mc u p) (cHd u p) (va_up OU p ((zcand wa.testBit (cg_mu u) (cWin u wd) OP) p) p) p OP (cg_mp u)).2.2, (zgq (cg_mw u) (cg_mn u p) (cg_mc u p) (cHd u p) (va_up OU p ((zcand wa.testBit (cg_mu u) (cWin u wd) OP) p) p) p OP OQ (cg_mp u)), cg_se u, cg_sc u, cg_re u) := hq
    rw [e9] at hq8
    exact hq8
  subst hq9
  refine n_iinc (k := 1) eX0_pass_176 rfl (by decide) rfl ?_
  refine r_goto eX0_pass_179 ?_
  exact kk
set_option maxHeartbeats 1000000 in
set_option maxRecDepth 100000 in
theorem s0_pass_t {t : zMod} {u : zCls} (hu : zMo u) {wa br wd : Nat} (hwa : wa < 128) (hwd : wd < 2) : ∀ (k tu g C : Nat) (OU OP : Nat → Nat) (OQ : Nat → Int32) (v6 v7 v8 v9 : Value), tu + k = cg_mp u → g < 128 → 2000 ≤ C → C + 56000 * k ≤ 400000 → (∀ i, OP i ≤ 2147483647) → (∀ i, i < cg_mp u → zB C (OP i)) → Rq mX0_pass 4 none 64 [.ref 40, .int (nI wa), .int (nI br), .int (nI wd), .int (nI g), .int (nI tu), v6, v7, v8, v9] [] (hA t (cg_let u, cg_lc u, cg_rt u, cg_rl u, cg_ra u, cg_rf u, cg_rn u, cg_rc u, cg_now u, cg_dra u, cg_kep u, cg_im u, cg_mp u, cg_mw u, cg_mu u, cg_mn u, cg_mi u, cg_mc u, cg_md u, OU, OP, OQ, cg_se u, cg_sc u, cg_re u)) (fun r h' => r = none ∧ h' = hA t (cg_let u, cg_lc u, cg_rt u, cg_rl u, cg_ra u, cg_rf u, cg_rn u, cg_rc u, cg_now u, cg_dra u, cg_kep u, cg_im u, cg_mp u, cg_mw u, cg_mu u, cg_mn u, cg_mi u, cg_mc u, cg_md u, (zrun (cg_mw u) (cg_mn u) (cg_mc u) (cHd u) wa.testBit (cg_mu u) (cWin u wd) 2147483647 (cg_mp u) k g OU OP).2.1, (zrun (cg_mw u) (cg_mn u) (cg_mc u) (cHd u) wa.testBit (cg_mu u) (cWin u wd) 2147483647 (cg_mp u) k g OU OP).2.2, (zrq (cg_mw u) (cg_mn u) (cg_mc u) (cHd u) wa.testBit (cg_mu u) (cWin u wd) 2147483647 (cg_mp u) k g OU OP OQ), cg_se u, cg_sc u, cg_re u)) := by
  intro k
  induction k with
  | zero =>
    intro tu g C OU OP OQ v6 v7 v8 v9 hd hg hC hC2 hop hb
    obtain ⟨hp7, hq⟩ := id hu
    refine r_iload eX0_pass_64 rfl ?_
    refine r_aload_n eX0_pass_66 rfl rfl ?_
    refine r_getf (v := .int (nI (cg_mp u))) eX0_pass_67 fX0_47 rfl rfl ?_
    refine n_icmp_ge eX0_pass_70 (by omega) (by omega) (fun hc70 => ?_) (fun hc70 => absurd hc70 (by omega))
    exact z_vret eX0_pass_182 ⟨rfl, rfl⟩
  | succ k ih =>
    intro tu g C OU OP OQ v6 v7 v8 v9 hd hg hC hC2 hop hb
    obtain ⟨hp7, hq⟩ := id hu
    refine r_iload eX0_pass_64 rfl ?_
    refine r_aload_n eX0_pass_66 rfl rfl ?_
    refine r_getf (v := .int (nI (cg_mp u))) eX0_pass_67 fX0_47 rfl rfl ?_
    refine n_icmp_ge eX0_pass_70 (by omega) (by omega) (fun hc70 => absurd hc70 (by omega)) (fun hc70 => ?_)
    refine r_bipush (v := (-9)) eX0_pass_73 rfl ?_
    refine r_istore eX0_pass_75 (by decide) ?_
    refine n_ldc 2147483647 eX0_pass_77 kX0_74 rfl ?_
    refine r_istore eX0_pass_79 (by decide) ?_
    refine n_iconst 0 eX0_pass_81 rfl ?_
    refine r_istore eX0_pass_82 (by decide) ?_
    refine s0_pass_i hu hg hwa hwd hC hop hb (fun v9 => ?_) (cg_mp u) 0 v9 (Nat.zero_add _)
    cases hf : (zfst g.testBit (zcand wa.testBit (cg_mu u) (cWin u wd) OP) 2147483647 (cg_mp u)) with
    | none => exact s0_pass_tn hu hf
    | some p =>
      have hlt := zfst_lt hf
      have hcb := cCand_b (wd := wd) (W := wa.testBit) hu hC hlt.1 (hb p hlt.1)
      have hcp : (zcand wa.testBit (cg_mu u) (cWin u wd) OP) p ≤ C := hcb.resolve_right (by have := hlt.2.2; omega)
      obtain ⟨q1, q2, q3, q4, q5, q6⟩ := hq p hlt.1
      have hzb := zgo_b (hold := cHd u p) (m0 := (zcand wa.testBit (cg_mu u) (cWin u wd) OP) p) (op := OP) (fun a b ha hb => (hq a ha).1 b hb) q3 q4 hlt.1 (cg_mp u) (Nat.le_refl _)
      have ih9 := ih (tu + 1) (g ||| 1 * 2 ^ p) (C + 56000) (va_up OU p ((zcand wa.testBit (cg_mu u) (cWin u wd) OP) p)) (zgo (cg_mw u) (cg_mn u p) (cg_mc u p) (cHd u p) ((zcand wa.testBit (cg_mu u) (cWin u wd) OP) p) p OP (cg_mp u)).2.2 (zgq (cg_mw u) (cg_mn u p) (cg_mc u p) (cHd u p) ((zcand wa.testBit (cg_mu u) (cWin u wd) OP) p) p OP OQ (cg_mp u)) (.int (nI p)) (.int (nI ((zcand wa.testBit (cg_mu u) (cWin u wd) OP) p))) (.int (nI (cg_mp u))) v9 (by omega) (zor_lt hg (by omega)) (by omega) (by omega) (fun i => Nat.le_trans (zgo_op _ i) (hop i)) (fun i hi => ?_)
      · refine s0_pass_ts hu hf hcp (by omega) hg hop hwa (by omega) ?_
        have e1 : (zrun (cg_mw u) (cg_mn u) (cg_mc u) (cHd u) wa.testBit (cg_mu u) (cWin u wd) 2147483647 (cg_mp u) (k + 1) g OU OP) = _ := zrun_some hf
        have e2 : (zrq (cg_mw u) (cg_mn u) (cg_mc u) (cHd u) wa.testBit (cg_mu u) (cWin u wd) 2147483647 (cg_mp u) (k + 1) g OU OP OQ) = (zrq (cg_mw u) (cg_mn u) (cg_mc u) (cHd u) wa.testBit (cg_mu u) (cWin u wd) 2147483647 (cg_mp u) k (g ||| 1 * 2 ^ p) (va_up OU p ((zcand wa.testBit (cg_mu u) (cWin u wd) OP) p)) (zgo (cg_mw u) (cg_mn u p) (cg_mc u p) (cHd u p) ((zcand wa.testBit (cg_mu u) (cWin u wd) OP) p) p OP (cg_mp u)).2.2 (zgq (cg_mw u) (cg_mn u p) (cg_mc u p) (cHd u p) ((zcand wa.testBit (cg_mu u) (cWin u wd) OP) p) p OP OQ (cg_mp u))) := by rw [zrq, hf]
        rw [e1, e2]
        exact ih9
      · rcases hzb.2.2 i with h | h
        · rw [h]
          rcases hb i hi with h2 | h2
          · exact Or.inl (by omega)
          · exact Or.inr h2
        · exact Or.inl (by omega)
theorem cP0_b {u : zCls} {br i : Nat} (h : ∀ i, cg_ms u i ≤ 2147483647) : cP0 u br i ≤ 2147483647 := by
  unfold cP0 zop0
  split
  · split <;> omega
  · exact h i
set_option maxHeartbeats 1000000 in
set_option maxRecDepth 100000 in
theorem s0_pass_s {t : zMod} {u : zCls} (hu : zMo u) {wa br wd : Nat} (hwa : wa < 128) (hbr : br < 128) (hwd : wd < 2) (hms : ∀ i, cg_ms u i ≤ 2147483647) {v4 v5 v6 v7 v8 v9 : Value} : Rq mX0_pass 4 none 58 [.ref 40, .int (nI wa), .int (nI br), .int (nI wd), v4, v5, v6, v7, v8, v9] [] (hA t (cg_let u, cg_lc u, cg_rt u, cg_rl u, cg_ra u, cg_rf u, cg_rn u, cg_rc u, cg_now u, cg_dra u, cg_kep u, cg_im u, cg_mp u, cg_mw u, cg_mu u, cg_mn u, cg_mi u, cg_mc u, cg_md u, (cO0 u), (cP0 u br), (cQ0 u), cg_se u, cg_sc u, cg_re u)) (fun r h' => r = none ∧ h' = hA t (cg_let u, cg_lc u, cg_rt u, cg_rl u, cg_ra u, cg_rf u, cg_rn u, cg_rc u, cg_now u, cg_dra u, cg_kep u, cg_im u, cg_mp u, cg_mw u, cg_mu u, cg_mn u, cg_mi u, cg_mc u, cg_md u, (cRun u wa br wd).2.1, (cRun u wa br wd).2.2, (cRq u wa br wd), cg_se u, cg_sc u, cg_re u)) := by
  obtain ⟨hp7, hq⟩ := id hu
  refine n_iconst 0 eX0_pass_58 rfl ?_
  refine r_istore eX0_pass_59 (by decide) ?_
  refine n_iconst 0 eX0_pass_61 rfl ?_
  refine r_istore eX0_pass_62 (by decide) ?_
  exact s0_pass_t hu hwa hwd (cg_mp u) 0 0 2000 (cO0 u) (cP0 u br) (cQ0 u) v6 v7 v8 v9 (Nat.zero_add _) (by decide) (Nat.le_refl _) (by omega) (fun i => cP0_b hms) (fun i hi => by unfold cP0 zop0 zB; rw [if_pos hi]; split <;> omega)
set_option maxHeartbeats 1000000 in
set_option maxRecDepth 100000 in
theorem s0_pass {t : zMod} {u : zCls} (hu : zMo u) {wa br wd : Nat} (hwa : wa < 128) (hbr : br < 128) (hwd : wd < 2) (hms : ∀ i, cg_ms u i ≤ 2147483647) : Mv mX0_pass 4 [.ref 40, .int (nI (wa)), .int (nI (br)), .int (nI (wd))] (hA t u) (fun h' => h' = hA t (cg_let u, cg_lc u, cg_rt u, cg_rl u, cg_ra u, cg_rf u, cg_rn u, cg_rc u, cg_now u, cg_dra u, cg_kep u, cg_im u, cg_mp u, cg_mw u, cg_mu u, cg_mn u, cg_mi u, cg_mc u, cg_md u, (cRun u wa br wd).2.1, (cRun u wa br wd).2.2, (cRq u wa br wd), cg_se u, cg_sc u, cg_re u)) := by
  refine Mv.of (by decide) rfl rfl (Nat.le_of_ble_eq_true rfl) ?_
  refine n_iconst 0 eX0_pass_0 rfl ?_
  refine r_istore eX0_pass_1 (by decide) ?_
  refine z_h (h' := hA t (cg_let u, cg_lc u, cg_rt u, cg_rl u, cg_ra u, cg_rf u, cg_rn u, cg_rc u, cg_now u, cg_dra u, cg_kep u, cg_im u, cg_mp u, cg_mw u, cg_mu u, cg_mn u, cg_mi u, cg_mc u, cg_md u, (cg_mo u), (cg_ms u), (cg_mq u), cg_se u, cg_sc u, cg_re u)) rfl ?_
  refine s0_pass_1 (wd := wd) hu hbr (fun v5 v6 v7 v8 v9 => ?_) (cg_mp u) 0 _ _ _ _ _ _ _ _ (Nat.zero_add _) (fun i => by rw [if_neg (by omega)]) (fun i => by rw [if_neg (by omega)]) (fun i => by rw [if_neg (by omega)])
  exact s0_pass_s hu hwa hbr hwd hms
