/-! THE REFERENCE: finds -/
def sOp0 (br n : Nat) (op : Nat → Nat) (i : Nat) : Nat := if i < n then zop0 br 1000000 i else op i
def sRun (S : Nat → Nat) (nw br : Nat) (op : Nat → Nat) : Nat × (Nat → Nat) × (Nat → Nat) := zrun (sWay S) (sNd S) (sPc S) (sHd S) (S 2).testBit (sUp S) (sWin S nw) 1000000 (S 0) (S 0) 0 (fun _ => 1000000) (sOp0 br (S 0) op)
def sOut (S : Nat → Nat) (nw br : Nat) (op : Nat → Nat) (i : Nat) : Nat := if (sRun S nw br op).1.testBit i = true then (sRun S nw br op).2.1 i else 1000000
theorem zor_lt {g p : Nat} (hg : g < 128) (hp : p < 7) : g ||| 1 * 2 ^ p < 128 := by
  have h2 : 2 ^ p < 2 ^ 7 := Nat.pow_lt_pow_right (by omega) hp
  exact Nat.or_lt_two_pow (n := 7) hg (by omega)

set_option maxHeartbeats 1000000 in
set_option maxRecDepth 100000 in
theorem s4_finds_1 {t : zMod} {u : zCls} (hs : ∀ i, mg_s t i ≤ 1000) (h0 : mg_s t 0 ≤ 7) (hbr : mg_br t < 128) {d : Nat} {Q : Option Int32 → List zC → Prop} (kk : Rq mX4_finds d none 42 [.ref 0, .int (nI (mg_s t 0)), .retAddr 0] [] (hA (mg_re t, mg_s t, mg_im t, mg_rd t, mg_ii t, mg_tp t, mg_tl t, mg_ta t, mg_at t, mg_ou t, (sOp0 (mg_br t) (mg_s t 0) (mg_op t)), mg_br t, mg_nw t, mg_fs t, mg_bc t, mg_kr t, mg_rw t, mg_rc t) u) Q) : ∀ (k : Nat) (pp : Nat) (O : Nat → Nat) (hd : pp + k = mg_s t 0) (hO : ∀ i, O i = if i < pp then zop0 (mg_br t) 1000000 i else mg_op t i), Rq mX4_finds d none 2 [.ref 0, .int (nI (pp)), .retAddr 0] [] (hA (mg_re t, mg_s t, mg_im t, mg_rd t, mg_ii t, mg_tp t, mg_tl t, mg_ta t, mg_at t, mg_ou t, O, mg_br t, mg_nw t, mg_fs t, mg_bc t, mg_kr t, mg_rw t, mg_rc t) u) Q  := by
  intro k
  induction k with
  | zero =>
    intro pp O hd hO
    refine r_iload_n eX4_finds_2 rfl rfl ?_
    refine r_aload_n eX4_finds_3 rfl rfl ?_
    refine r_getf (v := .ref 2) eX4_finds_4 fX4_13 rfl rfl ?_
    refine n_iconst 0 eX4_finds_7 rfl ?_
    refine n_iald (f := mg_s t) (j := 0) eX4_finds_8 rfl rfl (by first | omega | exact zlt (hs _) | exact hou _ | exact hop _) (by decide) ?_
    refine n_icmp_ge eX4_finds_9 (by first | omega | exact zlt (hs _) | exact hou _ | exact hop _) (by first | omega | exact zlt (hs _) | exact hou _ | exact hop _) (fun hc9 => ?_) (fun hc9 => absurd hc9 (by omega))
    have e0 : pp = mg_s t 0 := by omega
    have e1 : O = sOp0 (mg_br t) (mg_s t 0) (mg_op t) := funext fun i => by rw [hO i, e0]; rfl
    rw [e1, e0]
    exact kk
  | succ k ih =>
    intro pp O hd hO
    have hdn : pp < mg_s t 0 := by omega
    refine r_iload_n eX4_finds_2 rfl rfl ?_
    refine r_aload_n eX4_finds_3 rfl rfl ?_
    refine r_getf (v := .ref 2) eX4_finds_4 fX4_13 rfl rfl ?_
    refine n_iconst 0 eX4_finds_7 rfl ?_
    refine n_iald (f := mg_s t) (j := 0) eX4_finds_8 rfl rfl (by first | omega | exact zlt (hs _) | (have := zb2 (mg_br t) pp; omega) | (have := zb2 (mg_br t) 0; omega)) (by decide) ?_
    refine n_icmp_ge eX4_finds_9 (by first | omega | exact zlt (hs _) | (have := zb2 (mg_br t) pp; omega) | (have := zb2 (mg_br t) 0; omega)) (by first | omega | exact zlt (hs _) | (have := zb2 (mg_br t) pp; omega) | (have := zb2 (mg_br t) 0; omega)) (fun hc9 => absurd hc9 (by omega)) (fun hc9 => ?_)
    refine r_aload_n eX4_finds_12 rfl rfl ?_
    refine r_getf (v := .ref 8) eX4_finds_13 fX4_31 rfl rfl ?_
    refine r_iload_n eX4_finds_16 rfl rfl ?_
    refine r_aload_n eX4_finds_17 rfl rfl ?_
    refine r_getf (v := .int (nI (mg_br t))) eX4_finds_18 fX4_137 rfl rfl ?_
    refine r_iload_n eX4_finds_21 rfl rfl ?_
    refine n_shr eX4_finds_22 (by first | omega | exact zlt (hs _) | (have := zb2 (mg_br t) pp; omega) | (have := zb2 (mg_br t) 0; omega)) (by first | omega | exact zlt (hs _) | (have := zb2 (mg_br t) pp; omega) | (have := zb2 (mg_br t) 0; omega)) ?_
    refine n_iconst 1 eX4_finds_23 rfl ?_
    refine n_and eX4_finds_24 ?_
    refine n_iconst 1 eX4_finds_25 rfl ?_
    refine n_icmp_ne eX4_finds_26 (by first | omega | exact zlt (hs _) | (have := zb2 (mg_br t) pp; omega) | (have := zb2 (mg_br t) 0; omega)) (by first | omega | exact zlt (hs _) | (have := zb2 (mg_br t) pp; omega) | (have := zb2 (mg_br t) 0; omega)) (fun hc26 => ?_) (fun hc26 => ?_)
    · refine n_ldc 1000000 eX4_finds_33 kX4_129 rfl ?_
      refine mw_op (j := pp) (v := 1000000) eX4_finds_35 rfl rfl (by first | omega | exact zlt (hs _) | (have := zb2 (mg_br t) pp; omega) | (have := zb2 (mg_br t) 0; omega)) ?_
      refine n_iinc (k := 1) eX4_finds_36 rfl (by decide) rfl ?_
      refine r_goto eX4_finds_39 ?_
      refine ih (pp + 1) ((va_up (O) (pp) (1000000))) (by omega) (fun i => ?_)
      unfold va_up
      by_cases ei : i = pp
      · rw [if_pos ei, ei, if_pos (by omega), zop0, if_neg (by rw [zb0 hc26]; decide)]
      · rw [if_neg ei, hO i]
        by_cases e2 : i < pp
        · rw [if_pos e2, if_pos (by omega)]
        · rw [if_neg e2, if_neg (by omega)]
    · refine n_iconst 0 eX4_finds_29 rfl ?_
      refine r_goto eX4_finds_30 ?_
      refine mw_op (j := pp) (v := 0) eX4_finds_35 rfl rfl (by first | omega | exact zlt (hs _) | (have := zb2 (mg_br t) pp; omega) | (have := zb2 (mg_br t) 0; omega)) ?_
      refine n_iinc (k := 1) eX4_finds_36 rfl (by decide) rfl ?_
      refine r_goto eX4_finds_39 ?_
      refine ih (pp + 1) ((va_up (O) (pp) (0))) (by omega) (fun i => ?_)
      unfold va_up
      by_cases ei : i = pp
      · rw [if_pos ei, ei, if_pos (by omega), zop0, if_pos (zb1 hc26)]
      · rw [if_neg ei, hO i]
        by_cases e2 : i < pp
        · rw [if_pos e2, if_pos (by omega)]
        · rw [if_neg e2, if_neg (by omega)]
set_option maxHeartbeats 1000000 in
set_option maxRecDepth 100000 in
theorem s4_finds_2 {t : zMod} {u : zCls} (hs : ∀ i, mg_s t i ≤ 1000) (h0 : mg_s t 0 ≤ 7) (h1 : mg_s t 1 ≤ 12) (hnw : mg_nw t < 2) : ∀ (k : Nat) (g : Nat) (O P : Nat → Nat) (f : Option Nat) (Rr : Nat → Nat) (hk : zleft g (mg_s t 0) ≤ k) (hg : g < 128) (hf : zfst (Nat.testBit g) (sCand (mg_s t) (mg_nw t) P) 1000000 (mg_s t 0) = f) (hO : ∀ i, i < mg_s t 0 → (g.testBit i = true → O i = Rr i) ∧ (g.testBit i = false → O i = sCand (mg_s t) (mg_nw t) P i)) (hOle : ∀ i, O i ≤ 1000000) (hP : ∀ i, P i ≤ 1000000), Rq mX4_finds 5 none 50 [.ref 0, .int (nI g), .int (zor f)] [] (hA (mg_re t, mg_s t, mg_im t, mg_rd t, mg_ii t, mg_tp t, mg_tl t, mg_ta t, mg_at t, O, P, mg_br t, mg_nw t, mg_fs t, mg_bc t, mg_kr t, mg_rw t, mg_rc t) u) (fun r h' => r = none ∧ ∃ (O' P' : Nat → Nat), h' = hA (mg_re t, mg_s t, mg_im t, mg_rd t, mg_ii t, mg_tp t, mg_tl t, mg_ta t, mg_at t, O', P', mg_br t, mg_nw t, mg_fs t, mg_bc t, mg_kr t, mg_rw t, mg_rc t) u ∧ (∀ i, i < mg_s t 0 → O' i = if (zrun (sWay (mg_s t)) (sNd (mg_s t)) (sPc (mg_s t)) (sHd (mg_s t)) (mg_s t 2).testBit (sUp (mg_s t)) (sWin (mg_s t) (mg_nw t)) 1000000 (mg_s t 0) k g Rr P).1.testBit i = true then (zrun (sWay (mg_s t)) (sNd (mg_s t)) (sPc (mg_s t)) (sHd (mg_s t)) (mg_s t 2).testBit (sUp (mg_s t)) (sWin (mg_s t) (mg_nw t)) 1000000 (mg_s t 0) k g Rr P).2.1 i else 1000000) ∧ (∀ i, O' i ≤ 1000000) ∧ P' = (zrun (sWay (mg_s t)) (sNd (mg_s t)) (sPc (mg_s t)) (sHd (mg_s t)) (mg_s t 2).testBit (sUp (mg_s t)) (sWin (mg_s t) (mg_nw t)) 1000000 (mg_s t 0) k g Rr P).2.2 ∧ ∀ i, P' i ≤ 1000000) := by
  intro k
  induction k using Nat.strongRecOn with
  | ind k ih =>
    intro g O P f Rr hk hg hf hO hOle hP
    cases f with
    | none =>
      refine r_iload_n eX4_finds_50 rfl rfl ?_
      refine r_if_lt eX4_finds_51 (fun hc51 => ?_) (fun hc51 => absurd hc51 (fun z => z (by decide)))
      refine z_vret eX4_finds_74 ⟨rfl, O, P, rfl, fun i hi => ?_, hOle, ?_, hP⟩
      · rw [zrun_none hf]
        dsimp only
        cases hb : g.testBit i with
        | true => rw [if_pos rfl]; exact (hO i hi).1 hb
        | false =>
          rw [if_neg (by decide), (hO i hi).2 hb]
          exact Nat.le_antisymm (zcand_le (sWin_le hs _ i)) (zfst_none hf i hi hb)
      · rw [zrun_none hf]
    | some q =>
      refine r_iload_n eX4_finds_50 rfl rfl ?_
      refine n_if_lt eX4_finds_51 (by have := (zfst_lt hf).1; omega) ?_
      refine r_iload_n eX4_finds_54 rfl rfl ?_
      refine n_iconst 1 eX4_finds_55 rfl ?_
      refine r_iload_n eX4_finds_56 rfl rfl ?_
      refine n_shl eX4_finds_57 (by have := (zfst_lt hf).1; omega) (by have := (zfst_lt hf).1; have h2 : 2 ^ q < 2 ^ 7 := Nat.pow_lt_pow_right (by omega) (by omega); omega) ?_
      refine n_or eX4_finds_58 ?_
      refine r_istore_n eX4_finds_59 rfl (by decide) ?_
      refine r_aload_n eX4_finds_60 rfl rfl ?_
      refine r_iload_n eX4_finds_61 rfl rfl ?_
      refine r_callVv1 eX4_finds_62 lX4_143 (Or.inl ⟨_, _, _, rfl, rfl, rfl⟩) (s4_goesRound (t := (mg_re t, mg_s t, mg_im t, mg_rd t, mg_ii t, mg_tp t, mg_tl t, mg_ta t, mg_at t, O, P, mg_br t, mg_nw t, mg_fs t, mg_bc t, mg_kr t, mg_rw t, mg_rc t)) (u := u) hs h0 h1 (zfst_lt hf).1 (hOle q) hP) (by omega) (Nat.le_of_ble_eq_true rfl) (fun h1 hq => ?_)
      obtain rfl := (show h1 = hA (mg_re t, mg_s t, mg_im t, mg_rd t, mg_ii t, mg_tp t, mg_tl t, mg_ta t, mg_at t, O, (zgo (sWay (mg_s t)) (sNd (mg_s t) q) (sPc (mg_s t) q) (sHd (mg_s t) q) (O q) q P (mg_s t 0)).2.2, mg_br t, mg_nw t, mg_fs t, mg_bc t, mg_kr t, mg_rw t, mg_rc t) u from hq)
      refine r_aload_n eX4_finds_65 rfl rfl ?_
      refine r_iload_n eX4_finds_66 rfl rfl ?_
      refine r_callVi1 eX4_finds_67 lX4_140 (Or.inl ⟨_, _, _, rfl, rfl, rfl⟩) (s4_firstOut (t := (mg_re t, mg_s t, mg_im t, mg_rd t, mg_ii t, mg_tp t, mg_tl t, mg_ta t, mg_at t, O, (zgo (sWay (mg_s t)) (sNd (mg_s t) q) (sPc (mg_s t) q) (sHd (mg_s t) q) (O q) q P (mg_s t 0)).2.2, mg_br t, mg_nw t, mg_fs t, mg_bc t, mg_kr t, mg_rw t, mg_rc t)) (u := u) hs h0 hnw (fun i => Nat.le_trans (zgo_op _ i) (hP i)) (zor_lt hg (by have := (zfst_lt hf).1; omega)) hOle) (by omega) (Nat.le_of_ble_eq_true rfl) (fun r1 h1 hq => ?_)
      obtain ⟨rfl, rfl⟩ := (show r1 = zor (zfst (Nat.testBit (g ||| (1 * 2 ^ q))) (sCand (mg_s t) (mg_nw t) (zgo (sWay (mg_s t)) (sNd (mg_s t) q) (sPc (mg_s t) q) (sHd (mg_s t) q) (O q) q P (mg_s t 0)).2.2) 1000000 (mg_s t 0)) ∧ h1 = hA (mg_re t, mg_s t, mg_im t, mg_rd t, mg_ii t, mg_tp t, mg_tl t, mg_ta t, mg_at t, (fun i => if i < mg_s t 0 ∧ Nat.testBit (g ||| (1 * 2 ^ q)) i = false then sCand (mg_s t) (mg_nw t) (zgo (sWay (mg_s t)) (sNd (mg_s t) q) (sPc (mg_s t) q) (sHd (mg_s t) q) (O q) q P (mg_s t 0)).2.2 i else O i), (zgo (sWay (mg_s t)) (sNd (mg_s t) q) (sPc (mg_s t) q) (sHd (mg_s t) q) (O q) q P (mg_s t 0)).2.2, mg_br t, mg_nw t, mg_fs t, mg_bc t, mg_kr t, mg_rw t, mg_rc t) u from hq)
      refine r_istore_n eX4_finds_70 rfl (by decide) ?_
      refine r_goto eX4_finds_71 ?_
      have hq1 := zfst_lt hf
      have hP2 : ∀ i, (zgo (sWay (mg_s t)) (sNd (mg_s t) q) (sPc (mg_s t) q) (sHd (mg_s t) q) (O q) q P (mg_s t 0)).2.2 i ≤ 1000000 := fun i => Nat.le_trans (zgo_op _ i) (hP i)
      cases k with
      | zero => have := zleft_0 (Nat.le_zero.mp hk) q hq1.1; rw [hq1.2.1] at this; cases this
      | succ k =>
        have hcq : O q = sCand (mg_s t) (mg_nw t) P q := (hO q hq1.1).2 hq1.2.1
        have e1 := zrun_some (way := sWay (mg_s t)) (nd := sNd (mg_s t)) (pc := sPc (mg_s t)) (hold := sHd (mg_s t)) (ou := Rr) (k := k) hf
        rw [e1]
        have hfo : (zgo (sWay (mg_s t)) (sNd (mg_s t) q) (sPc (mg_s t) q) (sHd (mg_s t) q) (O q) q P (mg_s t 0)).2.2 = (zgo (sWay (mg_s t)) (sNd (mg_s t) q) (sPc (mg_s t) q) (sHd (mg_s t) q) (zcand (mg_s t 2).testBit (sUp (mg_s t)) (sWin (mg_s t) (mg_nw t)) P q) q P (mg_s t 0)).2.2 := by rw [hcq]; rfl
        rw [← hfo]
        refine ih k (by omega) (g ||| (1 * 2 ^ q)) ((fun i => if i < mg_s t 0 ∧ Nat.testBit (g ||| (1 * 2 ^ q)) i = false then sCand (mg_s t) (mg_nw t) (zgo (sWay (mg_s t)) (sNd (mg_s t) q) (sPc (mg_s t) q) (sHd (mg_s t) q) (O q) q P (mg_s t 0)).2.2 i else O i)) ((zgo (sWay (mg_s t)) (sNd (mg_s t) q) (sPc (mg_s t) q) (sHd (mg_s t) q) (O q) q P (mg_s t 0)).2.2) (zfst (Nat.testBit (g ||| (1 * 2 ^ q))) (sCand (mg_s t) (mg_nw t) ((zgo (sWay (mg_s t)) (sNd (mg_s t) q) (sPc (mg_s t) q) (sHd (mg_s t) q) (O q) q P (mg_s t 0)).2.2)) 1000000 (mg_s t 0)) (va_up Rr q (zcand (mg_s t 2).testBit (sUp (mg_s t)) (sWin (mg_s t) (mg_nw t)) P q)) (by have := zleft_or (n := mg_s t 0) hq1.2.1; rw [if_pos hq1.1] at this; omega) (zor_lt hg (by omega)) rfl ?_ ?_ hP2
        · intro i hi
          refine ⟨fun hb => ?_, fun hb => ?_⟩
          · rw [if_neg (by rw [hb]; rintro ⟨-, h⟩; cases h)]
            rw [zor_bit] at hb
            by_cases ei : i = q
            · subst ei; rw [zu_s]; exact hcq
            · rw [zu_n ei]
              simp only [ei, decide_false, Bool.or_false] at hb
              exact (hO i hi).1 hb
          · rw [if_pos ⟨hi, hb⟩]
        · intro i
          split
          · exact zcand_le (sWin_le hs _ i)
          · exact hOle i
theorem sOp0_le {br n : Nat} {op : Nat → Nat} (h : ∀ i, op i ≤ 1000000) (i : Nat) : sOp0 br n op i ≤ 1000000 := by
  unfold sOp0 zop0
  split
  · split <;> omega
  · exact h i
set_option maxHeartbeats 1000000 in
set_option maxRecDepth 100000 in
theorem s4_finds {t : zMod} {u : zCls} (hs : ∀ i, mg_s t i ≤ 1000) (h0 : mg_s t 0 ≤ 7) (h1 : mg_s t 1 ≤ 12) (hnw : mg_nw t < 2) (hbr : mg_br t < 128) (hou : ∀ i, mg_ou t i ≤ 1000000) (hop : ∀ i, mg_op t i ≤ 1000000) : Mv mX4_finds 5 [.ref 0] (hA t u) (fun h' => ∃ (O' P' : Nat → Nat), h' = hA (mg_re t, mg_s t, mg_im t, mg_rd t, mg_ii t, mg_tp t, mg_tl t, mg_ta t, mg_at t, O', P', mg_br t, mg_nw t, mg_fs t, mg_bc t, mg_kr t, mg_rw t, mg_rc t) u ∧ (∀ i, i < mg_s t 0 → O' i = sOut (mg_s t) (mg_nw t) (mg_br t) (mg_op t) i) ∧ (∀ i, O' i ≤ 1000000) ∧ P' = (sRun (mg_s t) (mg_nw t) (mg_br t) (mg_op t)).2.2 ∧ ∀ i, P' i ≤ 1000000) := by
  refine Mv.of (by decide) rfl rfl (Nat.le_of_ble_eq_true rfl) ?_
  refine n_iconst 0 eX4_finds_0 rfl ?_
  refine r_istore_n eX4_finds_1 rfl (by decide) ?_
  refine s4_finds_1 hs h0 hbr ?_ (mg_s t 0) 0 (mg_op t) (by omega) (fun i => by rw [if_neg (by omega)])
  refine n_iconst 0 eX4_finds_42 rfl ?_
  refine r_istore_n eX4_finds_43 rfl (by decide) ?_
  refine r_aload_n eX4_finds_44 rfl rfl ?_
  refine r_iload_n eX4_finds_45 rfl rfl ?_
  refine r_callVi1 eX4_finds_46 lX4_140 (Or.inl ⟨_, _, _, rfl, rfl, rfl⟩) (s4_firstOut (t := (mg_re t, mg_s t, mg_im t, mg_rd t, mg_ii t, mg_tp t, mg_tl t, mg_ta t, mg_at t, mg_ou t, (sOp0 (mg_br t) (mg_s t 0) (mg_op t)), mg_br t, mg_nw t, mg_fs t, mg_bc t, mg_kr t, mg_rw t, mg_rc t)) (u := u) (g := 0) hs h0 hnw (sOp0_le hop) (by omega) hou) (by omega) (Nat.le_of_ble_eq_true rfl) (fun r1 h1 hq => ?_)
  obtain ⟨rfl, rfl⟩ := (show r1 = zor (zfst (Nat.testBit 0) (sCand (mg_s t) (mg_nw t) (sOp0 (mg_br t) (mg_s t 0) (mg_op t))) 1000000 (mg_s t 0)) ∧ h1 = hA (mg_re t, mg_s t, mg_im t, mg_rd t, mg_ii t, mg_tp t, mg_tl t, mg_ta t, mg_at t, (fun i => if i < mg_s t 0 ∧ Nat.testBit 0 i = false then sCand (mg_s t) (mg_nw t) (sOp0 (mg_br t) (mg_s t 0) (mg_op t)) i else mg_ou t i), (sOp0 (mg_br t) (mg_s t 0) (mg_op t)), mg_br t, mg_nw t, mg_fs t, mg_bc t, mg_kr t, mg_rw t, mg_rc t) u from hq)
  refine r_istore_n eX4_finds_49 rfl (by decide) ?_
  refine Rq.mono (s4_finds_2 hs h0 h1 hnw (mg_s t 0) 0 (fun i => if i < mg_s t 0 ∧ Nat.testBit 0 i = false then sCand (mg_s t) (mg_nw t) (sOp0 (mg_br t) (mg_s t 0) (mg_op t)) i else mg_ou t i) (sOp0 (mg_br t) (mg_s t 0) (mg_op t)) _ (fun _ => 1000000) (zleft_le 0 _) (by omega) rfl (fun i hi => ⟨fun hb => ?_, fun hb => ?_⟩) (fun i => ?_) (sOp0_le hop)) (fun r h' hq => ?_)
  · rw [Nat.zero_testBit] at hb; cases hb
  · rw [if_pos ⟨hi, hb⟩]
  · split
    · exact zcand_le (sWin_le hs _ i)
    · exact hou i
  · exact hq
