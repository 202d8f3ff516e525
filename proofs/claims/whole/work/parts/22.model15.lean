/-! THE REFERENCE: all statements -/
def sRead (f : Nat → Nat) (n : Nat) (S D : Nat → Nat) : Int32 × (Nat → Nat) := match pAl f n (n + 1) 0 with
  | (a, none) => ((-1000) - nI a, S)
  | (_, some m) => match pT sTell f n (n + 1) 0 0 (zcp S D 64) with
    | (a, none) => ((-2000) - nI a, S)
    | (_, some (_, D')) => (nI m, zcp D' S 64)
theorem zsome {α : Type} {o : Option α} (h : 0 < o.isSome.toNat) : ∃ x, o = some x := by
  cases o with
  | none => exact absurd h (Nat.lt_irrefl 0)
  | some x => exact ⟨x, rfl⟩
theorem znone {α : Type} {o : Option α} (h : o.isSome.toNat = 0) : o = none := by
  cases o with
  | none => rfl
  | some x => exact absurd h Nat.one_ne_zero
theorem zsome_lt {α : Type} : ∀ (o : Option α), o.isSome.toNat < 2 ^ 31
  | none => (by decide : 0 < 2 ^ 31)
  | some _ => (by decide : 1 < 2 ^ 31)
theorem s4_comes2 {t : zMod} {u : zCls} (hrd : sRd (mg_rd t)) {x : zN5} (hx : x.1 ≤ 9 ∧ x.2.1 ≤ 99 ∧ x.2.2.1 ≤ 9 ∧ x.2.2.2.1 ≤ 999 ∧ x.2.2.2.2 ≤ 9) {c : Nat} (hc : c = 112 ∨ c = 107 ∨ c = 119 ∨ c = 115 ∨ c = 114 ∨ c = 111) (hL : zTl c x (mg_tl t)) : Mi mX4_comes 2 [.ref 0, .int (nI c)] (hA t u) (fun r h' => r = nI ((sTell c x (mg_rd t)).isSome.toNat) ∧ h' = hA (mg_re t, mg_s t, mg_im t, ((sTell c x (mg_rd t)).getD (mg_rd t)), mg_ii t, mg_tp t, mg_tl t, mg_ta t, mg_at t, mg_ou t, mg_op t, mg_br t, mg_nw t, mg_fs t, mg_bc t, mg_kr t, mg_rw t, mg_rc t) u) := (s4_comes hrd hx hc hL).mono (fun r h' q => by
  rcases q with ⟨h1, h2, h3⟩ | ⟨D, h1, h2, h3⟩
  · rw [h1]; exact ⟨h2, h3⟩
  · rw [h1]; exact ⟨h2, h3⟩)
set_option maxHeartbeats 1000000 in
set_option maxRecDepth 100000 in
theorem s4_reads_1 {t : zMod} {u : zCls} (hta : mg_ta t ≤ 80) (htp : ∀ i, mg_tp t i ≤ 255) {Q : Option Int32 → List zC → Prop} {v2 v3 v4 : Value} {P0 : Nat × Option Nat} (kf : ∀ (L' : Nat → Int32) (a' : Nat), P0 = (a', none) → Q (some ((-1000) - nI a')) (hA (mg_re t, mg_s t, mg_im t, mg_rd t, mg_ii t, mg_tp t, L', mg_ta t, a', mg_ou t, mg_op t, mg_br t, mg_nw t, mg_fs t, mg_bc t, mg_kr t, mg_rw t, mg_rc t) u)) (ky : ∀ (L' : Nat → Int32) (a' M : Nat), P0 = (a', some M) → Rq mX4_reads 8 none 37 [.ref 0, .int (nI M), v2, v3, v4] [] (hA (mg_re t, mg_s t, mg_im t, mg_rd t, mg_ii t, mg_tp t, L', mg_ta t, a', mg_ou t, mg_op t, mg_br t, mg_nw t, mg_fs t, mg_bc t, mg_kr t, mg_rw t, mg_rc t) u) Q) : ∀ (k a m : Nat) (L : Nat → Int32), a ≤ mg_ta t → mg_ta t < a + k → P0 = ((pAl (mg_tp t) (mg_ta t) k a).1, (pAl (mg_tp t) (mg_ta t) k a).2.map (· + m)) → Rq mX4_reads 8 none 7 [.ref 0, .int (nI m), v2, v3, v4] [] (hA (mg_re t, mg_s t, mg_im t, mg_rd t, mg_ii t, mg_tp t, L, mg_ta t, a, mg_ou t, mg_op t, mg_br t, mg_nw t, mg_fs t, mg_bc t, mg_kr t, mg_rw t, mg_rc t) u) Q := by
  intro k
  induction k with
  | zero => intro a m L ha h1; omega
  | succ k ih =>
    intro a m L ha h1 hP
    rw [pAl] at hP
    have hok := pSt_ok (f := (mg_tp t)) ha
    refine r_aload_n eX4_reads_7 rfl rfl ?_
    refine r_callVi0 eX4_reads_8 lX4_77 (Or.inl ⟨_, _, _, rfl, rfl, rfl⟩) (s4_readsStatement (t := (mg_re t, mg_s t, mg_im t, mg_rd t, mg_ii t, mg_tp t, L, mg_ta t, a, mg_ou t, mg_op t, mg_br t, mg_nw t, mg_fs t, mg_bc t, mg_kr t, mg_rw t, mg_rc t)) (u := u) hta htp ha) (by omega) (Nat.le_of_ble_eq_true rfl) (fun r1 h1 hq => ?_)
    obtain ⟨L8, hr9, hh9, hL8⟩ := hq
    obtain rfl := (show r1 = nI ((pSt (mg_tp t) (mg_ta t) a).2.isSome.toNat) from hr9)
    obtain rfl := (show h1 = hA (mg_re t, mg_s t, mg_im t, mg_rd t, mg_ii t, mg_tp t, L8, mg_ta t, (pSt (mg_tp t) (mg_ta t) a).1, mg_ou t, mg_op t, mg_br t, mg_nw t, mg_fs t, mg_bc t, mg_kr t, mg_rw t, mg_rc t) u from hh9)
    refine n_if_ne eX4_reads_11 (by first | omega | exact zsome_lt _) (fun hc11 => ?_) (fun hc11 => ?_)
    · refine n_iinc (k := 1) eX4_reads_23 rfl (by decide) rfl ?_
      refine r_aload_n eX4_reads_26 rfl rfl ?_
      refine r_getf (v := .int (nI ((pSt (mg_tp t) (mg_ta t) a).1))) eX4_reads_27 fX4_56 rfl rfl ?_
      refine r_aload_n eX4_reads_30 rfl rfl ?_
      refine r_getf (v := .int (nI (mg_ta t))) eX4_reads_31 fX4_48 rfl rfl ?_
      refine n_icmp_lt eX4_reads_34 (by first | omega | exact zsome_lt _) (by first | omega | exact zsome_lt _) (fun hc34 => ?_) (fun hc34 => ?_)
      · obtain ⟨x, hx⟩ := zsome hc11
        have hlt := pSt_lt hx
        rw [hx] at hP
        dsimp only at hP
        rw [if_pos hc34] at hP
        refine ih _ (m + 1) _ hok.2 (by omega) ?_
        rw [hP, Option.map_map]
        congr 2
        funext z
        show z + 1 + m = z + (m + 1)
        omega
      · obtain ⟨x, hx⟩ := zsome hc11
        rw [hx] at hP
        dsimp only at hP
        rw [if_neg (Nat.not_lt.mpr hc34)] at hP
        refine ky _ _ (m + 1) ?_
        rw [hP, Option.map_some, Nat.add_comm]
    · refine r_sipush (v := (-1000)) eX4_reads_14 rfl ?_
      refine r_aload_n eX4_reads_17 rfl rfl ?_
      refine r_getf (v := .int (nI ((pSt (mg_tp t) (mg_ta t) a).1))) eX4_reads_18 fX4_56 rfl rfl ?_
      refine r_isub eX4_reads_21 ?_
      rw [znone hc11] at hP
      exact z_iret eX4_reads_22 rfl rfl (kf _ _ hP)
set_option maxHeartbeats 1000000 in
set_option maxRecDepth 100000 in
theorem s4_reads_2 {t : zMod} {u : zCls} (hta : mg_ta t ≤ 80) (htp : ∀ i, mg_tp t i ≤ 255) {Q : Option Int32 → List zC → Prop} {n : Nat} {P0 : Nat × Option (Nat × (Nat → Nat))} (kf : ∀ (L' : Nat → Int32) (b' a' : Nat) (D' : Nat → Nat), (∀ i, D' i ≤ 1000) → P0 = (a', none) → Q (some ((-2000) - nI a')) (hA (mg_re t, mg_s t, mg_im t, D', mg_ii t, mg_tp t, L', mg_ta t, b', mg_ou t, mg_op t, mg_br t, mg_nw t, mg_fs t, mg_bc t, mg_kr t, mg_rw t, mg_rc t) u)) (ky : ∀ (L' : Nat → Int32) (a' c : Nat) (D' : Nat → Nat) (v2 v3 v4 : Value), (∀ i, D' i ≤ 1000) → P0.2 = some (c, D') → Rq mX4_reads 8 none 97 [.ref 0, .int (nI n), v2, v3, v4] [] (hA (mg_re t, mg_s t, mg_im t, D', mg_ii t, mg_tp t, L', mg_ta t, a', mg_ou t, mg_op t, mg_br t, mg_nw t, mg_fs t, mg_bc t, mg_kr t, mg_rw t, mg_rc t) u) Q) : ∀ (k a c : Nat) (L : Nat → Int32) (D : Nat → Nat) (v2 v3 v4 : Value), a ≤ mg_ta t → mg_ta t < a + k → sRd D → (a < mg_ta t → (pAl (mg_tp t) (mg_ta t) k a).2.isSome = true) → P0 = pT sTell (mg_tp t) (mg_ta t) k a c D → Rq mX4_reads 8 none 53 [.ref 0, .int (nI n), v2, v3, v4] [] (hA (mg_re t, mg_s t, mg_im t, D, mg_ii t, mg_tp t, L, mg_ta t, a, mg_ou t, mg_op t, mg_br t, mg_nw t, mg_fs t, mg_bc t, mg_kr t, mg_rw t, mg_rc t) u) Q := by
  intro k
  induction k with
  | zero => intro a c L D v2 v3 v4 ha h1; omega
  | succ k ih =>
    intro a c L D v2 v3 v4 ha h1 hD hAl hP
    rw [pT] at hP
    by_cases haa : a < mg_ta t
    · rw [if_pos haa] at hP
      have hA1 := hAl haa
      rw [pAl] at hA1
      cases hx : (pSt (mg_tp t) (mg_ta t) a).2 with
      | none => rw [hx] at hA1; exact absurd hA1 Bool.false_ne_true
      | some x =>
        rw [hx] at hP hA1
        dsimp only at hP hA1
        have hv := pSt_val hx
        have hlt := pSt_lt hx
        have hcc := pSt_c hx
        have hb := htp a
        refine r_aload_n eX4_reads_53 rfl rfl ?_
        refine r_getf (v := .int (nI (a))) eX4_reads_54 fX4_56 rfl rfl ?_
        refine r_aload_n eX4_reads_57 rfl rfl ?_
        refine r_getf (v := .int (nI (mg_ta t))) eX4_reads_58 fX4_48 rfl rfl ?_
        refine n_icmp_ge eX4_reads_61 (by first | omega | exact zsome_lt _) (by first | omega | exact zsome_lt _) (fun hc61 => absurd hc61 (by omega)) (fun hc61 => ?_)
        refine r_aload_n eX4_reads_64 rfl rfl ?_
        refine r_getf (v := .int (nI (a))) eX4_reads_65 fX4_56 rfl rfl ?_
        refine r_istore_n eX4_reads_68 rfl (by decide) ?_
        refine r_aload_n eX4_reads_69 rfl rfl ?_
        refine r_callVi0 eX4_reads_70 lX4_59 (Or.inl ⟨_, _, _, rfl, rfl, rfl⟩) (s4_sign_y (t := (mg_re t, mg_s t, mg_im t, D, mg_ii t, mg_tp t, L, mg_ta t, a, mg_ou t, mg_op t, mg_br t, mg_nw t, mg_fs t, mg_bc t, mg_kr t, mg_rw t, mg_rc t)) (u := u) hta htp haa) (by omega) (Nat.le_of_ble_eq_true rfl) (fun r1 h1 hq => ?_)
        obtain ⟨rfl, rfl⟩ := (show r1 = nI (mg_tp t a) ∧ h1 = hA (mg_re t, mg_s t, mg_im t, D, mg_ii t, mg_tp t, L, mg_ta t, a, mg_ou t, mg_op t, mg_br t, mg_nw t, mg_fs t, mg_bc t, mg_kr t, mg_rw t, mg_rc t) u from hq)
        refine r_istore_n eX4_reads_73 rfl (by decide) ?_
        refine r_aload_n eX4_reads_74 rfl rfl ?_
        refine r_callVi0 eX4_reads_75 lX4_77 (Or.inl ⟨_, _, _, rfl, rfl, rfl⟩) (s4_readsStatement (t := (mg_re t, mg_s t, mg_im t, D, mg_ii t, mg_tp t, L, mg_ta t, a, mg_ou t, mg_op t, mg_br t, mg_nw t, mg_fs t, mg_bc t, mg_kr t, mg_rw t, mg_rc t)) (u := u) hta htp ha) (by omega) (Nat.le_of_ble_eq_true rfl) (fun r1 h1 hq => ?_)
        obtain ⟨L75, hr9, hh9, hL75⟩ := hq
        obtain rfl := (show r1 = nI ((pSt (mg_tp t) (mg_ta t) a).2.isSome.toNat) from hr9)
        obtain rfl := (show h1 = hA (mg_re t, mg_s t, mg_im t, D, mg_ii t, mg_tp t, L75, mg_ta t, (pSt (mg_tp t) (mg_ta t) a).1, mg_ou t, mg_op t, mg_br t, mg_nw t, mg_fs t, mg_bc t, mg_kr t, mg_rw t, mg_rc t) u from hh9)
        refine r_istore eX4_reads_78 (by decide) ?_
        refine r_aload_n eX4_reads_80 rfl rfl ?_
        refine r_iload_n eX4_reads_81 rfl rfl ?_
        refine r_callVi1 eX4_reads_82 lX4_84 (Or.inl ⟨_, _, _, rfl, rfl, rfl⟩) (s4_comes2 (t := (mg_re t, mg_s t, mg_im t, D, mg_ii t, mg_tp t, L75, mg_ta t, (pSt (mg_tp t) (mg_ta t) a).1, mg_ou t, mg_op t, mg_br t, mg_nw t, mg_fs t, mg_bc t, mg_kr t, mg_rw t, mg_rc t)) (u := u) hD (x := x) ⟨hv.1, hv.2.1, hv.2.2.1, hv.2.2.2.1, hv.2.2.2.2.1⟩ (c := mg_tp t a) hcc (hL75 x hx)) (by omega) (Nat.le_of_ble_eq_true rfl) (fun r1 h1 hq => ?_)
        obtain ⟨rfl, rfl⟩ := (show r1 = nI ((sTell (mg_tp t a) x D).isSome.toNat) ∧ h1 = hA (mg_re t, mg_s t, mg_im t, ((sTell (mg_tp t a) x D).getD D), mg_ii t, mg_tp t, L75, mg_ta t, (pSt (mg_tp t) (mg_ta t) a).1, mg_ou t, mg_op t, mg_br t, mg_nw t, mg_fs t, mg_bc t, mg_kr t, mg_rw t, mg_rc t) u from hq)
        refine n_if_ne eX4_reads_85 (by first | omega | exact zsome_lt _) (fun hc85 => ?_) (fun hc85 => ?_)
        · refine r_goto eX4_reads_94 ?_
          obtain ⟨D9, hD9⟩ := zsome hc85
          rw [hD9] at hP
          dsimp only at hP
          refine z_h (h' := hA (mg_re t, mg_s t, mg_im t, D9, mg_ii t, mg_tp t, L75, mg_ta t, (pSt (mg_tp t) (mg_ta t) a).1, mg_ou t, mg_op t, mg_br t, mg_nw t, mg_fs t, mg_bc t, mg_kr t, mg_rw t, mg_rc t) u) (by rw [hD9]; rfl) ?_
          refine ih _ (c + 1) _ D9 _ _ _ hlt.2.2 (by omega) (sTell_ok hD ⟨hv.1, hv.2.1, hv.2.2.1, hv.2.2.2.1, hv.2.2.2.2.1⟩ hD9) (fun z => ?_) hP
          rw [if_pos z] at hA1
          rw [Option.isSome_map] at hA1
          exact hA1
        · refine r_sipush (v := (-2000)) eX4_reads_88 rfl ?_
          refine r_iload_n eX4_reads_91 rfl rfl ?_
          refine r_isub eX4_reads_92 ?_
          have hn9 := znone hc85
          rw [hn9] at hP
          refine z_iret eX4_reads_93 rfl rfl (kf _ _ a _ (fun i => ?_) hP)
          rw [hn9]
          exact hD.1 i
    · rw [if_neg haa] at hP
      refine r_aload_n eX4_reads_53 rfl rfl ?_
      refine r_getf (v := .int (nI (a))) eX4_reads_54 fX4_56 rfl rfl ?_
      refine r_aload_n eX4_reads_57 rfl rfl ?_
      refine r_getf (v := .int (nI (mg_ta t))) eX4_reads_58 fX4_48 rfl rfl ?_
      refine n_icmp_ge eX4_reads_61 (by first | omega | exact zsome_lt _) (by first | omega | exact zsome_lt _) (fun hc61 => ?_) (fun hc61 => absurd hc61 (by omega))
      exact ky _ _ c D _ _ _ hD.1 (congrArg Prod.snd hP)
set_option maxHeartbeats 1000000 in
set_option maxRecDepth 100000 in
theorem s4_reads_c {t : zMod} {u : zCls} (hta : mg_ta t ≤ 80) (htp : ∀ i, mg_tp t i ≤ 255) {L' : Nat → Int32} {a' a1 M c : Nat} {D' : Nat → Nat} (hM : pAl (mg_tp t) (mg_ta t) (mg_ta t + 1) 0 = (a1, some M)) (hD : ∀ i, D' i ≤ 1000) (hP : (pT sTell (mg_tp t) (mg_ta t) (mg_ta t + 1) 0 0 (zcp (mg_s t) (mg_rd t) 64)).2 = some (c, D')) {v2 v3 v4 : Value} : Rq mX4_reads 8 none 97 [.ref 0, .int (nI M), v2, v3, v4] [] (hA (mg_re t, mg_s t, mg_im t, D', mg_ii t, mg_tp t, L', mg_ta t, a', mg_ou t, mg_op t, mg_br t, mg_nw t, mg_fs t, mg_bc t, mg_kr t, mg_rw t, mg_rc t) u) (fun r h' => ∃ x, r = some x ∧ (fun r h' => ∃ (L' : Nat → Int32) (A' : Nat) (D' : Nat → Nat), (∀ i, D' i ≤ 1000) ∧ r = (sRead (mg_tp t) (mg_ta t) (mg_s t) (mg_rd t)).1 ∧ h' = hA (mg_re t, ((sRead (mg_tp t) (mg_ta t) (mg_s t) (mg_rd t)).2), mg_im t, D', mg_ii t, mg_tp t, L', mg_ta t, A', mg_ou t, mg_op t, mg_br t, mg_nw t, mg_fs t, mg_bc t, mg_kr t, mg_rw t, mg_rc t) u) x h') := by
  have hS : (sRead (mg_tp t) (mg_ta t) (mg_s t) (mg_rd t)) = (nI M, zcp D' (mg_s t) 64) := by
    unfold sRead
    rw [hM]
    dsimp only
    cases hq9 : pT sTell (mg_tp t) (mg_ta t) (mg_ta t + 1) 0 0 (zcp (mg_s t) (mg_rd t) 64) with
    | mk a9 o9 =>
      rw [hq9] at hP
      dsimp only at hP
      rw [hP]
  refine r_aload_n eX4_reads_97 rfl rfl ?_
  refine r_getf (v := .ref 4) eX4_reads_98 fX4_19 rfl rfl ?_
  refine r_aload_n eX4_reads_101 rfl rfl ?_
  refine r_getf (v := .ref 2) eX4_reads_102 fX4_13 rfl rfl ?_
  refine r_callSv2 eX4_reads_105 lX4_80 (s4_copiesTo_rd_s (t := (mg_re t, mg_s t, mg_im t, D', mg_ii t, mg_tp t, L', mg_ta t, a', mg_ou t, mg_op t, mg_br t, mg_nw t, mg_fs t, mg_bc t, mg_kr t, mg_rw t, mg_rc t)) (u := u)) (by omega) (Nat.le_of_ble_eq_true rfl) (fun h1 hq => ?_)
  obtain rfl := (show h1 = hA (mg_re t, (zcp D' (mg_s t) 64), mg_im t, D', mg_ii t, mg_tp t, L', mg_ta t, a', mg_ou t, mg_op t, mg_br t, mg_nw t, mg_fs t, mg_bc t, mg_kr t, mg_rw t, mg_rc t) u from hq)
  refine r_iload_n eX4_reads_108 rfl rfl ?_
  exact z_iret eX4_reads_109 rfl rfl ⟨_, rfl, L', a', D', hD, by rw [hS], by rw [hS]⟩
theorem zcp_rd {S D : Nat → Nat} (h : sRd S) (hD : ∀ i, D i ≤ 1000) : sRd (zcp S D 64) := by
  refine ⟨fun i => ?_, h.2.1, h.2.2.1, h.2.2.2⟩
  unfold zcp
  split
  · exact h.1 i
  · exact hD i
set_option maxHeartbeats 1000000 in
set_option maxRecDepth 100000 in
theorem s4_reads_b {t : zMod} {u : zCls} (hta : mg_ta t ≤ 80) (htp : ∀ i, mg_tp t i ≤ 255) (hsr : sRd (mg_s t)) (hrd : ∀ i, mg_rd t i ≤ 1000) {L' : Nat → Int32} {a' M : Nat} (hM : pAl (mg_tp t) (mg_ta t) (mg_ta t + 1) 0 = (a', some M)) {v2 v3 v4 : Value} : Rq mX4_reads 8 none 37 [.ref 0, .int (nI M), v2, v3, v4] [] (hA (mg_re t, mg_s t, mg_im t, mg_rd t, mg_ii t, mg_tp t, L', mg_ta t, a', mg_ou t, mg_op t, mg_br t, mg_nw t, mg_fs t, mg_bc t, mg_kr t, mg_rw t, mg_rc t) u) (fun r h' => ∃ x, r = some x ∧ (fun r h' => ∃ (L' : Nat → Int32) (A' : Nat) (D' : Nat → Nat), (∀ i, D' i ≤ 1000) ∧ r = (sRead (mg_tp t) (mg_ta t) (mg_s t) (mg_rd t)).1 ∧ h' = hA (mg_re t, ((sRead (mg_tp t) (mg_ta t) (mg_s t) (mg_rd t)).2), mg_im t, D', mg_ii t, mg_tp t, L', mg_ta t, A', mg_ou t, mg_op t, mg_br t, mg_nw t, mg_fs t, mg_bc t, mg_kr t, mg_rw t, mg_rc t) u) x h') := by
  refine r_aload_n eX4_reads_37 rfl rfl ?_
  refine r_getf (v := .ref 2) eX4_reads_38 fX4_13 rfl rfl ?_
  refine r_aload_n eX4_reads_41 rfl rfl ?_
  refine r_getf (v := .ref 4) eX4_reads_42 fX4_19 rfl rfl ?_
  refine r_callSv2 eX4_reads_45 lX4_80 (s4_copiesTo_s_rd (t := (mg_re t, mg_s t, mg_im t, mg_rd t, mg_ii t, mg_tp t, L', mg_ta t, a', mg_ou t, mg_op t, mg_br t, mg_nw t, mg_fs t, mg_bc t, mg_kr t, mg_rw t, mg_rc t)) (u := u)) (by omega) (Nat.le_of_ble_eq_true rfl) (fun h1 hq => ?_)
  obtain rfl := (show h1 = hA (mg_re t, mg_s t, mg_im t, (zcp (mg_s t) (mg_rd t) 64), mg_ii t, mg_tp t, L', mg_ta t, a', mg_ou t, mg_op t, mg_br t, mg_nw t, mg_fs t, mg_bc t, mg_kr t, mg_rw t, mg_rc t) u from hq)
  refine r_aload_n eX4_reads_48 rfl rfl ?_
  refine n_iconst 0 eX4_reads_49 rfl ?_
  refine mp_at (v := 0) eX4_reads_50 fX4_56 rfl ?_
  refine z_h (h' := hA (mg_re t, mg_s t, mg_im t, (zcp (mg_s t) (mg_rd t) 64), mg_ii t, mg_tp t, L', mg_ta t, 0, mg_ou t, mg_op t, mg_br t, mg_nw t, mg_fs t, mg_bc t, mg_kr t, mg_rw t, mg_rc t) u) rfl ?_
  refine s4_reads_2 (n := M) (P0 := pT sTell (mg_tp t) (mg_ta t) (mg_ta t + 1) 0 0 (zcp (mg_s t) (mg_rd t) 64)) hta htp (fun L2 b2 a2 D2 hD2 hP => ⟨_, rfl, L2, b2, D2, hD2, ?_, ?_⟩) (fun L2 a2 c2 D2 w2 w3 w4 hD2 hP => ?_) (mg_ta t + 1) 0 0 L' (zcp (mg_s t) (mg_rd t) 64) _ _ _ (Nat.zero_le _) (by omega) (zcp_rd hsr hrd) (fun _ => by rw [hM]; rfl) rfl
  · exact s4_reads_c hta htp hM (D' := D2) hD2 hP
  · show _ = (sRead _ _ _ _).1
    unfold sRead
    rw [hM]
    dsimp only
    rw [hP]
  · rw [show (sRead (mg_tp t) (mg_ta t) (mg_s t) (mg_rd t)).2 = mg_s t by unfold sRead; rw [hM]; dsimp only; rw [hP]]
set_option maxHeartbeats 1000000 in
set_option maxRecDepth 100000 in
theorem s4_reads {t : zMod} {u : zCls} (hta : mg_ta t ≤ 80) (htp : ∀ i, mg_tp t i ≤ 255) (hsr : sRd (mg_s t)) (hrd : ∀ i, mg_rd t i ≤ 1000) : Mi mX4_reads 8 [.ref 0] (hA t u) (fun r h' => ∃ (L' : Nat → Int32) (A' : Nat) (D' : Nat → Nat), (∀ i, D' i ≤ 1000) ∧ r = (sRead (mg_tp t) (mg_ta t) (mg_s t) (mg_rd t)).1 ∧ h' = hA (mg_re t, ((sRead (mg_tp t) (mg_ta t) (mg_s t) (mg_rd t)).2), mg_im t, D', mg_ii t, mg_tp t, L', mg_ta t, A', mg_ou t, mg_op t, mg_br t, mg_nw t, mg_fs t, mg_bc t, mg_kr t, mg_rw t, mg_rc t) u) := by
  refine Mi.of (by decide) rfl (Nat.le_of_ble_eq_true rfl) ?_
  refine r_aload_n eX4_reads_0 rfl rfl ?_
  refine n_iconst 0 eX4_reads_1 rfl ?_
  refine z_h (h' := hA (mg_re t, mg_s t, mg_im t, mg_rd t, mg_ii t, mg_tp t, mg_tl t, mg_ta t, mg_at t, mg_ou t, mg_op t, mg_br t, mg_nw t, mg_fs t, mg_bc t, mg_kr t, mg_rw t, mg_rc t) u) rfl ?_
  refine mp_at (v := 0) eX4_reads_2 fX4_56 rfl ?_
  refine n_iconst 0 eX4_reads_5 rfl ?_
  refine r_istore_n eX4_reads_6 rfl (by decide) ?_
  refine z_h (h' := hA (mg_re t, mg_s t, mg_im t, mg_rd t, mg_ii t, mg_tp t, (mg_tl t), mg_ta t, 0, mg_ou t, mg_op t, mg_br t, mg_nw t, mg_fs t, mg_bc t, mg_kr t, mg_rw t, mg_rc t) u) rfl ?_
  refine s4_reads_1 (P0 := pAl (mg_tp t) (mg_ta t) (mg_ta t + 1) 0) hta htp (fun L' a' hP => ⟨_, rfl, L', a', mg_rd t, hrd, ?_, ?_⟩) (fun L' a' M hP => s4_reads_b hta htp hsr hrd hP) (mg_ta t + 1) 0 0 (mg_tl t) (Nat.zero_le _) (by omega) ?_
  · show _ = (sRead _ _ _ _).1
    unfold sRead
    rw [hP]
  · rw [show (sRead (mg_tp t) (mg_ta t) (mg_s t) (mg_rd t)).2 = mg_s t by unfold sRead; rw [hP]]
  · rw [show (fun z : Nat => z + 0) = id from rfl, Option.map_id]
    rfl
set_option maxHeartbeats 1000000 in
set_option maxRecDepth 100000 in
theorem s4_town {t : zMod} {u : zCls} (hta : mg_ta t ≤ 80) (htp : ∀ i, mg_tp t i ≤ 255) (hsr : sRd (mg_s t)) (hrd : ∀ i, mg_rd t i ≤ 1000) : Mi mX4_town 10 [.ref 0] (hA t u) (fun r h' => ∃ (L' : Nat → Int32) (A' : Nat) (D' : Nat → Nat), (∀ i, D' i ≤ 1000) ∧ r = (sRead (mg_tp t) (mg_ta t) (mg_s t) (mg_rd t)).1 ∧ h' = hA (mg_re t, ((sRead (mg_tp t) (mg_ta t) (mg_s t) (mg_rd t)).2), mg_im t, D', mg_ii t, mg_tp t, L', 0, A', mg_ou t, mg_op t, mg_br t, mg_nw t, mg_fs t, mg_bc t, mg_kr t, mg_rw t, mg_rc t) u) := by
  refine Mi.of (by decide) rfl (Nat.le_of_ble_eq_true rfl) ?_
  refine r_aload_n eX4_town_0 rfl rfl ?_
  refine r_callVi0 eX4_town_1 lX4_87 (Or.inl ⟨_, _, _, rfl, rfl, rfl⟩) (s4_reads (t := t) (u := u) hta htp hsr hrd) (by omega) (Nat.le_of_ble_eq_true rfl) (fun r1 h1 hq => ?_)
  obtain ⟨L1, A1, D1, hD1, rfl, hh9⟩ := hq
  obtain rfl := (show h1 = hA (mg_re t, ((sRead (mg_tp t) (mg_ta t) (mg_s t) (mg_rd t)).2), mg_im t, D1, mg_ii t, mg_tp t, L1, mg_ta t, A1, mg_ou t, mg_op t, mg_br t, mg_nw t, mg_fs t, mg_bc t, mg_kr t, mg_rw t, mg_rc t) u from hh9)
  refine r_istore_n eX4_town_4 rfl (by decide) ?_
  refine r_aload_n eX4_town_5 rfl rfl ?_
  refine n_iconst 0 eX4_town_6 rfl ?_
  refine mp_ta (v := 0) eX4_town_7 fX4_48 rfl ?_
  refine r_iload_n eX4_town_10 rfl rfl ?_
  exact z_iret eX4_town_11 rfl rfl ⟨_, rfl, L1, A1, D1, hD1, rfl, rfl⟩
