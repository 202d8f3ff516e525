/-! THE REFERENCE: a statement read, told; all of them -/
def zTl (c : Nat) (x : zN5) (L : Nat → Int32) : Prop := (c = 112 → L 0 = nI x.1 ∧ L 1 = nI x.2.1 ∧ L 2 = nI x.2.2.1 ∧ L 3 = nI x.2.2.2.1 ∧ L 4 = nI x.2.2.2.2) ∧ (c = 107 → L 0 = nI x.1 ∧ L 1 = nI x.2.1) ∧ (c = 119 ∨ c = 115 → L 0 = nI x.1)
set_option maxHeartbeats 1000000 in
set_option maxRecDepth 100000 in
theorem s4_rst_112 {t : zMod} {u : zCls} (hta : mg_ta t ≤ 80) (htp : ∀ i, mg_tp t i ≤ 255) (ha : mg_at t < mg_ta t) (hc : mg_tp t (mg_at t) = 112) : Mi mX4_readsStatement 6 [.ref 0] (hA t u) (fun r h' => ∃ L : Nat → Int32, r = nI ((pSt (mg_tp t) (mg_ta t) (mg_at t)).2.isSome.toNat) ∧ h' = hA (mg_re t, mg_s t, mg_im t, mg_rd t, mg_ii t, mg_tp t, L, mg_ta t, ((pSt (mg_tp t) (mg_ta t) (mg_at t)).1), mg_ou t, mg_op t, mg_br t, mg_nw t, mg_fs t, mg_bc t, mg_kr t, mg_rw t, mg_rc t) u ∧ ∀ x, (pSt (mg_tp t) (mg_ta t) (mg_at t)).2 = some x → zTl (mg_tp t (mg_at t)) x L) := by
  have g0 : mg_at t ≤ mg_at t + 1 ∧ mg_at t + 1 ≤ mg_ta t := ⟨by omega, ha⟩
  refine Mi.of (by decide) rfl (Nat.le_of_ble_eq_true rfl) ?_
  refine r_aload_n eX4_readsStatement_0 rfl rfl ?_
  refine r_callVi0 eX4_readsStatement_1 lX4_59 (Or.inl ⟨_, _, _, rfl, rfl, rfl⟩) (s4_sign_y (t := t) (u := u) hta htp ha) (by omega) (Nat.le_of_ble_eq_true rfl) (fun r1 h1 hq => ?_)
  obtain ⟨rfl, rfl⟩ := (show r1 = nI (mg_tp t (mg_at t)) ∧ h1 = hA t u from hq)
  refine z_top (y := nI (112)) (congrArg nI hc) ?_
  refine r_istore_n eX4_readsStatement_4 rfl (by decide) ?_
  refine n_iconst 0 eX4_readsStatement_5 rfl ?_
  refine r_istore_n eX4_readsStatement_6 rfl (by decide) ?_
  refine r_aload_n eX4_readsStatement_7 rfl rfl ?_
  refine r_dup eX4_readsStatement_8 rfl ?_
  refine r_getf (v := .int (nI (mg_at t))) eX4_readsStatement_9 fX4_56 rfl rfl ?_
  refine n_iconst 1 eX4_readsStatement_12 rfl ?_
  refine n_add eX4_readsStatement_13 ?_
  refine z_h (h' := hA (mg_re t, mg_s t, mg_im t, mg_rd t, mg_ii t, mg_tp t, mg_tl t, mg_ta t, mg_at t, mg_ou t, mg_op t, mg_br t, mg_nw t, mg_fs t, mg_bc t, mg_kr t, mg_rw t, mg_rc t) u) rfl ?_
  refine mp_at (v := (mg_at t) + 1) eX4_readsStatement_14 fX4_56 rfl ?_
  refine r_iload_n eX4_readsStatement_17 rfl rfl ?_
  refine r_tabIn (off := 66) (tgt := 84) eX4_readsStatement_18 (by decide) (by decide) (by decide) (by decide) ?_
  refine r_aload_n eX4_readsStatement_84 rfl rfl ?_
  refine r_callVi0 eX4_readsStatement_85 lX4_66 (Or.inl ⟨_, _, _, rfl, rfl, rfl⟩) (s4_readsKind (t := (mg_re t, mg_s t, mg_im t, mg_rd t, mg_ii t, mg_tp t, mg_tl t, mg_ta t, (mg_at t) + 1, mg_ou t, mg_op t, mg_br t, mg_nw t, mg_fs t, mg_bc t, mg_kr t, mg_rw t, mg_rc t)) (u := u) hta htp g0.2) (by omega) (Nat.le_of_ble_eq_true rfl) (fun r1 h1 hq => ?_)
  obtain ⟨L85, hL85, hh⟩ := hq
  obtain ⟨rfl, rfl⟩ := (show r1 = nI (kB (mg_tp t) (mg_ta t) ((mg_at t) + 1)) ∧ h1 = hA (mg_re t, mg_s t, mg_im t, mg_rd t, mg_ii t, mg_tp t, L85, mg_ta t, (kE (mg_tp t) (mg_ta t) ((mg_at t) + 1)), mg_ou t, mg_op t, mg_br t, mg_nw t, mg_fs t, mg_bc t, mg_kr t, mg_rw t, mg_rc t) u from hh)
  have g85 := kE_ok (f := (mg_tp t)) g0.2
  refine n_if_eq eX4_readsStatement_88 (by first | omega | (unfold nB; split <;> omega) | (unfold pB; split <;> omega) | (unfold kB; cases Option.isSome (kO (mg_tp t) (mg_ta t) (mg_at t + 1)) <;> decide)) (fun hc88 => ?_) (fun hc88 => ?_)
  · refine n_iconst 0 eX4_readsStatement_158 rfl ?_
    refine r_istore_n eX4_readsStatement_159 rfl (by decide) ?_
    refine r_goto eX4_readsStatement_160 ?_
    refine r_iload_n eX4_readsStatement_217 rfl rfl ?_
    refine n_if_eq eX4_readsStatement_218 (by first | omega | (unfold nB; split <;> omega) | (unfold pB; split <;> omega) | (unfold kB; cases Option.isSome (kO (mg_tp t) (mg_ta t) (mg_at t + 1)) <;> decide)) (fun hc218 => ?_) (fun hc218 => absurd hc218 (by decide))
    refine n_iconst 0 eX4_readsStatement_234 rfl ?_
    have hp : (pSt (mg_tp t) (mg_ta t) (mg_at t)) = ((kE (mg_tp t) (mg_ta t) ((mg_at t) + 1)), none) := by
      unfold pSt
      rw [if_pos ha, if_pos hc]
      exact pK_n hc88
    exact z_iret eX4_readsStatement_235 rfl rfl ⟨_, rfl, L85, by rw [hp]; first | done | rfl, by rw [hp], (fun x hx => by rw [hp] at hx; cases hx)⟩
  · refine r_aload_n eX4_readsStatement_91 rfl rfl ?_
    refine n_iconst 1 eX4_readsStatement_92 rfl ?_
    refine n_iconst 2 eX4_readsStatement_93 rfl ?_
    refine r_callVi2 eX4_readsStatement_94 lX4_70 (Or.inl ⟨_, _, _, rfl, rfl, rfl⟩) (s4_readsNumber (t := (mg_re t, mg_s t, mg_im t, mg_rd t, mg_ii t, mg_tp t, L85, mg_ta t, (kE (mg_tp t) (mg_ta t) ((mg_at t) + 1)), mg_ou t, mg_op t, mg_br t, mg_nw t, mg_fs t, mg_bc t, mg_kr t, mg_rw t, mg_rc t)) (u := u) hta htp g85.2 (kx := 1) (most := 2) (by decide) (by decide) (by decide)) (by omega) (Nat.le_of_ble_eq_true rfl) (fun r1 h1 hq => ?_)
    obtain ⟨rfl, rfl⟩ := (show r1 = nI (nB (mg_tp t) (mg_ta t) (kE (mg_tp t) (mg_ta t) ((mg_at t) + 1))) ∧ h1 = hA (mg_re t, mg_s t, mg_im t, mg_rd t, mg_ii t, mg_tp t, (upd L85 1 (nI (nV (mg_tp t) (mg_ta t) 2 (kE (mg_tp t) (mg_ta t) ((mg_at t) + 1))))), mg_ta t, (nE (mg_tp t) (mg_ta t) 2 (kE (mg_tp t) (mg_ta t) ((mg_at t) + 1))), mg_ou t, mg_op t, mg_br t, mg_nw t, mg_fs t, mg_bc t, mg_kr t, mg_rw t, mg_rc t) u from hq)
    have g94 := nE_ok (f := (mg_tp t)) (k := 2) g85.2
    refine n_if_eq eX4_readsStatement_97 (by first | omega | (unfold nB; split <;> omega) | (unfold pB; split <;> omega) | (unfold kB; cases Option.isSome (kO (mg_tp t) (mg_ta t) (mg_at t + 1)) <;> decide)) (fun hc97 => ?_) (fun hc97 => ?_)
    · refine n_iconst 0 eX4_readsStatement_158 rfl ?_
      refine r_istore_n eX4_readsStatement_159 rfl (by decide) ?_
      refine r_goto eX4_readsStatement_160 ?_
      refine r_iload_n eX4_readsStatement_217 rfl rfl ?_
      refine n_if_eq eX4_readsStatement_218 (by first | omega | (unfold nB; split <;> omega) | (unfold pB; split <;> omega) | (unfold kB; cases Option.isSome (kO (mg_tp t) (mg_ta t) (mg_at t + 1)) <;> decide)) (fun hc218 => ?_) (fun hc218 => absurd hc218 (by decide))
      refine n_iconst 0 eX4_readsStatement_234 rfl ?_
      have hp : (pSt (mg_tp t) (mg_ta t) (mg_at t)) = ((nE (mg_tp t) (mg_ta t) 2 (kE (mg_tp t) (mg_ta t) ((mg_at t) + 1))), none) := by
        unfold pSt
        rw [if_pos ha, if_pos hc]
        refine (pK_y hc88).trans ?_
        exact pN_n hc97
      exact z_iret eX4_readsStatement_235 rfl rfl ⟨_, rfl, (upd L85 1 (nI (nV (mg_tp t) (mg_ta t) 2 (kE (mg_tp t) (mg_ta t) ((mg_at t) + 1))))), by rw [hp]; first | done | rfl, by rw [hp], (fun x hx => by rw [hp] at hx; cases hx)⟩
    · refine r_aload_n eX4_readsStatement_100 rfl rfl ?_
      refine n_bipush 44 eX4_readsStatement_101 rfl ?_
      refine r_callVi1 eX4_readsStatement_103 lX4_73 (Or.inl ⟨_, _, _, rfl, rfl, rfl⟩) (s4_takes (t := (mg_re t, mg_s t, mg_im t, mg_rd t, mg_ii t, mg_tp t, (upd L85 1 (nI (nV (mg_tp t) (mg_ta t) 2 (kE (mg_tp t) (mg_ta t) ((mg_at t) + 1))))), mg_ta t, (nE (mg_tp t) (mg_ta t) 2 (kE (mg_tp t) (mg_ta t) ((mg_at t) + 1))), mg_ou t, mg_op t, mg_br t, mg_nw t, mg_fs t, mg_bc t, mg_kr t, mg_rw t, mg_rc t)) (u := u) hta htp g94.2 (c := 44) (by decide)) (by omega) (Nat.le_of_ble_eq_true rfl) (fun r1 h1 hq => ?_)
      obtain ⟨rfl, rfl⟩ := (show r1 = nI (pB (mg_tp t) (mg_ta t) 44 (nE (mg_tp t) (mg_ta t) 2 (kE (mg_tp t) (mg_ta t) ((mg_at t) + 1)))) ∧ h1 = hA (mg_re t, mg_s t, mg_im t, mg_rd t, mg_ii t, mg_tp t, (upd L85 1 (nI (nV (mg_tp t) (mg_ta t) 2 (kE (mg_tp t) (mg_ta t) ((mg_at t) + 1))))), mg_ta t, (pE (mg_tp t) (mg_ta t) 44 (nE (mg_tp t) (mg_ta t) 2 (kE (mg_tp t) (mg_ta t) ((mg_at t) + 1)))), mg_ou t, mg_op t, mg_br t, mg_nw t, mg_fs t, mg_bc t, mg_kr t, mg_rw t, mg_rc t) u from hq)
      have g103 := pE_ok (f := (mg_tp t)) (c := 44) g94.2
      refine n_if_eq eX4_readsStatement_106 (by first | omega | (unfold nB; split <;> omega) | (unfold pB; split <;> omega) | (unfold kB; cases Option.isSome (kO (mg_tp t) (mg_ta t) (mg_at t + 1)) <;> decide)) (fun hc106 => ?_) (fun hc106 => ?_)
      · refine n_iconst 0 eX4_readsStatement_158 rfl ?_
        refine r_istore_n eX4_readsStatement_159 rfl (by decide) ?_
        refine r_goto eX4_readsStatement_160 ?_
        refine r_iload_n eX4_readsStatement_217 rfl rfl ?_
        refine n_if_eq eX4_readsStatement_218 (by first | omega | (unfold nB; split <;> omega) | (unfold pB; split <;> omega) | (unfold kB; cases Option.isSome (kO (mg_tp t) (mg_ta t) (mg_at t + 1)) <;> decide)) (fun hc218 => ?_) (fun hc218 => absurd hc218 (by decide))
        refine n_iconst 0 eX4_readsStatement_234 rfl ?_
        have hp : (pSt (mg_tp t) (mg_ta t) (mg_at t)) = ((pE (mg_tp t) (mg_ta t) 44 (nE (mg_tp t) (mg_ta t) 2 (kE (mg_tp t) (mg_ta t) ((mg_at t) + 1)))), none) := by
          unfold pSt
          rw [if_pos ha, if_pos hc]
          refine (pK_y hc88).trans ?_
          refine (pN_y hc97).trans ?_
          exact pS_n hc106
        exact z_iret eX4_readsStatement_235 rfl rfl ⟨_, rfl, (upd L85 1 (nI (nV (mg_tp t) (mg_ta t) 2 (kE (mg_tp t) (mg_ta t) ((mg_at t) + 1))))), by rw [hp]; first | done | rfl, by rw [hp], (fun x hx => by rw [hp] at hx; cases hx)⟩
      · refine r_aload_n eX4_readsStatement_109 rfl rfl ?_
        refine n_iconst 2 eX4_readsStatement_110 rfl ?_
        refine n_iconst 1 eX4_readsStatement_111 rfl ?_
        refine r_callVi2 eX4_readsStatement_112 lX4_70 (Or.inl ⟨_, _, _, rfl, rfl, rfl⟩) (s4_readsNumber (t := (mg_re t, mg_s t, mg_im t, mg_rd t, mg_ii t, mg_tp t, (upd L85 1 (nI (nV (mg_tp t) (mg_ta t) 2 (kE (mg_tp t) (mg_ta t) ((mg_at t) + 1))))), mg_ta t, (pE (mg_tp t) (mg_ta t) 44 (nE (mg_tp t) (mg_ta t) 2 (kE (mg_tp t) (mg_ta t) ((mg_at t) + 1)))), mg_ou t, mg_op t, mg_br t, mg_nw t, mg_fs t, mg_bc t, mg_kr t, mg_rw t, mg_rc t)) (u := u) hta htp g103.2 (kx := 2) (most := 1) (by decide) (by decide) (by decide)) (by omega) (Nat.le_of_ble_eq_true rfl) (fun r1 h1 hq => ?_)
        obtain ⟨rfl, rfl⟩ := (show r1 = nI (nB (mg_tp t) (mg_ta t) (pE (mg_tp t) (mg_ta t) 44 (nE (mg_tp t) (mg_ta t) 2 (kE (mg_tp t) (mg_ta t) ((mg_at t) + 1))))) ∧ h1 = hA (mg_re t, mg_s t, mg_im t, mg_rd t, mg_ii t, mg_tp t, (upd (upd L85 1 (nI (nV (mg_tp t) (mg_ta t) 2 (kE (mg_tp t) (mg_ta t) ((mg_at t) + 1))))) 2 (nI (nV (mg_tp t) (mg_ta t) 1 (pE (mg_tp t) (mg_ta t) 44 (nE (mg_tp t) (mg_ta t) 2 (kE (mg_tp t) (mg_ta t) ((mg_at t) + 1))))))), mg_ta t, (nE (mg_tp t) (mg_ta t) 1 (pE (mg_tp t) (mg_ta t) 44 (nE (mg_tp t) (mg_ta t) 2 (kE (mg_tp t) (mg_ta t) ((mg_at t) + 1))))), mg_ou t, mg_op t, mg_br t, mg_nw t, mg_fs t, mg_bc t, mg_kr t, mg_rw t, mg_rc t) u from hq)
        have g112 := nE_ok (f := (mg_tp t)) (k := 1) g103.2
        refine n_if_eq eX4_readsStatement_115 (by first | omega | (unfold nB; split <;> omega) | (unfold pB; split <;> omega) | (unfold kB; cases Option.isSome (kO (mg_tp t) (mg_ta t) (mg_at t + 1)) <;> decide)) (fun hc115 => ?_) (fun hc115 => ?_)
        · refine n_iconst 0 eX4_readsStatement_158 rfl ?_
          refine r_istore_n eX4_readsStatement_159 rfl (by decide) ?_
          refine r_goto eX4_readsStatement_160 ?_
          refine r_iload_n eX4_readsStatement_217 rfl rfl ?_
          refine n_if_eq eX4_readsStatement_218 (by first | omega | (unfold nB; split <;> omega) | (unfold pB; split <;> omega) | (unfold kB; cases Option.isSome (kO (mg_tp t) (mg_ta t) (mg_at t + 1)) <;> decide)) (fun hc218 => ?_) (fun hc218 => absurd hc218 (by decide))
          refine n_iconst 0 eX4_readsStatement_234 rfl ?_
          have hp : (pSt (mg_tp t) (mg_ta t) (mg_at t)) = ((nE (mg_tp t) (mg_ta t) 1 (pE (mg_tp t) (mg_ta t) 44 (nE (mg_tp t) (mg_ta t) 2 (kE (mg_tp t) (mg_ta t) ((mg_at t) + 1))))), none) := by
            unfold pSt
            rw [if_pos ha, if_pos hc]
            refine (pK_y hc88).trans ?_
            refine (pN_y hc97).trans ?_
            refine (pS_y hc106).trans ?_
            exact pN_n hc115
          exact z_iret eX4_readsStatement_235 rfl rfl ⟨_, rfl, (upd (upd L85 1 (nI (nV (mg_tp t) (mg_ta t) 2 (kE (mg_tp t) (mg_ta t) ((mg_at t) + 1))))) 2 (nI (nV (mg_tp t) (mg_ta t) 1 (pE (mg_tp t) (mg_ta t) 44 (nE (mg_tp t) (mg_ta t) 2 (kE (mg_tp t) (mg_ta t) ((mg_at t) + 1))))))), by rw [hp]; first | done | rfl, by rw [hp], (fun x hx => by rw [hp] at hx; cases hx)⟩
        · refine r_aload_n eX4_readsStatement_118 rfl rfl ?_
          refine n_bipush 44 eX4_readsStatement_119 rfl ?_
          refine r_callVi1 eX4_readsStatement_121 lX4_73 (Or.inl ⟨_, _, _, rfl, rfl, rfl⟩) (s4_takes (t := (mg_re t, mg_s t, mg_im t, mg_rd t, mg_ii t, mg_tp t, (upd (upd L85 1 (nI (nV (mg_tp t) (mg_ta t) 2 (kE (mg_tp t) (mg_ta t) ((mg_at t) + 1))))) 2 (nI (nV (mg_tp t) (mg_ta t) 1 (pE (mg_tp t) (mg_ta t) 44 (nE (mg_tp t) (mg_ta t) 2 (kE (mg_tp t) (mg_ta t) ((mg_at t) + 1))))))), mg_ta t, (nE (mg_tp t) (mg_ta t) 1 (pE (mg_tp t) (mg_ta t) 44 (nE (mg_tp t) (mg_ta t) 2 (kE (mg_tp t) (mg_ta t) ((mg_at t) + 1))))), mg_ou t, mg_op t, mg_br t, mg_nw t, mg_fs t, mg_bc t, mg_kr t, mg_rw t, mg_rc t)) (u := u) hta htp g112.2 (c := 44) (by decide)) (by omega) (Nat.le_of_ble_eq_true rfl) (fun r1 h1 hq => ?_)
          obtain ⟨rfl, rfl⟩ := (show r1 = nI (pB (mg_tp t) (mg_ta t) 44 (nE (mg_tp t) (mg_ta t) 1 (pE (mg_tp t) (mg_ta t) 44 (nE (mg_tp t) (mg_ta t) 2 (kE (mg_tp t) (mg_ta t) ((mg_at t) + 1)))))) ∧ h1 = hA (mg_re t, mg_s t, mg_im t, mg_rd t, mg_ii t, mg_tp t, (upd (upd L85 1 (nI (nV (mg_tp t) (mg_ta t) 2 (kE (mg_tp t) (mg_ta t) ((mg_at t) + 1))))) 2 (nI (nV (mg_tp t) (mg_ta t) 1 (pE (mg_tp t) (mg_ta t) 44 (nE (mg_tp t) (mg_ta t) 2 (kE (mg_tp t) (mg_ta t) ((mg_at t) + 1))))))), mg_ta t, (pE (mg_tp t) (mg_ta t) 44 (nE (mg_tp t) (mg_ta t) 1 (pE (mg_tp t) (mg_ta t) 44 (nE (mg_tp t) (mg_ta t) 2 (kE (mg_tp t) (mg_ta t) ((mg_at t) + 1)))))), mg_ou t, mg_op t, mg_br t, mg_nw t, mg_fs t, mg_bc t, mg_kr t, mg_rw t, mg_rc t) u from hq)
          have g121 := pE_ok (f := (mg_tp t)) (c := 44) g112.2
          refine n_if_eq eX4_readsStatement_124 (by first | omega | (unfold nB; split <;> omega) | (unfold pB; split <;> omega) | (unfold kB; cases Option.isSome (kO (mg_tp t) (mg_ta t) (mg_at t + 1)) <;> decide)) (fun hc124 => ?_) (fun hc124 => ?_)
          · refine n_iconst 0 eX4_readsStatement_158 rfl ?_
            refine r_istore_n eX4_readsStatement_159 rfl (by decide) ?_
            refine r_goto eX4_readsStatement_160 ?_
            refine r_iload_n eX4_readsStatement_217 rfl rfl ?_
            refine n_if_eq eX4_readsStatement_218 (by first | omega | (unfold nB; split <;> omega) | (unfold pB; split <;> omega) | (unfold kB; cases Option.isSome (kO (mg_tp t) (mg_ta t) (mg_at t + 1)) <;> decide)) (fun hc218 => ?_) (fun hc218 => absurd hc218 (by decide))
            refine n_iconst 0 eX4_readsStatement_234 rfl ?_
            have hp : (pSt (mg_tp t) (mg_ta t) (mg_at t)) = ((pE (mg_tp t) (mg_ta t) 44 (nE (mg_tp t) (mg_ta t) 1 (pE (mg_tp t) (mg_ta t) 44 (nE (mg_tp t) (mg_ta t) 2 (kE (mg_tp t) (mg_ta t) ((mg_at t) + 1)))))), none) := by
              unfold pSt
              rw [if_pos ha, if_pos hc]
              refine (pK_y hc88).trans ?_
              refine (pN_y hc97).trans ?_
              refine (pS_y hc106).trans ?_
              refine (pN_y hc115).trans ?_
              exact pS_n hc124
            exact z_iret eX4_readsStatement_235 rfl rfl ⟨_, rfl, (upd (upd L85 1 (nI (nV (mg_tp t) (mg_ta t) 2 (kE (mg_tp t) (mg_ta t) ((mg_at t) + 1))))) 2 (nI (nV (mg_tp t) (mg_ta t) 1 (pE (mg_tp t) (mg_ta t) 44 (nE (mg_tp t) (mg_ta t) 2 (kE (mg_tp t) (mg_ta t) ((mg_at t) + 1))))))), by rw [hp]; first | done | rfl, by rw [hp], (fun x hx => by rw [hp] at hx; cases hx)⟩
          · refine r_aload_n eX4_readsStatement_127 rfl rfl ?_
            refine n_iconst 3 eX4_readsStatement_128 rfl ?_
            refine n_iconst 3 eX4_readsStatement_129 rfl ?_
            refine r_callVi2 eX4_readsStatement_130 lX4_70 (Or.inl ⟨_, _, _, rfl, rfl, rfl⟩) (s4_readsNumber (t := (mg_re t, mg_s t, mg_im t, mg_rd t, mg_ii t, mg_tp t, (upd (upd L85 1 (nI (nV (mg_tp t) (mg_ta t) 2 (kE (mg_tp t) (mg_ta t) ((mg_at t) + 1))))) 2 (nI (nV (mg_tp t) (mg_ta t) 1 (pE (mg_tp t) (mg_ta t) 44 (nE (mg_tp t) (mg_ta t) 2 (kE (mg_tp t) (mg_ta t) ((mg_at t) + 1))))))), mg_ta t, (pE (mg_tp t) (mg_ta t) 44 (nE (mg_tp t) (mg_ta t) 1 (pE (mg_tp t) (mg_ta t) 44 (nE (mg_tp t) (mg_ta t) 2 (kE (mg_tp t) (mg_ta t) ((mg_at t) + 1)))))), mg_ou t, mg_op t, mg_br t, mg_nw t, mg_fs t, mg_bc t, mg_kr t, mg_rw t, mg_rc t)) (u := u) hta htp g121.2 (kx := 3) (most := 3) (by decide) (by decide) (by decide)) (by omega) (Nat.le_of_ble_eq_true rfl) (fun r1 h1 hq => ?_)
            obtain ⟨rfl, rfl⟩ := (show r1 = nI (nB (mg_tp t) (mg_ta t) (pE (mg_tp t) (mg_ta t) 44 (nE (mg_tp t) (mg_ta t) 1 (pE (mg_tp t) (mg_ta t) 44 (nE (mg_tp t) (mg_ta t) 2 (kE (mg_tp t) (mg_ta t) ((mg_at t) + 1))))))) ∧ h1 = hA (mg_re t, mg_s t, mg_im t, mg_rd t, mg_ii t, mg_tp t, (upd (upd (upd L85 1 (nI (nV (mg_tp t) (mg_ta t) 2 (kE (mg_tp t) (mg_ta t) ((mg_at t) + 1))))) 2 (nI (nV (mg_tp t) (mg_ta t) 1 (pE (mg_tp t) (mg_ta t) 44 (nE (mg_tp t) (mg_ta t) 2 (kE (mg_tp t) (mg_ta t) ((mg_at t) + 1))))))) 3 (nI (nV (mg_tp t) (mg_ta t) 3 (pE (mg_tp t) (mg_ta t) 44 (nE (mg_tp t) (mg_ta t) 1 (pE (mg_tp t) (mg_ta t) 44 (nE (mg_tp t) (mg_ta t) 2 (kE (mg_tp t) (mg_ta t) ((mg_at t) + 1))))))))), mg_ta t, (nE (mg_tp t) (mg_ta t) 3 (pE (mg_tp t) (mg_ta t) 44 (nE (mg_tp t) (mg_ta t) 1 (pE (mg_tp t) (mg_ta t) 44 (nE (mg_tp t) (mg_ta t) 2 (kE (mg_tp t) (mg_ta t) ((mg_at t) + 1))))))), mg_ou t, mg_op t, mg_br t, mg_nw t, mg_fs t, mg_bc t, mg_kr t, mg_rw t, mg_rc t) u from hq)
            have g130 := nE_ok (f := (mg_tp t)) (k := 3) g121.2
            refine n_if_eq eX4_readsStatement_133 (by first | omega | (unfold nB; split <;> omega) | (unfold pB; split <;> omega) | (unfold kB; cases Option.isSome (kO (mg_tp t) (mg_ta t) (mg_at t + 1)) <;> decide)) (fun hc133 => ?_) (fun hc133 => ?_)
            · refine n_iconst 0 eX4_readsStatement_158 rfl ?_
              refine r_istore_n eX4_readsStatement_159 rfl (by decide) ?_
              refine r_goto eX4_readsStatement_160 ?_
              refine r_iload_n eX4_readsStatement_217 rfl rfl ?_
              refine n_if_eq eX4_readsStatement_218 (by first | omega | (unfold nB; split <;> omega) | (unfold pB; split <;> omega) | (unfold kB; cases Option.isSome (kO (mg_tp t) (mg_ta t) (mg_at t + 1)) <;> decide)) (fun hc218 => ?_) (fun hc218 => absurd hc218 (by decide))
              refine n_iconst 0 eX4_readsStatement_234 rfl ?_
              have hp : (pSt (mg_tp t) (mg_ta t) (mg_at t)) = ((nE (mg_tp t) (mg_ta t) 3 (pE (mg_tp t) (mg_ta t) 44 (nE (mg_tp t) (mg_ta t) 1 (pE (mg_tp t) (mg_ta t) 44 (nE (mg_tp t) (mg_ta t) 2 (kE (mg_tp t) (mg_ta t) ((mg_at t) + 1))))))), none) := by
                unfold pSt
                rw [if_pos ha, if_pos hc]
                refine (pK_y hc88).trans ?_
                refine (pN_y hc97).trans ?_
                refine (pS_y hc106).trans ?_
                refine (pN_y hc115).trans ?_
                refine (pS_y hc124).trans ?_
                exact pN_n hc133
              exact z_iret eX4_readsStatement_235 rfl rfl ⟨_, rfl, (upd (upd (upd L85 1 (nI (nV (mg_tp t) (mg_ta t) 2 (kE (mg_tp t) (mg_ta t) ((mg_at t) + 1))))) 2 (nI (nV (mg_tp t) (mg_ta t) 1 (pE (mg_tp t) (mg_ta t) 44 (nE (mg_tp t) (mg_ta t) 2 (kE (mg_tp t) (mg_ta t) ((mg_at t) + 1))))))) 3 (nI (nV (mg_tp t) (mg_ta t) 3 (pE (mg_tp t) (mg_ta t) 44 (nE (mg_tp t) (mg_ta t) 1 (pE (mg_tp t) (mg_ta t) 44 (nE (mg_tp t) (mg_ta t) 2 (kE (mg_tp t) (mg_ta t) ((mg_at t) + 1))))))))), by rw [hp]; first | done | rfl, by rw [hp], (fun x hx => by rw [hp] at hx; cases hx)⟩
            · refine r_aload_n eX4_readsStatement_136 rfl rfl ?_
              refine n_bipush 44 eX4_readsStatement_137 rfl ?_
              refine r_callVi1 eX4_readsStatement_139 lX4_73 (Or.inl ⟨_, _, _, rfl, rfl, rfl⟩) (s4_takes (t := (mg_re t, mg_s t, mg_im t, mg_rd t, mg_ii t, mg_tp t, (upd (upd (upd L85 1 (nI (nV (mg_tp t) (mg_ta t) 2 (kE (mg_tp t) (mg_ta t) ((mg_at t) + 1))))) 2 (nI (nV (mg_tp t) (mg_ta t) 1 (pE (mg_tp t) (mg_ta t) 44 (nE (mg_tp t) (mg_ta t) 2 (kE (mg_tp t) (mg_ta t) ((mg_at t) + 1))))))) 3 (nI (nV (mg_tp t) (mg_ta t) 3 (pE (mg_tp t) (mg_ta t) 44 (nE (mg_tp t) (mg_ta t) 1 (pE (mg_tp t) (mg_ta t) 44 (nE (mg_tp t) (mg_ta t) 2 (kE (mg_tp t) (mg_ta t) ((mg_at t) + 1))))))))), mg_ta t, (nE (mg_tp t) (mg_ta t) 3 (pE (mg_tp t) (mg_ta t) 44 (nE (mg_tp t) (mg_ta t) 1 (pE (mg_tp t) (mg_ta t) 44 (nE (mg_tp t) (mg_ta t) 2 (kE (mg_tp t) (mg_ta t) ((mg_at t) + 1))))))), mg_ou t, mg_op t, mg_br t, mg_nw t, mg_fs t, mg_bc t, mg_kr t, mg_rw t, mg_rc t)) (u := u) hta htp g130.2 (c := 44) (by decide)) (by omega) (Nat.le_of_ble_eq_true rfl) (fun r1 h1 hq => ?_)
              obtain ⟨rfl, rfl⟩ := (show r1 = nI (pB (mg_tp t) (mg_ta t) 44 (nE (mg_tp t) (mg_ta t) 3 (pE (mg_tp t) (mg_ta t) 44 (nE (mg_tp t) (mg_ta t) 1 (pE (mg_tp t) (mg_ta t) 44 (nE (mg_tp t) (mg_ta t) 2 (kE (mg_tp t) (mg_ta t) ((mg_at t) + 1)))))))) ∧ h1 = hA (mg_re t, mg_s t, mg_im t, mg_rd t, mg_ii t, mg_tp t, (upd (upd (upd L85 1 (nI (nV (mg_tp t) (mg_ta t) 2 (kE (mg_tp t) (mg_ta t) ((mg_at t) + 1))))) 2 (nI (nV (mg_tp t) (mg_ta t) 1 (pE (mg_tp t) (mg_ta t) 44 (nE (mg_tp t) (mg_ta t) 2 (kE (mg_tp t) (mg_ta t) ((mg_at t) + 1))))))) 3 (nI (nV (mg_tp t) (mg_ta t) 3 (pE (mg_tp t) (mg_ta t) 44 (nE (mg_tp t) (mg_ta t) 1 (pE (mg_tp t) (mg_ta t) 44 (nE (mg_tp t) (mg_ta t) 2 (kE (mg_tp t) (mg_ta t) ((mg_at t) + 1))))))))), mg_ta t, (pE (mg_tp t) (mg_ta t) 44 (nE (mg_tp t) (mg_ta t) 3 (pE (mg_tp t) (mg_ta t) 44 (nE (mg_tp t) (mg_ta t) 1 (pE (mg_tp t) (mg_ta t) 44 (nE (mg_tp t) (mg_ta t) 2 (kE (mg_tp t) (mg_ta t) ((mg_at t) + 1)))))))), mg_ou t, mg_op t, mg_br t, mg_nw t, mg_fs t, mg_bc t, mg_kr t, mg_rw t, mg_rc t) u from hq)
              have g139 := pE_ok (f := (mg_tp t)) (c := 44) g130.2
              refine n_if_eq eX4_readsStatement_142 (by first | omega | (unfold nB; split <;> omega) | (unfold pB; split <;> omega) | (unfold kB; cases Option.isSome (kO (mg_tp t) (mg_ta t) (mg_at t + 1)) <;> decide)) (fun hc142 => ?_) (fun hc142 => ?_)
              · refine n_iconst 0 eX4_readsStatement_158 rfl ?_
                refine r_istore_n eX4_readsStatement_159 rfl (by decide) ?_
                refine r_goto eX4_readsStatement_160 ?_
                refine r_iload_n eX4_readsStatement_217 rfl rfl ?_
                refine n_if_eq eX4_readsStatement_218 (by first | omega | (unfold nB; split <;> omega) | (unfold pB; split <;> omega) | (unfold kB; cases Option.isSome (kO (mg_tp t) (mg_ta t) (mg_at t + 1)) <;> decide)) (fun hc218 => ?_) (fun hc218 => absurd hc218 (by decide))
                refine n_iconst 0 eX4_readsStatement_234 rfl ?_
                have hp : (pSt (mg_tp t) (mg_ta t) (mg_at t)) = ((pE (mg_tp t) (mg_ta t) 44 (nE (mg_tp t) (mg_ta t) 3 (pE (mg_tp t) (mg_ta t) 44 (nE (mg_tp t) (mg_ta t) 1 (pE (mg_tp t) (mg_ta t) 44 (nE (mg_tp t) (mg_ta t) 2 (kE (mg_tp t) (mg_ta t) ((mg_at t) + 1)))))))), none) := by
                  unfold pSt
                  rw [if_pos ha, if_pos hc]
                  refine (pK_y hc88).trans ?_
                  refine (pN_y hc97).trans ?_
                  refine (pS_y hc106).trans ?_
                  refine (pN_y hc115).trans ?_
                  refine (pS_y hc124).trans ?_
                  refine (pN_y hc133).trans ?_
                  exact pS_n hc142
                exact z_iret eX4_readsStatement_235 rfl rfl ⟨_, rfl, (upd (upd (upd L85 1 (nI (nV (mg_tp t) (mg_ta t) 2 (kE (mg_tp t) (mg_ta t) ((mg_at t) + 1))))) 2 (nI (nV (mg_tp t) (mg_ta t) 1 (pE (mg_tp t) (mg_ta t) 44 (nE (mg_tp t) (mg_ta t) 2 (kE (mg_tp t) (mg_ta t) ((mg_at t) + 1))))))) 3 (nI (nV (mg_tp t) (mg_ta t) 3 (pE (mg_tp t) (mg_ta t) 44 (nE (mg_tp t) (mg_ta t) 1 (pE (mg_tp t) (mg_ta t) 44 (nE (mg_tp t) (mg_ta t) 2 (kE (mg_tp t) (mg_ta t) ((mg_at t) + 1))))))))), by rw [hp]; first | done | rfl, by rw [hp], (fun x hx => by rw [hp] at hx; cases hx)⟩
              · refine r_aload_n eX4_readsStatement_145 rfl rfl ?_
                refine n_iconst 4 eX4_readsStatement_146 rfl ?_
                refine n_iconst 1 eX4_readsStatement_147 rfl ?_
                refine r_callVi2 eX4_readsStatement_148 lX4_70 (Or.inl ⟨_, _, _, rfl, rfl, rfl⟩) (s4_readsNumber (t := (mg_re t, mg_s t, mg_im t, mg_rd t, mg_ii t, mg_tp t, (upd (upd (upd L85 1 (nI (nV (mg_tp t) (mg_ta t) 2 (kE (mg_tp t) (mg_ta t) ((mg_at t) + 1))))) 2 (nI (nV (mg_tp t) (mg_ta t) 1 (pE (mg_tp t) (mg_ta t) 44 (nE (mg_tp t) (mg_ta t) 2 (kE (mg_tp t) (mg_ta t) ((mg_at t) + 1))))))) 3 (nI (nV (mg_tp t) (mg_ta t) 3 (pE (mg_tp t) (mg_ta t) 44 (nE (mg_tp t) (mg_ta t) 1 (pE (mg_tp t) (mg_ta t) 44 (nE (mg_tp t) (mg_ta t) 2 (kE (mg_tp t) (mg_ta t) ((mg_at t) + 1))))))))), mg_ta t, (pE (mg_tp t) (mg_ta t) 44 (nE (mg_tp t) (mg_ta t) 3 (pE (mg_tp t) (mg_ta t) 44 (nE (mg_tp t) (mg_ta t) 1 (pE (mg_tp t) (mg_ta t) 44 (nE (mg_tp t) (mg_ta t) 2 (kE (mg_tp t) (mg_ta t) ((mg_at t) + 1)))))))), mg_ou t, mg_op t, mg_br t, mg_nw t, mg_fs t, mg_bc t, mg_kr t, mg_rw t, mg_rc t)) (u := u) hta htp g139.2 (kx := 4) (most := 1) (by decide) (by decide) (by decide)) (by omega) (Nat.le_of_ble_eq_true rfl) (fun r1 h1 hq => ?_)
                obtain ⟨rfl, rfl⟩ := (show r1 = nI (nB (mg_tp t) (mg_ta t) (pE (mg_tp t) (mg_ta t) 44 (nE (mg_tp t) (mg_ta t) 3 (pE (mg_tp t) (mg_ta t) 44 (nE (mg_tp t) (mg_ta t) 1 (pE (mg_tp t) (mg_ta t) 44 (nE (mg_tp t) (mg_ta t) 2 (kE (mg_tp t) (mg_ta t) ((mg_at t) + 1))))))))) ∧ h1 = hA (mg_re t, mg_s t, mg_im t, mg_rd t, mg_ii t, mg_tp t, (upd (upd (upd (upd L85 1 (nI (nV (mg_tp t) (mg_ta t) 2 (kE (mg_tp t) (mg_ta t) ((mg_at t) + 1))))) 2 (nI (nV (mg_tp t) (mg_ta t) 1 (pE (mg_tp t) (mg_ta t) 44 (nE (mg_tp t) (mg_ta t) 2 (kE (mg_tp t) (mg_ta t) ((mg_at t) + 1))))))) 3 (nI (nV (mg_tp t) (mg_ta t) 3 (pE (mg_tp t) (mg_ta t) 44 (nE (mg_tp t) (mg_ta t) 1 (pE (mg_tp t) (mg_ta t) 44 (nE (mg_tp t) (mg_ta t) 2 (kE (mg_tp t) (mg_ta t) ((mg_at t) + 1))))))))) 4 (nI (nV (mg_tp t) (mg_ta t) 1 (pE (mg_tp t) (mg_ta t) 44 (nE (mg_tp t) (mg_ta t) 3 (pE (mg_tp t) (mg_ta t) 44 (nE (mg_tp t) (mg_ta t) 1 (pE (mg_tp t) (mg_ta t) 44 (nE (mg_tp t) (mg_ta t) 2 (kE (mg_tp t) (mg_ta t) ((mg_at t) + 1))))))))))), mg_ta t, (nE (mg_tp t) (mg_ta t) 1 (pE (mg_tp t) (mg_ta t) 44 (nE (mg_tp t) (mg_ta t) 3 (pE (mg_tp t) (mg_ta t) 44 (nE (mg_tp t) (mg_ta t) 1 (pE (mg_tp t) (mg_ta t) 44 (nE (mg_tp t) (mg_ta t) 2 (kE (mg_tp t) (mg_ta t) ((mg_at t) + 1))))))))), mg_ou t, mg_op t, mg_br t, mg_nw t, mg_fs t, mg_bc t, mg_kr t, mg_rw t, mg_rc t) u from hq)
                have g148 := nE_ok (f := (mg_tp t)) (k := 1) g139.2
                refine n_if_eq eX4_readsStatement_151 (by first | omega | (unfold nB; split <;> omega) | (unfold pB; split <;> omega) | (unfold kB; cases Option.isSome (kO (mg_tp t) (mg_ta t) (mg_at t + 1)) <;> decide)) (fun hc151 => ?_) (fun hc151 => ?_)
                · refine n_iconst 0 eX4_readsStatement_158 rfl ?_
                  refine r_istore_n eX4_readsStatement_159 rfl (by decide) ?_
                  refine r_goto eX4_readsStatement_160 ?_
                  refine r_iload_n eX4_readsStatement_217 rfl rfl ?_
                  refine n_if_eq eX4_readsStatement_218 (by first | omega | (unfold nB; split <;> omega) | (unfold pB; split <;> omega) | (unfold kB; cases Option.isSome (kO (mg_tp t) (mg_ta t) (mg_at t + 1)) <;> decide)) (fun hc218 => ?_) (fun hc218 => absurd hc218 (by decide))
                  refine n_iconst 0 eX4_readsStatement_234 rfl ?_
                  have hp : (pSt (mg_tp t) (mg_ta t) (mg_at t)) = ((nE (mg_tp t) (mg_ta t) 1 (pE (mg_tp t) (mg_ta t) 44 (nE (mg_tp t) (mg_ta t) 3 (pE (mg_tp t) (mg_ta t) 44 (nE (mg_tp t) (mg_ta t) 1 (pE (mg_tp t) (mg_ta t) 44 (nE (mg_tp t) (mg_ta t) 2 (kE (mg_tp t) (mg_ta t) ((mg_at t) + 1))))))))), none) := by
                    unfold pSt
                    rw [if_pos ha, if_pos hc]
                    refine (pK_y hc88).trans ?_
                    refine (pN_y hc97).trans ?_
                    refine (pS_y hc106).trans ?_
                    refine (pN_y hc115).trans ?_
                    refine (pS_y hc124).trans ?_
                    refine (pN_y hc133).trans ?_
                    refine (pS_y hc142).trans ?_
                    exact pN_n hc151
                  exact z_iret eX4_readsStatement_235 rfl rfl ⟨_, rfl, (upd (upd (upd (upd L85 1 (nI (nV (mg_tp t) (mg_ta t) 2 (kE (mg_tp t) (mg_ta t) ((mg_at t) + 1))))) 2 (nI (nV (mg_tp t) (mg_ta t) 1 (pE (mg_tp t) (mg_ta t) 44 (nE (mg_tp t) (mg_ta t) 2 (kE (mg_tp t) (mg_ta t) ((mg_at t) + 1))))))) 3 (nI (nV (mg_tp t) (mg_ta t) 3 (pE (mg_tp t) (mg_ta t) 44 (nE (mg_tp t) (mg_ta t) 1 (pE (mg_tp t) (mg_ta t) 44 (nE (mg_tp t) (mg_ta t) 2 (kE (mg_tp t) (mg_ta t) ((mg_at t) + 1))))))))) 4 (nI (nV (mg_tp t) (mg_ta t) 1 (pE (mg_tp t) (mg_ta t) 44 (nE (mg_tp t) (mg_ta t) 3 (pE (mg_tp t) (mg_ta t) 44 (nE (mg_tp t) (mg_ta t) 1 (pE (mg_tp t) (mg_ta t) 44 (nE (mg_tp t) (mg_ta t) 2 (kE (mg_tp t) (mg_ta t) ((mg_at t) + 1))))))))))), by rw [hp]; first | done | rfl, by rw [hp], (fun x hx => by rw [hp] at hx; cases hx)⟩
                · refine n_iconst 1 eX4_readsStatement_154 rfl ?_
                  refine r_goto eX4_readsStatement_155 ?_
                  refine r_istore_n eX4_readsStatement_159 rfl (by decide) ?_
                  refine r_goto eX4_readsStatement_160 ?_
                  refine r_iload_n eX4_readsStatement_217 rfl rfl ?_
                  refine n_if_eq eX4_readsStatement_218 (by first | omega | (unfold nB; split <;> omega) | (unfold pB; split <;> omega) | (unfold kB; cases Option.isSome (kO (mg_tp t) (mg_ta t) (mg_at t + 1)) <;> decide)) (fun hc218 => absurd hc218 (by decide)) (fun hc218 => ?_)
                  refine r_aload_n eX4_readsStatement_221 rfl rfl ?_
                  refine n_bipush 59 eX4_readsStatement_222 rfl ?_
                  refine r_callVi1 eX4_readsStatement_224 lX4_73 (Or.inl ⟨_, _, _, rfl, rfl, rfl⟩) (s4_takes (t := (mg_re t, mg_s t, mg_im t, mg_rd t, mg_ii t, mg_tp t, (upd (upd (upd (upd L85 1 (nI (nV (mg_tp t) (mg_ta t) 2 (kE (mg_tp t) (mg_ta t) ((mg_at t) + 1))))) 2 (nI (nV (mg_tp t) (mg_ta t) 1 (pE (mg_tp t) (mg_ta t) 44 (nE (mg_tp t) (mg_ta t) 2 (kE (mg_tp t) (mg_ta t) ((mg_at t) + 1))))))) 3 (nI (nV (mg_tp t) (mg_ta t) 3 (pE (mg_tp t) (mg_ta t) 44 (nE (mg_tp t) (mg_ta t) 1 (pE (mg_tp t) (mg_ta t) 44 (nE (mg_tp t) (mg_ta t) 2 (kE (mg_tp t) (mg_ta t) ((mg_at t) + 1))))))))) 4 (nI (nV (mg_tp t) (mg_ta t) 1 (pE (mg_tp t) (mg_ta t) 44 (nE (mg_tp t) (mg_ta t) 3 (pE (mg_tp t) (mg_ta t) 44 (nE (mg_tp t) (mg_ta t) 1 (pE (mg_tp t) (mg_ta t) 44 (nE (mg_tp t) (mg_ta t) 2 (kE (mg_tp t) (mg_ta t) ((mg_at t) + 1))))))))))), mg_ta t, (nE (mg_tp t) (mg_ta t) 1 (pE (mg_tp t) (mg_ta t) 44 (nE (mg_tp t) (mg_ta t) 3 (pE (mg_tp t) (mg_ta t) 44 (nE (mg_tp t) (mg_ta t) 1 (pE (mg_tp t) (mg_ta t) 44 (nE (mg_tp t) (mg_ta t) 2 (kE (mg_tp t) (mg_ta t) ((mg_at t) + 1))))))))), mg_ou t, mg_op t, mg_br t, mg_nw t, mg_fs t, mg_bc t, mg_kr t, mg_rw t, mg_rc t)) (u := u) hta htp g148.2 (c := 59) (by decide)) (by omega) (Nat.le_of_ble_eq_true rfl) (fun r1 h1 hq => ?_)
                  obtain ⟨rfl, rfl⟩ := (show r1 = nI (pB (mg_tp t) (mg_ta t) 59 (nE (mg_tp t) (mg_ta t) 1 (pE (mg_tp t) (mg_ta t) 44 (nE (mg_tp t) (mg_ta t) 3 (pE (mg_tp t) (mg_ta t) 44 (nE (mg_tp t) (mg_ta t) 1 (pE (mg_tp t) (mg_ta t) 44 (nE (mg_tp t) (mg_ta t) 2 (kE (mg_tp t) (mg_ta t) ((mg_at t) + 1)))))))))) ∧ h1 = hA (mg_re t, mg_s t, mg_im t, mg_rd t, mg_ii t, mg_tp t, (upd (upd (upd (upd L85 1 (nI (nV (mg_tp t) (mg_ta t) 2 (kE (mg_tp t) (mg_ta t) ((mg_at t) + 1))))) 2 (nI (nV (mg_tp t) (mg_ta t) 1 (pE (mg_tp t) (mg_ta t) 44 (nE (mg_tp t) (mg_ta t) 2 (kE (mg_tp t) (mg_ta t) ((mg_at t) + 1))))))) 3 (nI (nV (mg_tp t) (mg_ta t) 3 (pE (mg_tp t) (mg_ta t) 44 (nE (mg_tp t) (mg_ta t) 1 (pE (mg_tp t) (mg_ta t) 44 (nE (mg_tp t) (mg_ta t) 2 (kE (mg_tp t) (mg_ta t) ((mg_at t) + 1))))))))) 4 (nI (nV (mg_tp t) (mg_ta t) 1 (pE (mg_tp t) (mg_ta t) 44 (nE (mg_tp t) (mg_ta t) 3 (pE (mg_tp t) (mg_ta t) 44 (nE (mg_tp t) (mg_ta t) 1 (pE (mg_tp t) (mg_ta t) 44 (nE (mg_tp t) (mg_ta t) 2 (kE (mg_tp t) (mg_ta t) ((mg_at t) + 1))))))))))), mg_ta t, (pE (mg_tp t) (mg_ta t) 59 (nE (mg_tp t) (mg_ta t) 1 (pE (mg_tp t) (mg_ta t) 44 (nE (mg_tp t) (mg_ta t) 3 (pE (mg_tp t) (mg_ta t) 44 (nE (mg_tp t) (mg_ta t) 1 (pE (mg_tp t) (mg_ta t) 44 (nE (mg_tp t) (mg_ta t) 2 (kE (mg_tp t) (mg_ta t) ((mg_at t) + 1)))))))))), mg_ou t, mg_op t, mg_br t, mg_nw t, mg_fs t, mg_bc t, mg_kr t, mg_rw t, mg_rc t) u from hq)
                  have g224 := pE_ok (f := (mg_tp t)) (c := 59) g148.2
                  refine n_if_eq eX4_readsStatement_227 (by first | omega | (unfold nB; split <;> omega) | (unfold pB; split <;> omega) | (unfold kB; cases Option.isSome (kO (mg_tp t) (mg_ta t) (mg_at t + 1)) <;> decide)) (fun hc227 => ?_) (fun hc227 => ?_)
                  · refine n_iconst 0 eX4_readsStatement_234 rfl ?_
                    have hp : (pSt (mg_tp t) (mg_ta t) (mg_at t)) = ((pE (mg_tp t) (mg_ta t) 59 (nE (mg_tp t) (mg_ta t) 1 (pE (mg_tp t) (mg_ta t) 44 (nE (mg_tp t) (mg_ta t) 3 (pE (mg_tp t) (mg_ta t) 44 (nE (mg_tp t) (mg_ta t) 1 (pE (mg_tp t) (mg_ta t) 44 (nE (mg_tp t) (mg_ta t) 2 (kE (mg_tp t) (mg_ta t) ((mg_at t) + 1)))))))))), none) := by
                      unfold pSt
                      rw [if_pos ha, if_pos hc]
                      refine (pK_y hc88).trans ?_
                      refine (pN_y hc97).trans ?_
                      refine (pS_y hc106).trans ?_
                      refine (pN_y hc115).trans ?_
                      refine (pS_y hc124).trans ?_
                      refine (pN_y hc133).trans ?_
                      refine (pS_y hc142).trans ?_
                      refine (pN_y hc151).trans ?_
                      exact pS_n hc227
                    exact z_iret eX4_readsStatement_235 rfl rfl ⟨_, rfl, (upd (upd (upd (upd L85 1 (nI (nV (mg_tp t) (mg_ta t) 2 (kE (mg_tp t) (mg_ta t) ((mg_at t) + 1))))) 2 (nI (nV (mg_tp t) (mg_ta t) 1 (pE (mg_tp t) (mg_ta t) 44 (nE (mg_tp t) (mg_ta t) 2 (kE (mg_tp t) (mg_ta t) ((mg_at t) + 1))))))) 3 (nI (nV (mg_tp t) (mg_ta t) 3 (pE (mg_tp t) (mg_ta t) 44 (nE (mg_tp t) (mg_ta t) 1 (pE (mg_tp t) (mg_ta t) 44 (nE (mg_tp t) (mg_ta t) 2 (kE (mg_tp t) (mg_ta t) ((mg_at t) + 1))))))))) 4 (nI (nV (mg_tp t) (mg_ta t) 1 (pE (mg_tp t) (mg_ta t) 44 (nE (mg_tp t) (mg_ta t) 3 (pE (mg_tp t) (mg_ta t) 44 (nE (mg_tp t) (mg_ta t) 1 (pE (mg_tp t) (mg_ta t) 44 (nE (mg_tp t) (mg_ta t) 2 (kE (mg_tp t) (mg_ta t) ((mg_at t) + 1))))))))))), by rw [hp]; first | done | rfl, by rw [hp], (fun x hx => by rw [hp] at hx; cases hx)⟩
                  · refine n_iconst 1 eX4_readsStatement_230 rfl ?_
                    refine r_goto eX4_readsStatement_231 ?_
                    have hp : (pSt (mg_tp t) (mg_ta t) (mg_at t)) = ((pE (mg_tp t) (mg_ta t) 59 (nE (mg_tp t) (mg_ta t) 1 (pE (mg_tp t) (mg_ta t) 44 (nE (mg_tp t) (mg_ta t) 3 (pE (mg_tp t) (mg_ta t) 44 (nE (mg_tp t) (mg_ta t) 1 (pE (mg_tp t) (mg_ta t) 44 (nE (mg_tp t) (mg_ta t) 2 (kE (mg_tp t) (mg_ta t) ((mg_at t) + 1)))))))))), some ((kV (mg_tp t) (mg_ta t) ((mg_at t) + 1)), (nV (mg_tp t) (mg_ta t) 2 (kE (mg_tp t) (mg_ta t) ((mg_at t) + 1))), (nV (mg_tp t) (mg_ta t) 1 (pE (mg_tp t) (mg_ta t) 44 (nE (mg_tp t) (mg_ta t) 2 (kE (mg_tp t) (mg_ta t) ((mg_at t) + 1))))), (nV (mg_tp t) (mg_ta t) 3 (pE (mg_tp t) (mg_ta t) 44 (nE (mg_tp t) (mg_ta t) 1 (pE (mg_tp t) (mg_ta t) 44 (nE (mg_tp t) (mg_ta t) 2 (kE (mg_tp t) (mg_ta t) ((mg_at t) + 1))))))), (nV (mg_tp t) (mg_ta t) 1 (pE (mg_tp t) (mg_ta t) 44 (nE (mg_tp t) (mg_ta t) 3 (pE (mg_tp t) (mg_ta t) 44 (nE (mg_tp t) (mg_ta t) 1 (pE (mg_tp t) (mg_ta t) 44 (nE (mg_tp t) (mg_ta t) 2 (kE (mg_tp t) (mg_ta t) ((mg_at t) + 1))))))))))) := by
                      unfold pSt
                      rw [if_pos ha, if_pos hc]
                      refine (pK_y hc88).trans ?_
                      refine (pN_y hc97).trans ?_
                      refine (pS_y hc106).trans ?_
                      refine (pN_y hc115).trans ?_
                      refine (pS_y hc124).trans ?_
                      refine (pN_y hc133).trans ?_
                      refine (pS_y hc142).trans ?_
                      refine (pN_y hc151).trans ?_
                      exact pS_y hc227
                    exact z_iret eX4_readsStatement_235 rfl rfl ⟨_, rfl, (upd (upd (upd (upd L85 1 (nI (nV (mg_tp t) (mg_ta t) 2 (kE (mg_tp t) (mg_ta t) ((mg_at t) + 1))))) 2 (nI (nV (mg_tp t) (mg_ta t) 1 (pE (mg_tp t) (mg_ta t) 44 (nE (mg_tp t) (mg_ta t) 2 (kE (mg_tp t) (mg_ta t) ((mg_at t) + 1))))))) 3 (nI (nV (mg_tp t) (mg_ta t) 3 (pE (mg_tp t) (mg_ta t) 44 (nE (mg_tp t) (mg_ta t) 1 (pE (mg_tp t) (mg_ta t) 44 (nE (mg_tp t) (mg_ta t) 2 (kE (mg_tp t) (mg_ta t) ((mg_at t) + 1))))))))) 4 (nI (nV (mg_tp t) (mg_ta t) 1 (pE (mg_tp t) (mg_ta t) 44 (nE (mg_tp t) (mg_ta t) 3 (pE (mg_tp t) (mg_ta t) 44 (nE (mg_tp t) (mg_ta t) 1 (pE (mg_tp t) (mg_ta t) 44 (nE (mg_tp t) (mg_ta t) 2 (kE (mg_tp t) (mg_ta t) ((mg_at t) + 1))))))))))), by rw [hp]; first | done | rfl, by rw [hp], (fun x hx => by rw [hp] at hx; cases hx; exact ⟨fun _ => ⟨by show L85 0 = _; rw [hL85 hc88]; exact zupd_s, rfl, rfl, rfl, rfl⟩, fun z => absurd (hc.symm.trans z) (by decide), fun z => by omega⟩)⟩
set_option maxHeartbeats 1000000 in
set_option maxRecDepth 100000 in
theorem s4_rst_107 {t : zMod} {u : zCls} (hta : mg_ta t ≤ 80) (htp : ∀ i, mg_tp t i ≤ 255) (ha : mg_at t < mg_ta t) (hc : mg_tp t (mg_at t) = 107) : Mi mX4_readsStatement 6 [.ref 0] (hA t u) (fun r h' => ∃ L : Nat → Int32, r = nI ((pSt (mg_tp t) (mg_ta t) (mg_at t)).2.isSome.toNat) ∧ h' = hA (mg_re t, mg_s t, mg_im t, mg_rd t, mg_ii t, mg_tp t, L, mg_ta t, ((pSt (mg_tp t) (mg_ta t) (mg_at t)).1), mg_ou t, mg_op t, mg_br t, mg_nw t, mg_fs t, mg_bc t, mg_kr t, mg_rw t, mg_rc t) u ∧ ∀ x, (pSt (mg_tp t) (mg_ta t) (mg_at t)).2 = some x → zTl (mg_tp t (mg_at t)) x L) := by
  have g0 : mg_at t ≤ mg_at t + 1 ∧ mg_at t + 1 ≤ mg_ta t := ⟨by omega, ha⟩
  refine Mi.of (by decide) rfl (Nat.le_of_ble_eq_true rfl) ?_
  refine r_aload_n eX4_readsStatement_0 rfl rfl ?_
  refine r_callVi0 eX4_readsStatement_1 lX4_59 (Or.inl ⟨_, _, _, rfl, rfl, rfl⟩) (s4_sign_y (t := t) (u := u) hta htp ha) (by omega) (Nat.le_of_ble_eq_true rfl) (fun r1 h1 hq => ?_)
  obtain ⟨rfl, rfl⟩ := (show r1 = nI (mg_tp t (mg_at t)) ∧ h1 = hA t u from hq)
  refine z_top (y := nI (107)) (congrArg nI hc) ?_
  refine r_istore_n eX4_readsStatement_4 rfl (by decide) ?_
  refine n_iconst 0 eX4_readsStatement_5 rfl ?_
  refine r_istore_n eX4_readsStatement_6 rfl (by decide) ?_
  refine r_aload_n eX4_readsStatement_7 rfl rfl ?_
  refine r_dup eX4_readsStatement_8 rfl ?_
  refine r_getf (v := .int (nI (mg_at t))) eX4_readsStatement_9 fX4_56 rfl rfl ?_
  refine n_iconst 1 eX4_readsStatement_12 rfl ?_
  refine n_add eX4_readsStatement_13 ?_
  refine z_h (h' := hA (mg_re t, mg_s t, mg_im t, mg_rd t, mg_ii t, mg_tp t, mg_tl t, mg_ta t, mg_at t, mg_ou t, mg_op t, mg_br t, mg_nw t, mg_fs t, mg_bc t, mg_kr t, mg_rw t, mg_rc t) u) rfl ?_
  refine mp_at (v := (mg_at t) + 1) eX4_readsStatement_14 fX4_56 rfl ?_
  refine r_iload_n eX4_readsStatement_17 rfl rfl ?_
  refine r_tabIn (off := 145) (tgt := 163) eX4_readsStatement_18 (by decide) (by decide) (by decide) (by decide) ?_
  refine r_aload_n eX4_readsStatement_163 rfl rfl ?_
  refine n_iconst 0 eX4_readsStatement_164 rfl ?_
  refine n_iconst 1 eX4_readsStatement_165 rfl ?_
  refine r_callVi2 eX4_readsStatement_166 lX4_70 (Or.inl ⟨_, _, _, rfl, rfl, rfl⟩) (s4_readsNumber (t := (mg_re t, mg_s t, mg_im t, mg_rd t, mg_ii t, mg_tp t, mg_tl t, mg_ta t, (mg_at t) + 1, mg_ou t, mg_op t, mg_br t, mg_nw t, mg_fs t, mg_bc t, mg_kr t, mg_rw t, mg_rc t)) (u := u) hta htp g0.2 (kx := 0) (most := 1) (by decide) (by decide) (by decide)) (by omega) (Nat.le_of_ble_eq_true rfl) (fun r1 h1 hq => ?_)
  obtain ⟨rfl, rfl⟩ := (show r1 = nI (nB (mg_tp t) (mg_ta t) ((mg_at t) + 1)) ∧ h1 = hA (mg_re t, mg_s t, mg_im t, mg_rd t, mg_ii t, mg_tp t, (upd (mg_tl t) 0 (nI (nV (mg_tp t) (mg_ta t) 1 ((mg_at t) + 1)))), mg_ta t, (nE (mg_tp t) (mg_ta t) 1 ((mg_at t) + 1)), mg_ou t, mg_op t, mg_br t, mg_nw t, mg_fs t, mg_bc t, mg_kr t, mg_rw t, mg_rc t) u from hq)
  have g166 := nE_ok (f := (mg_tp t)) (k := 1) g0.2
  refine n_if_eq eX4_readsStatement_169 (by first | omega | (unfold nB; split <;> omega) | (unfold pB; split <;> omega) | (unfold kB; cases Option.isSome (kO (mg_tp t) (mg_ta t) (mg_at t + 1)) <;> decide)) (fun hc169 => ?_) (fun hc169 => ?_)
  · refine n_iconst 0 eX4_readsStatement_185 rfl ?_
    refine r_istore_n eX4_readsStatement_186 rfl (by decide) ?_
    refine r_goto eX4_readsStatement_187 ?_
    refine r_iload_n eX4_readsStatement_217 rfl rfl ?_
    refine n_if_eq eX4_readsStatement_218 (by first | omega | (unfold nB; split <;> omega) | (unfold pB; split <;> omega) | (unfold kB; cases Option.isSome (kO (mg_tp t) (mg_ta t) (mg_at t + 1)) <;> decide)) (fun hc218 => ?_) (fun hc218 => absurd hc218 (by decide))
    refine n_iconst 0 eX4_readsStatement_234 rfl ?_
    have hp : (pSt (mg_tp t) (mg_ta t) (mg_at t)) = ((nE (mg_tp t) (mg_ta t) 1 ((mg_at t) + 1)), none) := by
      unfold pSt
      rw [if_pos ha, if_neg (by omega), if_pos hc]
      exact pN_n hc169
    exact z_iret eX4_readsStatement_235 rfl rfl ⟨_, rfl, (upd (mg_tl t) 0 (nI (nV (mg_tp t) (mg_ta t) 1 ((mg_at t) + 1)))), by rw [hp]; first | done | rfl, by rw [hp], (fun x hx => by rw [hp] at hx; cases hx)⟩
  · refine r_aload_n eX4_readsStatement_172 rfl rfl ?_
    refine n_iconst 1 eX4_readsStatement_173 rfl ?_
    refine n_iconst 1 eX4_readsStatement_174 rfl ?_
    refine r_callVi2 eX4_readsStatement_175 lX4_70 (Or.inl ⟨_, _, _, rfl, rfl, rfl⟩) (s4_readsNumber (t := (mg_re t, mg_s t, mg_im t, mg_rd t, mg_ii t, mg_tp t, (upd (mg_tl t) 0 (nI (nV (mg_tp t) (mg_ta t) 1 ((mg_at t) + 1)))), mg_ta t, (nE (mg_tp t) (mg_ta t) 1 ((mg_at t) + 1)), mg_ou t, mg_op t, mg_br t, mg_nw t, mg_fs t, mg_bc t, mg_kr t, mg_rw t, mg_rc t)) (u := u) hta htp g166.2 (kx := 1) (most := 1) (by decide) (by decide) (by decide)) (by omega) (Nat.le_of_ble_eq_true rfl) (fun r1 h1 hq => ?_)
    obtain ⟨rfl, rfl⟩ := (show r1 = nI (nB (mg_tp t) (mg_ta t) (nE (mg_tp t) (mg_ta t) 1 ((mg_at t) + 1))) ∧ h1 = hA (mg_re t, mg_s t, mg_im t, mg_rd t, mg_ii t, mg_tp t, (upd (upd (mg_tl t) 0 (nI (nV (mg_tp t) (mg_ta t) 1 ((mg_at t) + 1)))) 1 (nI (nV (mg_tp t) (mg_ta t) 1 (nE (mg_tp t) (mg_ta t) 1 ((mg_at t) + 1))))), mg_ta t, (nE (mg_tp t) (mg_ta t) 1 (nE (mg_tp t) (mg_ta t) 1 ((mg_at t) + 1))), mg_ou t, mg_op t, mg_br t, mg_nw t, mg_fs t, mg_bc t, mg_kr t, mg_rw t, mg_rc t) u from hq)
    have g175 := nE_ok (f := (mg_tp t)) (k := 1) g166.2
    refine n_if_eq eX4_readsStatement_178 (by first | omega | (unfold nB; split <;> omega) | (unfold pB; split <;> omega) | (unfold kB; cases Option.isSome (kO (mg_tp t) (mg_ta t) (mg_at t + 1)) <;> decide)) (fun hc178 => ?_) (fun hc178 => ?_)
    · refine n_iconst 0 eX4_readsStatement_185 rfl ?_
      refine r_istore_n eX4_readsStatement_186 rfl (by decide) ?_
      refine r_goto eX4_readsStatement_187 ?_
      refine r_iload_n eX4_readsStatement_217 rfl rfl ?_
      refine n_if_eq eX4_readsStatement_218 (by first | omega | (unfold nB; split <;> omega) | (unfold pB; split <;> omega) | (unfold kB; cases Option.isSome (kO (mg_tp t) (mg_ta t) (mg_at t + 1)) <;> decide)) (fun hc218 => ?_) (fun hc218 => absurd hc218 (by decide))
      refine n_iconst 0 eX4_readsStatement_234 rfl ?_
      have hp : (pSt (mg_tp t) (mg_ta t) (mg_at t)) = ((nE (mg_tp t) (mg_ta t) 1 (nE (mg_tp t) (mg_ta t) 1 ((mg_at t) + 1))), none) := by
        unfold pSt
        rw [if_pos ha, if_neg (by omega), if_pos hc]
        refine (pN_y hc169).trans ?_
        exact pN_n hc178
      exact z_iret eX4_readsStatement_235 rfl rfl ⟨_, rfl, (upd (upd (mg_tl t) 0 (nI (nV (mg_tp t) (mg_ta t) 1 ((mg_at t) + 1)))) 1 (nI (nV (mg_tp t) (mg_ta t) 1 (nE (mg_tp t) (mg_ta t) 1 ((mg_at t) + 1))))), by rw [hp]; first | done | rfl, by rw [hp], (fun x hx => by rw [hp] at hx; cases hx)⟩
    · refine n_iconst 1 eX4_readsStatement_181 rfl ?_
      refine r_goto eX4_readsStatement_182 ?_
      refine r_istore_n eX4_readsStatement_186 rfl (by decide) ?_
      refine r_goto eX4_readsStatement_187 ?_
      refine r_iload_n eX4_readsStatement_217 rfl rfl ?_
      refine n_if_eq eX4_readsStatement_218 (by first | omega | (unfold nB; split <;> omega) | (unfold pB; split <;> omega) | (unfold kB; cases Option.isSome (kO (mg_tp t) (mg_ta t) (mg_at t + 1)) <;> decide)) (fun hc218 => absurd hc218 (by decide)) (fun hc218 => ?_)
      refine r_aload_n eX4_readsStatement_221 rfl rfl ?_
      refine n_bipush 59 eX4_readsStatement_222 rfl ?_
      refine r_callVi1 eX4_readsStatement_224 lX4_73 (Or.inl ⟨_, _, _, rfl, rfl, rfl⟩) (s4_takes (t := (mg_re t, mg_s t, mg_im t, mg_rd t, mg_ii t, mg_tp t, (upd (upd (mg_tl t) 0 (nI (nV (mg_tp t) (mg_ta t) 1 ((mg_at t) + 1)))) 1 (nI (nV (mg_tp t) (mg_ta t) 1 (nE (mg_tp t) (mg_ta t) 1 ((mg_at t) + 1))))), mg_ta t, (nE (mg_tp t) (mg_ta t) 1 (nE (mg_tp t) (mg_ta t) 1 ((mg_at t) + 1))), mg_ou t, mg_op t, mg_br t, mg_nw t, mg_fs t, mg_bc t, mg_kr t, mg_rw t, mg_rc t)) (u := u) hta htp g175.2 (c := 59) (by decide)) (by omega) (Nat.le_of_ble_eq_true rfl) (fun r1 h1 hq => ?_)
      obtain ⟨rfl, rfl⟩ := (show r1 = nI (pB (mg_tp t) (mg_ta t) 59 (nE (mg_tp t) (mg_ta t) 1 (nE (mg_tp t) (mg_ta t) 1 ((mg_at t) + 1)))) ∧ h1 = hA (mg_re t, mg_s t, mg_im t, mg_rd t, mg_ii t, mg_tp t, (upd (upd (mg_tl t) 0 (nI (nV (mg_tp t) (mg_ta t) 1 ((mg_at t) + 1)))) 1 (nI (nV (mg_tp t) (mg_ta t) 1 (nE (mg_tp t) (mg_ta t) 1 ((mg_at t) + 1))))), mg_ta t, (pE (mg_tp t) (mg_ta t) 59 (nE (mg_tp t) (mg_ta t) 1 (nE (mg_tp t) (mg_ta t) 1 ((mg_at t) + 1)))), mg_ou t, mg_op t, mg_br t, mg_nw t, mg_fs t, mg_bc t, mg_kr t, mg_rw t, mg_rc t) u from hq)
      have g224 := pE_ok (f := (mg_tp t)) (c := 59) g175.2
      refine n_if_eq eX4_readsStatement_227 (by first | omega | (unfold nB; split <;> omega) | (unfold pB; split <;> omega) | (unfold kB; cases Option.isSome (kO (mg_tp t) (mg_ta t) (mg_at t + 1)) <;> decide)) (fun hc227 => ?_) (fun hc227 => ?_)
      · refine n_iconst 0 eX4_readsStatement_234 rfl ?_
        have hp : (pSt (mg_tp t) (mg_ta t) (mg_at t)) = ((pE (mg_tp t) (mg_ta t) 59 (nE (mg_tp t) (mg_ta t) 1 (nE (mg_tp t) (mg_ta t) 1 ((mg_at t) + 1)))), none) := by
          unfold pSt
          rw [if_pos ha, if_neg (by omega), if_pos hc]
          refine (pN_y hc169).trans ?_
          refine (pN_y hc178).trans ?_
          exact pS_n hc227
        exact z_iret eX4_readsStatement_235 rfl rfl ⟨_, rfl, (upd (upd (mg_tl t) 0 (nI (nV (mg_tp t) (mg_ta t) 1 ((mg_at t) + 1)))) 1 (nI (nV (mg_tp t) (mg_ta t) 1 (nE (mg_tp t) (mg_ta t) 1 ((mg_at t) + 1))))), by rw [hp]; first | done | rfl, by rw [hp], (fun x hx => by rw [hp] at hx; cases hx)⟩
      · refine n_iconst 1 eX4_readsStatement_230 rfl ?_
        refine r_goto eX4_readsStatement_231 ?_
        have hp : (pSt (mg_tp t) (mg_ta t) (mg_at t)) = ((pE (mg_tp t) (mg_ta t) 59 (nE (mg_tp t) (mg_ta t) 1 (nE (mg_tp t) (mg_ta t) 1 ((mg_at t) + 1)))), some ((nV (mg_tp t) (mg_ta t) 1 ((mg_at t) + 1)), (nV (mg_tp t) (mg_ta t) 1 (nE (mg_tp t) (mg_ta t) 1 ((mg_at t) + 1))), 0, 0, 0)) := by
          unfold pSt
          rw [if_pos ha, if_neg (by omega), if_pos hc]
          refine (pN_y hc169).trans ?_
          refine (pN_y hc178).trans ?_
          exact pS_y hc227
        exact z_iret eX4_readsStatement_235 rfl rfl ⟨_, rfl, (upd (upd (mg_tl t) 0 (nI (nV (mg_tp t) (mg_ta t) 1 ((mg_at t) + 1)))) 1 (nI (nV (mg_tp t) (mg_ta t) 1 (nE (mg_tp t) (mg_ta t) 1 ((mg_at t) + 1))))), by rw [hp]; first | done | rfl, by rw [hp], (fun x hx => by rw [hp] at hx; cases hx; exact ⟨fun z => absurd (hc.symm.trans z) (by decide), fun _ => ⟨rfl, rfl⟩, fun z => by omega⟩)⟩
set_option maxHeartbeats 1000000 in
set_option maxRecDepth 100000 in
theorem s4_rst_119 {t : zMod} {u : zCls} (hta : mg_ta t ≤ 80) (htp : ∀ i, mg_tp t i ≤ 255) (ha : mg_at t < mg_ta t) (hc : mg_tp t (mg_at t) = 119) : Mi mX4_readsStatement 6 [.ref 0] (hA t u) (fun r h' => ∃ L : Nat → Int32, r = nI ((pSt (mg_tp t) (mg_ta t) (mg_at t)).2.isSome.toNat) ∧ h' = hA (mg_re t, mg_s t, mg_im t, mg_rd t, mg_ii t, mg_tp t, L, mg_ta t, ((pSt (mg_tp t) (mg_ta t) (mg_at t)).1), mg_ou t, mg_op t, mg_br t, mg_nw t, mg_fs t, mg_bc t, mg_kr t, mg_rw t, mg_rc t) u ∧ ∀ x, (pSt (mg_tp t) (mg_ta t) (mg_at t)).2 = some x → zTl (mg_tp t (mg_at t)) x L) := by
  have g0 : mg_at t ≤ mg_at t + 1 ∧ mg_at t + 1 ≤ mg_ta t := ⟨by omega, ha⟩
  refine Mi.of (by decide) rfl (Nat.le_of_ble_eq_true rfl) ?_
  refine r_aload_n eX4_readsStatement_0 rfl rfl ?_
  refine r_callVi0 eX4_readsStatement_1 lX4_59 (Or.inl ⟨_, _, _, rfl, rfl, rfl⟩) (s4_sign_y (t := t) (u := u) hta htp ha) (by omega) (Nat.le_of_ble_eq_true rfl) (fun r1 h1 hq => ?_)
  obtain ⟨rfl, rfl⟩ := (show r1 = nI (mg_tp t (mg_at t)) ∧ h1 = hA t u from hq)
  refine z_top (y := nI (119)) (congrArg nI hc) ?_
  refine r_istore_n eX4_readsStatement_4 rfl (by decide) ?_
  refine n_iconst 0 eX4_readsStatement_5 rfl ?_
  refine r_istore_n eX4_readsStatement_6 rfl (by decide) ?_
  refine r_aload_n eX4_readsStatement_7 rfl rfl ?_
  refine r_dup eX4_readsStatement_8 rfl ?_
  refine r_getf (v := .int (nI (mg_at t))) eX4_readsStatement_9 fX4_56 rfl rfl ?_
  refine n_iconst 1 eX4_readsStatement_12 rfl ?_
  refine n_add eX4_readsStatement_13 ?_
  refine z_h (h' := hA (mg_re t, mg_s t, mg_im t, mg_rd t, mg_ii t, mg_tp t, mg_tl t, mg_ta t, mg_at t, mg_ou t, mg_op t, mg_br t, mg_nw t, mg_fs t, mg_bc t, mg_kr t, mg_rw t, mg_rc t) u) rfl ?_
  refine mp_at (v := (mg_at t) + 1) eX4_readsStatement_14 fX4_56 rfl ?_
  refine r_iload_n eX4_readsStatement_17 rfl rfl ?_
  refine r_tabIn (off := 172) (tgt := 190) eX4_readsStatement_18 (by decide) (by decide) (by decide) (by decide) ?_
  refine r_aload_n eX4_readsStatement_190 rfl rfl ?_
  refine n_iconst 0 eX4_readsStatement_191 rfl ?_
  refine n_iconst 1 eX4_readsStatement_192 rfl ?_
  refine r_callVi2 eX4_readsStatement_193 lX4_70 (Or.inl ⟨_, _, _, rfl, rfl, rfl⟩) (s4_readsNumber (t := (mg_re t, mg_s t, mg_im t, mg_rd t, mg_ii t, mg_tp t, mg_tl t, mg_ta t, (mg_at t) + 1, mg_ou t, mg_op t, mg_br t, mg_nw t, mg_fs t, mg_bc t, mg_kr t, mg_rw t, mg_rc t)) (u := u) hta htp g0.2 (kx := 0) (most := 1) (by decide) (by decide) (by decide)) (by omega) (Nat.le_of_ble_eq_true rfl) (fun r1 h1 hq => ?_)
  obtain ⟨rfl, rfl⟩ := (show r1 = nI (nB (mg_tp t) (mg_ta t) ((mg_at t) + 1)) ∧ h1 = hA (mg_re t, mg_s t, mg_im t, mg_rd t, mg_ii t, mg_tp t, (upd (mg_tl t) 0 (nI (nV (mg_tp t) (mg_ta t) 1 ((mg_at t) + 1)))), mg_ta t, (nE (mg_tp t) (mg_ta t) 1 ((mg_at t) + 1)), mg_ou t, mg_op t, mg_br t, mg_nw t, mg_fs t, mg_bc t, mg_kr t, mg_rw t, mg_rc t) u from hq)
  have g193 := nE_ok (f := (mg_tp t)) (k := 1) g0.2
  refine r_istore_n eX4_readsStatement_196 rfl (by decide) ?_
  refine r_goto eX4_readsStatement_197 ?_
  refine r_iload_n eX4_readsStatement_217 rfl rfl ?_
  refine n_if_eq eX4_readsStatement_218 (by first | omega | (unfold nB; split <;> omega) | (unfold pB; split <;> omega) | (unfold kB; cases Option.isSome (kO (mg_tp t) (mg_ta t) (mg_at t + 1)) <;> decide)) (fun hc218 => ?_) (fun hc218 => ?_)
  · refine n_iconst 0 eX4_readsStatement_234 rfl ?_
    have hp : (pSt (mg_tp t) (mg_ta t) (mg_at t)) = ((nE (mg_tp t) (mg_ta t) 1 ((mg_at t) + 1)), none) := by
      unfold pSt
      rw [if_pos ha, if_neg (by omega), if_neg (by omega), if_pos (Or.inl hc)]
      exact pN_n hc218
    exact z_iret eX4_readsStatement_235 rfl rfl ⟨_, rfl, (upd (mg_tl t) 0 (nI (nV (mg_tp t) (mg_ta t) 1 ((mg_at t) + 1)))), by rw [hp]; first | done | rfl, by rw [hp], (fun x hx => by rw [hp] at hx; cases hx)⟩
  · refine r_aload_n eX4_readsStatement_221 rfl rfl ?_
    refine n_bipush 59 eX4_readsStatement_222 rfl ?_
    refine r_callVi1 eX4_readsStatement_224 lX4_73 (Or.inl ⟨_, _, _, rfl, rfl, rfl⟩) (s4_takes (t := (mg_re t, mg_s t, mg_im t, mg_rd t, mg_ii t, mg_tp t, (upd (mg_tl t) 0 (nI (nV (mg_tp t) (mg_ta t) 1 ((mg_at t) + 1)))), mg_ta t, (nE (mg_tp t) (mg_ta t) 1 ((mg_at t) + 1)), mg_ou t, mg_op t, mg_br t, mg_nw t, mg_fs t, mg_bc t, mg_kr t, mg_rw t, mg_rc t)) (u := u) hta htp g193.2 (c := 59) (by decide)) (by omega) (Nat.le_of_ble_eq_true rfl) (fun r1 h1 hq => ?_)
    obtain ⟨rfl, rfl⟩ := (show r1 = nI (pB (mg_tp t) (mg_ta t) 59 (nE (mg_tp t) (mg_ta t) 1 ((mg_at t) + 1))) ∧ h1 = hA (mg_re t, mg_s t, mg_im t, mg_rd t, mg_ii t, mg_tp t, (upd (mg_tl t) 0 (nI (nV (mg_tp t) (mg_ta t) 1 ((mg_at t) + 1)))), mg_ta t, (pE (mg_tp t) (mg_ta t) 59 (nE (mg_tp t) (mg_ta t) 1 ((mg_at t) + 1))), mg_ou t, mg_op t, mg_br t, mg_nw t, mg_fs t, mg_bc t, mg_kr t, mg_rw t, mg_rc t) u from hq)
    have g224 := pE_ok (f := (mg_tp t)) (c := 59) g193.2
    refine n_if_eq eX4_readsStatement_227 (by first | omega | (unfold nB; split <;> omega) | (unfold pB; split <;> omega) | (unfold kB; cases Option.isSome (kO (mg_tp t) (mg_ta t) (mg_at t + 1)) <;> decide)) (fun hc227 => ?_) (fun hc227 => ?_)
    · refine n_iconst 0 eX4_readsStatement_234 rfl ?_
      have hp : (pSt (mg_tp t) (mg_ta t) (mg_at t)) = ((pE (mg_tp t) (mg_ta t) 59 (nE (mg_tp t) (mg_ta t) 1 ((mg_at t) + 1))), none) := by
        unfold pSt
        rw [if_pos ha, if_neg (by omega), if_neg (by omega), if_pos (Or.inl hc)]
        refine (pN_y hc218).trans ?_
        exact pS_n hc227
      exact z_iret eX4_readsStatement_235 rfl rfl ⟨_, rfl, (upd (mg_tl t) 0 (nI (nV (mg_tp t) (mg_ta t) 1 ((mg_at t) + 1)))), by rw [hp]; first | done | rfl, by rw [hp], (fun x hx => by rw [hp] at hx; cases hx)⟩
    · refine n_iconst 1 eX4_readsStatement_230 rfl ?_
      refine r_goto eX4_readsStatement_231 ?_
      have hp : (pSt (mg_tp t) (mg_ta t) (mg_at t)) = ((pE (mg_tp t) (mg_ta t) 59 (nE (mg_tp t) (mg_ta t) 1 ((mg_at t) + 1))), some ((nV (mg_tp t) (mg_ta t) 1 ((mg_at t) + 1)), 0, 0, 0, 0)) := by
        unfold pSt
        rw [if_pos ha, if_neg (by omega), if_neg (by omega), if_pos (Or.inl hc)]
        refine (pN_y hc218).trans ?_
        exact pS_y hc227
      exact z_iret eX4_readsStatement_235 rfl rfl ⟨_, rfl, (upd (mg_tl t) 0 (nI (nV (mg_tp t) (mg_ta t) 1 ((mg_at t) + 1)))), by rw [hp]; first | done | rfl, by rw [hp], (fun x hx => by rw [hp] at hx; cases hx; exact ⟨fun z => absurd (hc.symm.trans z) (by decide), fun z => absurd (hc.symm.trans z) (by decide), fun _ => rfl⟩)⟩
set_option maxHeartbeats 1000000 in
set_option maxRecDepth 100000 in
theorem s4_rst_115 {t : zMod} {u : zCls} (hta : mg_ta t ≤ 80) (htp : ∀ i, mg_tp t i ≤ 255) (ha : mg_at t < mg_ta t) (hc : mg_tp t (mg_at t) = 115) : Mi mX4_readsStatement 6 [.ref 0] (hA t u) (fun r h' => ∃ L : Nat → Int32, r = nI ((pSt (mg_tp t) (mg_ta t) (mg_at t)).2.isSome.toNat) ∧ h' = hA (mg_re t, mg_s t, mg_im t, mg_rd t, mg_ii t, mg_tp t, L, mg_ta t, ((pSt (mg_tp t) (mg_ta t) (mg_at t)).1), mg_ou t, mg_op t, mg_br t, mg_nw t, mg_fs t, mg_bc t, mg_kr t, mg_rw t, mg_rc t) u ∧ ∀ x, (pSt (mg_tp t) (mg_ta t) (mg_at t)).2 = some x → zTl (mg_tp t (mg_at t)) x L) := by
  have g0 : mg_at t ≤ mg_at t + 1 ∧ mg_at t + 1 ≤ mg_ta t := ⟨by omega, ha⟩
  refine Mi.of (by decide) rfl (Nat.le_of_ble_eq_true rfl) ?_
  refine r_aload_n eX4_readsStatement_0 rfl rfl ?_
  refine r_callVi0 eX4_readsStatement_1 lX4_59 (Or.inl ⟨_, _, _, rfl, rfl, rfl⟩) (s4_sign_y (t := t) (u := u) hta htp ha) (by omega) (Nat.le_of_ble_eq_true rfl) (fun r1 h1 hq => ?_)
  obtain ⟨rfl, rfl⟩ := (show r1 = nI (mg_tp t (mg_at t)) ∧ h1 = hA t u from hq)
  refine z_top (y := nI (115)) (congrArg nI hc) ?_
  refine r_istore_n eX4_readsStatement_4 rfl (by decide) ?_
  refine n_iconst 0 eX4_readsStatement_5 rfl ?_
  refine r_istore_n eX4_readsStatement_6 rfl (by decide) ?_
  refine r_aload_n eX4_readsStatement_7 rfl rfl ?_
  refine r_dup eX4_readsStatement_8 rfl ?_
  refine r_getf (v := .int (nI (mg_at t))) eX4_readsStatement_9 fX4_56 rfl rfl ?_
  refine n_iconst 1 eX4_readsStatement_12 rfl ?_
  refine n_add eX4_readsStatement_13 ?_
  refine z_h (h' := hA (mg_re t, mg_s t, mg_im t, mg_rd t, mg_ii t, mg_tp t, mg_tl t, mg_ta t, mg_at t, mg_ou t, mg_op t, mg_br t, mg_nw t, mg_fs t, mg_bc t, mg_kr t, mg_rw t, mg_rc t) u) rfl ?_
  refine mp_at (v := (mg_at t) + 1) eX4_readsStatement_14 fX4_56 rfl ?_
  refine r_iload_n eX4_readsStatement_17 rfl rfl ?_
  refine r_tabIn (off := 172) (tgt := 190) eX4_readsStatement_18 (by decide) (by decide) (by decide) (by decide) ?_
  refine r_aload_n eX4_readsStatement_190 rfl rfl ?_
  refine n_iconst 0 eX4_readsStatement_191 rfl ?_
  refine n_iconst 1 eX4_readsStatement_192 rfl ?_
  refine r_callVi2 eX4_readsStatement_193 lX4_70 (Or.inl ⟨_, _, _, rfl, rfl, rfl⟩) (s4_readsNumber (t := (mg_re t, mg_s t, mg_im t, mg_rd t, mg_ii t, mg_tp t, mg_tl t, mg_ta t, (mg_at t) + 1, mg_ou t, mg_op t, mg_br t, mg_nw t, mg_fs t, mg_bc t, mg_kr t, mg_rw t, mg_rc t)) (u := u) hta htp g0.2 (kx := 0) (most := 1) (by decide) (by decide) (by decide)) (by omega) (Nat.le_of_ble_eq_true rfl) (fun r1 h1 hq => ?_)
  obtain ⟨rfl, rfl⟩ := (show r1 = nI (nB (mg_tp t) (mg_ta t) ((mg_at t) + 1)) ∧ h1 = hA (mg_re t, mg_s t, mg_im t, mg_rd t, mg_ii t, mg_tp t, (upd (mg_tl t) 0 (nI (nV (mg_tp t) (mg_ta t) 1 ((mg_at t) + 1)))), mg_ta t, (nE (mg_tp t) (mg_ta t) 1 ((mg_at t) + 1)), mg_ou t, mg_op t, mg_br t, mg_nw t, mg_fs t, mg_bc t, mg_kr t, mg_rw t, mg_rc t) u from hq)
  have g193 := nE_ok (f := (mg_tp t)) (k := 1) g0.2
  refine r_istore_n eX4_readsStatement_196 rfl (by decide) ?_
  refine r_goto eX4_readsStatement_197 ?_
  refine r_iload_n eX4_readsStatement_217 rfl rfl ?_
  refine n_if_eq eX4_readsStatement_218 (by first | omega | (unfold nB; split <;> omega) | (unfold pB; split <;> omega) | (unfold kB; cases Option.isSome (kO (mg_tp t) (mg_ta t) (mg_at t + 1)) <;> decide)) (fun hc218 => ?_) (fun hc218 => ?_)
  · refine n_iconst 0 eX4_readsStatement_234 rfl ?_
    have hp : (pSt (mg_tp t) (mg_ta t) (mg_at t)) = ((nE (mg_tp t) (mg_ta t) 1 ((mg_at t) + 1)), none) := by
      unfold pSt
      rw [if_pos ha, if_neg (by omega), if_neg (by omega), if_pos (Or.inr hc)]
      exact pN_n hc218
    exact z_iret eX4_readsStatement_235 rfl rfl ⟨_, rfl, (upd (mg_tl t) 0 (nI (nV (mg_tp t) (mg_ta t) 1 ((mg_at t) + 1)))), by rw [hp]; first | done | rfl, by rw [hp], (fun x hx => by rw [hp] at hx; cases hx)⟩
  · refine r_aload_n eX4_readsStatement_221 rfl rfl ?_
    refine n_bipush 59 eX4_readsStatement_222 rfl ?_
    refine r_callVi1 eX4_readsStatement_224 lX4_73 (Or.inl ⟨_, _, _, rfl, rfl, rfl⟩) (s4_takes (t := (mg_re t, mg_s t, mg_im t, mg_rd t, mg_ii t, mg_tp t, (upd (mg_tl t) 0 (nI (nV (mg_tp t) (mg_ta t) 1 ((mg_at t) + 1)))), mg_ta t, (nE (mg_tp t) (mg_ta t) 1 ((mg_at t) + 1)), mg_ou t, mg_op t, mg_br t, mg_nw t, mg_fs t, mg_bc t, mg_kr t, mg_rw t, mg_rc t)) (u := u) hta htp g193.2 (c := 59) (by decide)) (by omega) (Nat.le_of_ble_eq_true rfl) (fun r1 h1 hq => ?_)
    obtain ⟨rfl, rfl⟩ := (show r1 = nI (pB (mg_tp t) (mg_ta t) 59 (nE (mg_tp t) (mg_ta t) 1 ((mg_at t) + 1))) ∧ h1 = hA (mg_re t, mg_s t, mg_im t, mg_rd t, mg_ii t, mg_tp t, (upd (mg_tl t) 0 (nI (nV (mg_tp t) (mg_ta t) 1 ((mg_at t) + 1)))), mg_ta t, (pE (mg_tp t) (mg_ta t) 59 (nE (mg_tp t) (mg_ta t) 1 ((mg_at t) + 1))), mg_ou t, mg_op t, mg_br t, mg_nw t, mg_fs t, mg_bc t, mg_kr t, mg_rw t, mg_rc t) u from hq)
    have g224 := pE_ok (f := (mg_tp t)) (c := 59) g193.2
    refine n_if_eq eX4_readsStatement_227 (by first | omega | (unfold nB; split <;> omega) | (unfold pB; split <;> omega) | (unfold kB; cases Option.isSome (kO (mg_tp t) (mg_ta t) (mg_at t + 1)) <;> decide)) (fun hc227 => ?_) (fun hc227 => ?_)
    · refine n_iconst 0 eX4_readsStatement_234 rfl ?_
      have hp : (pSt (mg_tp t) (mg_ta t) (mg_at t)) = ((pE (mg_tp t) (mg_ta t) 59 (nE (mg_tp t) (mg_ta t) 1 ((mg_at t) + 1))), none) := by
        unfold pSt
        rw [if_pos ha, if_neg (by omega), if_neg (by omega), if_pos (Or.inr hc)]
        refine (pN_y hc218).trans ?_
        exact pS_n hc227
      exact z_iret eX4_readsStatement_235 rfl rfl ⟨_, rfl, (upd (mg_tl t) 0 (nI (nV (mg_tp t) (mg_ta t) 1 ((mg_at t) + 1)))), by rw [hp]; first | done | rfl, by rw [hp], (fun x hx => by rw [hp] at hx; cases hx)⟩
    · refine n_iconst 1 eX4_readsStatement_230 rfl ?_
      refine r_goto eX4_readsStatement_231 ?_
      have hp : (pSt (mg_tp t) (mg_ta t) (mg_at t)) = ((pE (mg_tp t) (mg_ta t) 59 (nE (mg_tp t) (mg_ta t) 1 ((mg_at t) + 1))), some ((nV (mg_tp t) (mg_ta t) 1 ((mg_at t) + 1)), 0, 0, 0, 0)) := by
        unfold pSt
        rw [if_pos ha, if_neg (by omega), if_neg (by omega), if_pos (Or.inr hc)]
        refine (pN_y hc218).trans ?_
        exact pS_y hc227
      exact z_iret eX4_readsStatement_235 rfl rfl ⟨_, rfl, (upd (mg_tl t) 0 (nI (nV (mg_tp t) (mg_ta t) 1 ((mg_at t) + 1)))), by rw [hp]; first | done | rfl, by rw [hp], (fun x hx => by rw [hp] at hx; cases hx; exact ⟨fun z => absurd (hc.symm.trans z) (by decide), fun z => absurd (hc.symm.trans z) (by decide), fun _ => rfl⟩)⟩
set_option maxHeartbeats 1000000 in
set_option maxRecDepth 100000 in
theorem s4_rst_114 {t : zMod} {u : zCls} (hta : mg_ta t ≤ 80) (htp : ∀ i, mg_tp t i ≤ 255) (ha : mg_at t < mg_ta t) (hc : mg_tp t (mg_at t) = 114) : Mi mX4_readsStatement 6 [.ref 0] (hA t u) (fun r h' => ∃ L : Nat → Int32, r = nI ((pSt (mg_tp t) (mg_ta t) (mg_at t)).2.isSome.toNat) ∧ h' = hA (mg_re t, mg_s t, mg_im t, mg_rd t, mg_ii t, mg_tp t, L, mg_ta t, ((pSt (mg_tp t) (mg_ta t) (mg_at t)).1), mg_ou t, mg_op t, mg_br t, mg_nw t, mg_fs t, mg_bc t, mg_kr t, mg_rw t, mg_rc t) u ∧ ∀ x, (pSt (mg_tp t) (mg_ta t) (mg_at t)).2 = some x → zTl (mg_tp t (mg_at t)) x L) := by
  have g0 : mg_at t ≤ mg_at t + 1 ∧ mg_at t + 1 ≤ mg_ta t := ⟨by omega, ha⟩
  refine Mi.of (by decide) rfl (Nat.le_of_ble_eq_true rfl) ?_
  refine r_aload_n eX4_readsStatement_0 rfl rfl ?_
  refine r_callVi0 eX4_readsStatement_1 lX4_59 (Or.inl ⟨_, _, _, rfl, rfl, rfl⟩) (s4_sign_y (t := t) (u := u) hta htp ha) (by omega) (Nat.le_of_ble_eq_true rfl) (fun r1 h1 hq => ?_)
  obtain ⟨rfl, rfl⟩ := (show r1 = nI (mg_tp t (mg_at t)) ∧ h1 = hA t u from hq)
  refine z_top (y := nI (114)) (congrArg nI hc) ?_
  refine r_istore_n eX4_readsStatement_4 rfl (by decide) ?_
  refine n_iconst 0 eX4_readsStatement_5 rfl ?_
  refine r_istore_n eX4_readsStatement_6 rfl (by decide) ?_
  refine r_aload_n eX4_readsStatement_7 rfl rfl ?_
  refine r_dup eX4_readsStatement_8 rfl ?_
  refine r_getf (v := .int (nI (mg_at t))) eX4_readsStatement_9 fX4_56 rfl rfl ?_
  refine n_iconst 1 eX4_readsStatement_12 rfl ?_
  refine n_add eX4_readsStatement_13 ?_
  refine z_h (h' := hA (mg_re t, mg_s t, mg_im t, mg_rd t, mg_ii t, mg_tp t, mg_tl t, mg_ta t, mg_at t, mg_ou t, mg_op t, mg_br t, mg_nw t, mg_fs t, mg_bc t, mg_kr t, mg_rw t, mg_rc t) u) rfl ?_
  refine mp_at (v := (mg_at t) + 1) eX4_readsStatement_14 fX4_56 rfl ?_
  refine r_iload_n eX4_readsStatement_17 rfl rfl ?_
  refine r_tabIn (off := 182) (tgt := 200) eX4_readsStatement_18 (by decide) (by decide) (by decide) (by decide) ?_
  refine n_iconst 1 eX4_readsStatement_200 rfl ?_
  refine r_istore_n eX4_readsStatement_201 rfl (by decide) ?_
  refine r_goto eX4_readsStatement_202 ?_
  refine r_iload_n eX4_readsStatement_217 rfl rfl ?_
  refine n_if_eq eX4_readsStatement_218 (by first | omega | (unfold nB; split <;> omega) | (unfold pB; split <;> omega) | (unfold kB; cases Option.isSome (kO (mg_tp t) (mg_ta t) (mg_at t + 1)) <;> decide)) (fun hc218 => absurd hc218 (by decide)) (fun hc218 => ?_)
  refine r_aload_n eX4_readsStatement_221 rfl rfl ?_
  refine n_bipush 59 eX4_readsStatement_222 rfl ?_
  refine r_callVi1 eX4_readsStatement_224 lX4_73 (Or.inl ⟨_, _, _, rfl, rfl, rfl⟩) (s4_takes (t := (mg_re t, mg_s t, mg_im t, mg_rd t, mg_ii t, mg_tp t, mg_tl t, mg_ta t, (mg_at t) + 1, mg_ou t, mg_op t, mg_br t, mg_nw t, mg_fs t, mg_bc t, mg_kr t, mg_rw t, mg_rc t)) (u := u) hta htp g0.2 (c := 59) (by decide)) (by omega) (Nat.le_of_ble_eq_true rfl) (fun r1 h1 hq => ?_)
  obtain ⟨rfl, rfl⟩ := (show r1 = nI (pB (mg_tp t) (mg_ta t) 59 ((mg_at t) + 1)) ∧ h1 = hA (mg_re t, mg_s t, mg_im t, mg_rd t, mg_ii t, mg_tp t, mg_tl t, mg_ta t, (pE (mg_tp t) (mg_ta t) 59 ((mg_at t) + 1)), mg_ou t, mg_op t, mg_br t, mg_nw t, mg_fs t, mg_bc t, mg_kr t, mg_rw t, mg_rc t) u from hq)
  have g224 := pE_ok (f := (mg_tp t)) (c := 59) g0.2
  refine n_if_eq eX4_readsStatement_227 (by first | omega | (unfold nB; split <;> omega) | (unfold pB; split <;> omega) | (unfold kB; cases Option.isSome (kO (mg_tp t) (mg_ta t) (mg_at t + 1)) <;> decide)) (fun hc227 => ?_) (fun hc227 => ?_)
  · refine n_iconst 0 eX4_readsStatement_234 rfl ?_
    have hp : (pSt (mg_tp t) (mg_ta t) (mg_at t)) = ((pE (mg_tp t) (mg_ta t) 59 ((mg_at t) + 1)), none) := by
      unfold pSt
      rw [if_pos ha, if_neg (by omega), if_neg (by omega), if_neg (by omega), if_pos (Or.inl hc)]
      exact pS_n hc227
    exact z_iret eX4_readsStatement_235 rfl rfl ⟨_, rfl, mg_tl t, by rw [hp]; first | done | rfl, by rw [hp], (fun x hx => by rw [hp] at hx; cases hx)⟩
  · refine n_iconst 1 eX4_readsStatement_230 rfl ?_
    refine r_goto eX4_readsStatement_231 ?_
    have hp : (pSt (mg_tp t) (mg_ta t) (mg_at t)) = ((pE (mg_tp t) (mg_ta t) 59 ((mg_at t) + 1)), some (0, 0, 0, 0, 0)) := by
      unfold pSt
      rw [if_pos ha, if_neg (by omega), if_neg (by omega), if_neg (by omega), if_pos (Or.inl hc)]
      exact pS_y hc227
    exact z_iret eX4_readsStatement_235 rfl rfl ⟨_, rfl, mg_tl t, by rw [hp]; first | done | rfl, by rw [hp], (fun x hx => by rw [hp] at hx; cases hx; exact ⟨fun z => absurd (hc.symm.trans z) (by decide), fun z => absurd (hc.symm.trans z) (by decide), fun z => by omega⟩)⟩
set_option maxHeartbeats 1000000 in
set_option maxRecDepth 100000 in
theorem s4_rst_111 {t : zMod} {u : zCls} (hta : mg_ta t ≤ 80) (htp : ∀ i, mg_tp t i ≤ 255) (ha : mg_at t < mg_ta t) (hc : mg_tp t (mg_at t) = 111) : Mi mX4_readsStatement 6 [.ref 0] (hA t u) (fun r h' => ∃ L : Nat → Int32, r = nI ((pSt (mg_tp t) (mg_ta t) (mg_at t)).2.isSome.toNat) ∧ h' = hA (mg_re t, mg_s t, mg_im t, mg_rd t, mg_ii t, mg_tp t, L, mg_ta t, ((pSt (mg_tp t) (mg_ta t) (mg_at t)).1), mg_ou t, mg_op t, mg_br t, mg_nw t, mg_fs t, mg_bc t, mg_kr t, mg_rw t, mg_rc t) u ∧ ∀ x, (pSt (mg_tp t) (mg_ta t) (mg_at t)).2 = some x → zTl (mg_tp t (mg_at t)) x L) := by
  have g0 : mg_at t ≤ mg_at t + 1 ∧ mg_at t + 1 ≤ mg_ta t := ⟨by omega, ha⟩
  refine Mi.of (by decide) rfl (Nat.le_of_ble_eq_true rfl) ?_
  refine r_aload_n eX4_readsStatement_0 rfl rfl ?_
  refine r_callVi0 eX4_readsStatement_1 lX4_59 (Or.inl ⟨_, _, _, rfl, rfl, rfl⟩) (s4_sign_y (t := t) (u := u) hta htp ha) (by omega) (Nat.le_of_ble_eq_true rfl) (fun r1 h1 hq => ?_)
  obtain ⟨rfl, rfl⟩ := (show r1 = nI (mg_tp t (mg_at t)) ∧ h1 = hA t u from hq)
  refine z_top (y := nI (111)) (congrArg nI hc) ?_
  refine r_istore_n eX4_readsStatement_4 rfl (by decide) ?_
  refine n_iconst 0 eX4_readsStatement_5 rfl ?_
  refine r_istore_n eX4_readsStatement_6 rfl (by decide) ?_
  refine r_aload_n eX4_readsStatement_7 rfl rfl ?_
  refine r_dup eX4_readsStatement_8 rfl ?_
  refine r_getf (v := .int (nI (mg_at t))) eX4_readsStatement_9 fX4_56 rfl rfl ?_
  refine n_iconst 1 eX4_readsStatement_12 rfl ?_
  refine n_add eX4_readsStatement_13 ?_
  refine z_h (h' := hA (mg_re t, mg_s t, mg_im t, mg_rd t, mg_ii t, mg_tp t, mg_tl t, mg_ta t, mg_at t, mg_ou t, mg_op t, mg_br t, mg_nw t, mg_fs t, mg_bc t, mg_kr t, mg_rw t, mg_rc t) u) rfl ?_
  refine mp_at (v := (mg_at t) + 1) eX4_readsStatement_14 fX4_56 rfl ?_
  refine r_iload_n eX4_readsStatement_17 rfl rfl ?_
  refine r_tabIn (off := 182) (tgt := 200) eX4_readsStatement_18 (by decide) (by decide) (by decide) (by decide) ?_
  refine n_iconst 1 eX4_readsStatement_200 rfl ?_
  refine r_istore_n eX4_readsStatement_201 rfl (by decide) ?_
  refine r_goto eX4_readsStatement_202 ?_
  refine r_iload_n eX4_readsStatement_217 rfl rfl ?_
  refine n_if_eq eX4_readsStatement_218 (by first | omega | (unfold nB; split <;> omega) | (unfold pB; split <;> omega) | (unfold kB; cases Option.isSome (kO (mg_tp t) (mg_ta t) (mg_at t + 1)) <;> decide)) (fun hc218 => absurd hc218 (by decide)) (fun hc218 => ?_)
  refine r_aload_n eX4_readsStatement_221 rfl rfl ?_
  refine n_bipush 59 eX4_readsStatement_222 rfl ?_
  refine r_callVi1 eX4_readsStatement_224 lX4_73 (Or.inl ⟨_, _, _, rfl, rfl, rfl⟩) (s4_takes (t := (mg_re t, mg_s t, mg_im t, mg_rd t, mg_ii t, mg_tp t, mg_tl t, mg_ta t, (mg_at t) + 1, mg_ou t, mg_op t, mg_br t, mg_nw t, mg_fs t, mg_bc t, mg_kr t, mg_rw t, mg_rc t)) (u := u) hta htp g0.2 (c := 59) (by decide)) (by omega) (Nat.le_of_ble_eq_true rfl) (fun r1 h1 hq => ?_)
  obtain ⟨rfl, rfl⟩ := (show r1 = nI (pB (mg_tp t) (mg_ta t) 59 ((mg_at t) + 1)) ∧ h1 = hA (mg_re t, mg_s t, mg_im t, mg_rd t, mg_ii t, mg_tp t, mg_tl t, mg_ta t, (pE (mg_tp t) (mg_ta t) 59 ((mg_at t) + 1)), mg_ou t, mg_op t, mg_br t, mg_nw t, mg_fs t, mg_bc t, mg_kr t, mg_rw t, mg_rc t) u from hq)
  have g224 := pE_ok (f := (mg_tp t)) (c := 59) g0.2
  refine n_if_eq eX4_readsStatement_227 (by first | omega | (unfold nB; split <;> omega) | (unfold pB; split <;> omega) | (unfold kB; cases Option.isSome (kO (mg_tp t) (mg_ta t) (mg_at t + 1)) <;> decide)) (fun hc227 => ?_) (fun hc227 => ?_)
  · refine n_iconst 0 eX4_readsStatement_234 rfl ?_
    have hp : (pSt (mg_tp t) (mg_ta t) (mg_at t)) = ((pE (mg_tp t) (mg_ta t) 59 ((mg_at t) + 1)), none) := by
      unfold pSt
      rw [if_pos ha, if_neg (by omega), if_neg (by omega), if_neg (by omega), if_pos (Or.inr hc)]
      exact pS_n hc227
    exact z_iret eX4_readsStatement_235 rfl rfl ⟨_, rfl, mg_tl t, by rw [hp]; first | done | rfl, by rw [hp], (fun x hx => by rw [hp] at hx; cases hx)⟩
  · refine n_iconst 1 eX4_readsStatement_230 rfl ?_
    refine r_goto eX4_readsStatement_231 ?_
    have hp : (pSt (mg_tp t) (mg_ta t) (mg_at t)) = ((pE (mg_tp t) (mg_ta t) 59 ((mg_at t) + 1)), some (0, 0, 0, 0, 0)) := by
      unfold pSt
      rw [if_pos ha, if_neg (by omega), if_neg (by omega), if_neg (by omega), if_pos (Or.inr hc)]
      exact pS_y hc227
    exact z_iret eX4_readsStatement_235 rfl rfl ⟨_, rfl, mg_tl t, by rw [hp]; first | done | rfl, by rw [hp], (fun x hx => by rw [hp] at hx; cases hx; exact ⟨fun z => absurd (hc.symm.trans z) (by decide), fun z => absurd (hc.symm.trans z) (by decide), fun z => by omega⟩)⟩
set_option maxHeartbeats 1000000 in
set_option maxRecDepth 100000 in
theorem s4_rst_e {t : zMod} {u : zCls} (hta : mg_ta t ≤ 80) (htp : ∀ i, mg_tp t i ≤ 255) (hat : mg_at t ≤ mg_ta t) (ha : ¬ mg_at t < mg_ta t) : Mi mX4_readsStatement 6 [.ref 0] (hA t u) (fun r h' => ∃ L : Nat → Int32, r = nI ((pSt (mg_tp t) (mg_ta t) (mg_at t)).2.isSome.toNat) ∧ h' = hA (mg_re t, mg_s t, mg_im t, mg_rd t, mg_ii t, mg_tp t, L, mg_ta t, ((pSt (mg_tp t) (mg_ta t) (mg_at t)).1), mg_ou t, mg_op t, mg_br t, mg_nw t, mg_fs t, mg_bc t, mg_kr t, mg_rw t, mg_rc t) u ∧ ∀ x, (pSt (mg_tp t) (mg_ta t) (mg_at t)).2 = some x → zTl (mg_tp t (mg_at t)) x L) := by
  refine Mi.of (by decide) rfl (Nat.le_of_ble_eq_true rfl) ?_
  refine r_aload_n eX4_readsStatement_0 rfl rfl ?_
  refine r_callVi0 eX4_readsStatement_1 lX4_59 (Or.inl ⟨_, _, _, rfl, rfl, rfl⟩) (s4_sign_n (t := t) (u := u) hta htp (by omega) ha) (by omega) (Nat.le_of_ble_eq_true rfl) (fun r1 h1 hq => ?_)
  obtain ⟨rfl, rfl⟩ := (show r1 = (-1) ∧ h1 = hA t u from hq)
  refine r_istore_n eX4_readsStatement_4 rfl (by decide) ?_
  refine n_iconst 0 eX4_readsStatement_5 rfl ?_
  refine r_istore_n eX4_readsStatement_6 rfl (by decide) ?_
  refine r_aload_n eX4_readsStatement_7 rfl rfl ?_
  refine r_dup eX4_readsStatement_8 rfl ?_
  refine r_getf (v := .int (nI (mg_at t))) eX4_readsStatement_9 fX4_56 rfl rfl ?_
  refine n_iconst 1 eX4_readsStatement_12 rfl ?_
  refine n_add eX4_readsStatement_13 ?_
  refine z_h (h' := hA (mg_re t, mg_s t, mg_im t, mg_rd t, mg_ii t, mg_tp t, mg_tl t, mg_ta t, mg_at t, mg_ou t, mg_op t, mg_br t, mg_nw t, mg_fs t, mg_bc t, mg_kr t, mg_rw t, mg_rc t) u) rfl ?_
  refine mp_at (v := (mg_at t) + 1) eX4_readsStatement_14 fX4_56 rfl ?_
  refine r_iload_n eX4_readsStatement_17 rfl rfl ?_
  refine r_tabOut (tgt := 205) eX4_readsStatement_18 (by decide) (by decide) ?_
  refine r_aload_n eX4_readsStatement_205 rfl rfl ?_
  refine r_dup eX4_readsStatement_206 rfl ?_
  refine r_getf (v := .int (nI ((mg_at t) + 1))) eX4_readsStatement_207 fX4_56 rfl rfl ?_
  refine n_iconst 1 eX4_readsStatement_210 rfl ?_
  refine n_sub eX4_readsStatement_211 (by omega) ?_
  refine mp_at (v := ((mg_at t) + 1) - 1) eX4_readsStatement_212 fX4_56 rfl ?_
  refine n_iconst 0 eX4_readsStatement_215 rfl ?_
  have hp : (pSt (mg_tp t) (mg_ta t) (mg_at t)) = (mg_at t, none) := if_neg ha
  exact z_iret eX4_readsStatement_216 rfl rfl ⟨_, rfl, mg_tl t, by rw [hp]; first | done | rfl, by rw [hp]; first | done | rfl, fun x hx => by rw [hp] at hx; cases hx⟩
set_option maxHeartbeats 1000000 in
set_option maxRecDepth 100000 in
theorem s4_rst_o {t : zMod} {u : zCls} (hta : mg_ta t ≤ 80) (htp : ∀ i, mg_tp t i ≤ 255) (ha : mg_at t < mg_ta t) (hn : ¬ mg_tp t (mg_at t) = 112 ∧ ¬ mg_tp t (mg_at t) = 107 ∧ ¬ mg_tp t (mg_at t) = 119 ∧ ¬ mg_tp t (mg_at t) = 115 ∧ ¬ mg_tp t (mg_at t) = 114 ∧ ¬ mg_tp t (mg_at t) = 111) (ho : mg_tp t (mg_at t) < 107 ∨ 119 < mg_tp t (mg_at t)) : Mi mX4_readsStatement 6 [.ref 0] (hA t u) (fun r h' => ∃ L : Nat → Int32, r = nI ((pSt (mg_tp t) (mg_ta t) (mg_at t)).2.isSome.toNat) ∧ h' = hA (mg_re t, mg_s t, mg_im t, mg_rd t, mg_ii t, mg_tp t, L, mg_ta t, ((pSt (mg_tp t) (mg_ta t) (mg_at t)).1), mg_ou t, mg_op t, mg_br t, mg_nw t, mg_fs t, mg_bc t, mg_kr t, mg_rw t, mg_rc t) u ∧ ∀ x, (pSt (mg_tp t) (mg_ta t) (mg_at t)).2 = some x → zTl (mg_tp t (mg_at t)) x L) := by
  have hb := htp (mg_at t)
  refine Mi.of (by decide) rfl (Nat.le_of_ble_eq_true rfl) ?_
  refine r_aload_n eX4_readsStatement_0 rfl rfl ?_
  refine r_callVi0 eX4_readsStatement_1 lX4_59 (Or.inl ⟨_, _, _, rfl, rfl, rfl⟩) (s4_sign_y (t := t) (u := u) hta htp ha) (by omega) (Nat.le_of_ble_eq_true rfl) (fun r1 h1 hq => ?_)
  obtain ⟨rfl, rfl⟩ := (show r1 = nI (mg_tp t (mg_at t)) ∧ h1 = hA t u from hq)
  refine r_istore_n eX4_readsStatement_4 rfl (by decide) ?_
  refine n_iconst 0 eX4_readsStatement_5 rfl ?_
  refine r_istore_n eX4_readsStatement_6 rfl (by decide) ?_
  refine r_aload_n eX4_readsStatement_7 rfl rfl ?_
  refine r_dup eX4_readsStatement_8 rfl ?_
  refine r_getf (v := .int (nI (mg_at t))) eX4_readsStatement_9 fX4_56 rfl rfl ?_
  refine n_iconst 1 eX4_readsStatement_12 rfl ?_
  refine n_add eX4_readsStatement_13 ?_
  refine z_h (h' := hA (mg_re t, mg_s t, mg_im t, mg_rd t, mg_ii t, mg_tp t, mg_tl t, mg_ta t, mg_at t, mg_ou t, mg_op t, mg_br t, mg_nw t, mg_fs t, mg_bc t, mg_kr t, mg_rw t, mg_rc t) u) rfl ?_
  refine mp_at (v := (mg_at t) + 1) eX4_readsStatement_14 fX4_56 rfl ?_
  refine r_iload_n eX4_readsStatement_17 rfl rfl ?_
  refine r_tabOut (tgt := 205) eX4_readsStatement_18 (by rw [nI_toInt (by omega)]; omega) (by decide) ?_
  refine r_aload_n eX4_readsStatement_205 rfl rfl ?_
  refine r_dup eX4_readsStatement_206 rfl ?_
  refine r_getf (v := .int (nI ((mg_at t) + 1))) eX4_readsStatement_207 fX4_56 rfl rfl ?_
  refine n_iconst 1 eX4_readsStatement_210 rfl ?_
  refine n_sub eX4_readsStatement_211 (by omega) ?_
  refine mp_at (v := ((mg_at t) + 1) - 1) eX4_readsStatement_212 fX4_56 rfl ?_
  refine n_iconst 0 eX4_readsStatement_215 rfl ?_
  have hp : (pSt (mg_tp t) (mg_ta t) (mg_at t)) = (mg_at t, none) := by unfold pSt; rw [if_pos ha, if_neg hn.1, if_neg hn.2.1, if_neg (by omega), if_neg (by omega)]
  exact z_iret eX4_readsStatement_216 rfl rfl ⟨_, rfl, mg_tl t, by rw [hp]; first | done | rfl, by rw [hp]; first | done | rfl, fun x hx => by rw [hp] at hx; cases hx⟩
set_option maxHeartbeats 1000000 in
set_option maxRecDepth 100000 in
theorem s4_rst_m {t : zMod} {u : zCls} (hta : mg_ta t ≤ 80) (htp : ∀ i, mg_tp t i ≤ 255) (ha : mg_at t < mg_ta t) (hn : ¬ mg_tp t (mg_at t) = 112 ∧ ¬ mg_tp t (mg_at t) = 107 ∧ ¬ mg_tp t (mg_at t) = 119 ∧ ¬ mg_tp t (mg_at t) = 115 ∧ ¬ mg_tp t (mg_at t) = 114 ∧ ¬ mg_tp t (mg_at t) = 111) (ho : 107 ≤ mg_tp t (mg_at t) ∧ mg_tp t (mg_at t) ≤ 119) : Mi mX4_readsStatement 6 [.ref 0] (hA t u) (fun r h' => ∃ L : Nat → Int32, r = nI ((pSt (mg_tp t) (mg_ta t) (mg_at t)).2.isSome.toNat) ∧ h' = hA (mg_re t, mg_s t, mg_im t, mg_rd t, mg_ii t, mg_tp t, L, mg_ta t, ((pSt (mg_tp t) (mg_ta t) (mg_at t)).1), mg_ou t, mg_op t, mg_br t, mg_nw t, mg_fs t, mg_bc t, mg_kr t, mg_rw t, mg_rc t) u ∧ ∀ x, (pSt (mg_tp t) (mg_ta t) (mg_at t)).2 = some x → zTl (mg_tp t (mg_at t)) x L) := by
  have hb := htp (mg_at t)
  have ho9 : (#[145, 187, 187, 187, 182, 66, 187, 182, 172, 187, 187, 187, 172] : Array Int)[mg_tp t (mg_at t) - 107]? = some 187 := by
    have : ∀ j, j < 13 → (j = 5 ∨ j = 0 ∨ j = 12 ∨ j = 8 ∨ j = 7 ∨ j = 4) ∨ (#[145, 187, 187, 187, 182, 66, 187, 182, 172, 187, 187, 187, 172] : Array Int)[j]? = some 187 := by decide
    exact (this (mg_tp t (mg_at t) - 107) (by omega)).resolve_left (by omega)
  refine Mi.of (by decide) rfl (Nat.le_of_ble_eq_true rfl) ?_
  refine r_aload_n eX4_readsStatement_0 rfl rfl ?_
  refine r_callVi0 eX4_readsStatement_1 lX4_59 (Or.inl ⟨_, _, _, rfl, rfl, rfl⟩) (s4_sign_y (t := t) (u := u) hta htp ha) (by omega) (Nat.le_of_ble_eq_true rfl) (fun r1 h1 hq => ?_)
  obtain ⟨rfl, rfl⟩ := (show r1 = nI (mg_tp t (mg_at t)) ∧ h1 = hA t u from hq)
  refine r_istore_n eX4_readsStatement_4 rfl (by decide) ?_
  refine n_iconst 0 eX4_readsStatement_5 rfl ?_
  refine r_istore_n eX4_readsStatement_6 rfl (by decide) ?_
  refine r_aload_n eX4_readsStatement_7 rfl rfl ?_
  refine r_dup eX4_readsStatement_8 rfl ?_
  refine r_getf (v := .int (nI (mg_at t))) eX4_readsStatement_9 fX4_56 rfl rfl ?_
  refine n_iconst 1 eX4_readsStatement_12 rfl ?_
  refine n_add eX4_readsStatement_13 ?_
  refine z_h (h' := hA (mg_re t, mg_s t, mg_im t, mg_rd t, mg_ii t, mg_tp t, mg_tl t, mg_ta t, mg_at t, mg_ou t, mg_op t, mg_br t, mg_nw t, mg_fs t, mg_bc t, mg_kr t, mg_rw t, mg_rc t) u) rfl ?_
  refine mp_at (v := (mg_at t) + 1) eX4_readsStatement_14 fX4_56 rfl ?_
  refine r_iload_n eX4_readsStatement_17 rfl rfl ?_
  refine r_tabIn (off := 187) (tgt := 205) eX4_readsStatement_18 (by rw [nI_toInt (by omega)]; omega) (by rw [nI_toInt (by omega)]; omega) (by rw [nI_toInt (by omega), show ((mg_tp t (mg_at t) : Int) - 107).toNat = mg_tp t (mg_at t) - 107 by omega]; exact ho9) (by decide) ?_
  refine r_aload_n eX4_readsStatement_205 rfl rfl ?_
  refine r_dup eX4_readsStatement_206 rfl ?_
  refine r_getf (v := .int (nI ((mg_at t) + 1))) eX4_readsStatement_207 fX4_56 rfl rfl ?_
  refine n_iconst 1 eX4_readsStatement_210 rfl ?_
  refine n_sub eX4_readsStatement_211 (by omega) ?_
  refine mp_at (v := ((mg_at t) + 1) - 1) eX4_readsStatement_212 fX4_56 rfl ?_
  refine n_iconst 0 eX4_readsStatement_215 rfl ?_
  have hp : (pSt (mg_tp t) (mg_ta t) (mg_at t)) = (mg_at t, none) := by unfold pSt; rw [if_pos ha, if_neg hn.1, if_neg hn.2.1, if_neg (by omega), if_neg (by omega)]
  exact z_iret eX4_readsStatement_216 rfl rfl ⟨_, rfl, mg_tl t, by rw [hp]; first | done | rfl, by rw [hp]; first | done | rfl, fun x hx => by rw [hp] at hx; cases hx⟩
theorem s4_readsStatement {t : zMod} {u : zCls} (hta : mg_ta t ≤ 80) (htp : ∀ i, mg_tp t i ≤ 255) (hat : mg_at t ≤ mg_ta t) : Mi mX4_readsStatement 6 [.ref 0] (hA t u) (fun r h' => ∃ L : Nat → Int32, r = nI ((pSt (mg_tp t) (mg_ta t) (mg_at t)).2.isSome.toNat) ∧ h' = hA (mg_re t, mg_s t, mg_im t, mg_rd t, mg_ii t, mg_tp t, L, mg_ta t, ((pSt (mg_tp t) (mg_ta t) (mg_at t)).1), mg_ou t, mg_op t, mg_br t, mg_nw t, mg_fs t, mg_bc t, mg_kr t, mg_rw t, mg_rc t) u ∧ ∀ x, (pSt (mg_tp t) (mg_ta t) (mg_at t)).2 = some x → zTl (mg_tp t (mg_at t)) x L) := by
  by_cases ha : mg_at t < mg_ta t
  · by_cases h1 : mg_tp t (mg_at t) = 112
    · exact s4_rst_112 hta htp ha h1
    · by_cases h2 : mg_tp t (mg_at t) = 107
      · exact s4_rst_107 hta htp ha h2
      · by_cases h3 : mg_tp t (mg_at t) = 119
        · exact s4_rst_119 hta htp ha h3
        · by_cases h4 : mg_tp t (mg_at t) = 115
          · exact s4_rst_115 hta htp ha h4
          · by_cases h5 : mg_tp t (mg_at t) = 114
            · exact s4_rst_114 hta htp ha h5
            · by_cases h6 : mg_tp t (mg_at t) = 111
              · exact s4_rst_111 hta htp ha h6
              · by_cases ho : mg_tp t (mg_at t) < 107 ∨ 119 < mg_tp t (mg_at t)
                · exact s4_rst_o hta htp ha ⟨h1, h2, h3, h4, h5, h6⟩ ho
                · exact s4_rst_m hta htp ha ⟨h1, h2, h3, h4, h5, h6⟩ (by omega)
  · exact s4_rst_e hta htp hat ha
set_option maxHeartbeats 1000000 in
set_option maxRecDepth 100000 in
theorem s4_comes_112 {t : zMod} {u : zCls} (hrd : sRd (mg_rd t)) {x : zN5} (hx : x.1 ≤ 9 ∧ x.2.1 ≤ 99 ∧ x.2.2.1 ≤ 9 ∧ x.2.2.2.1 ≤ 999 ∧ x.2.2.2.2 ≤ 9) (hL : mg_tl t 0 = nI x.1 ∧ mg_tl t 1 = nI x.2.1 ∧ mg_tl t 2 = nI x.2.2.1 ∧ mg_tl t 3 = nI x.2.2.2.1 ∧ mg_tl t 4 = nI x.2.2.2.2) : Mi mX4_comes 2 [.ref 0, .int (nI (112))] (hA t u) (fun r h' => (sTell 112 x (mg_rd t) = none ∧ r = nI 0 ∧ h' = hA t u) ∨ ∃ D, sTell 112 x (mg_rd t) = some D ∧ r = nI 1 ∧ h' = hA (mg_re t, mg_s t, mg_im t, D, mg_ii t, mg_tp t, mg_tl t, mg_ta t, mg_at t, mg_ou t, mg_op t, mg_br t, mg_nw t, mg_fs t, mg_bc t, mg_kr t, mg_rw t, mg_rc t) u) := by
  obtain ⟨hr1, hr2, hr3, hr4⟩ := id hrd
  obtain ⟨x1, x2, x3, x4, x5⟩ := hx
  refine Mi.of (by decide) rfl (Nat.le_of_ble_eq_true rfl) ?_
  refine r_aload_n eX4_comes_0 rfl rfl ?_
  refine r_getf (v := .ref 6) eX4_comes_1 fX4_25 rfl rfl ?_
  refine n_iconst 0 eX4_comes_4 rfl ?_
  refine r_iald (f := mg_tl t) (j := 0) eX4_comes_5 rfl rfl (by first | omega | (have := hr1 0; have := hr1 1; have := hr1 2; omega)) (by decide) ?_
  refine r_istore_n eX4_comes_6 rfl (by decide) ?_
  refine r_iload_n eX4_comes_7 rfl rfl ?_
  refine r_look (off := 44) (tgt := 52) eX4_comes_8 (by decide) (by decide +kernel) (by decide) ?_
  refine r_aload_n eX4_comes_52 rfl rfl ?_
  refine r_getf (v := .ref 4) eX4_comes_53 fX4_19 rfl rfl ?_
  refine n_iconst 0 eX4_comes_56 rfl ?_
  refine n_iald (f := mg_rd t) (j := 0) eX4_comes_57 rfl rfl (by first | omega | (have := hr1 0; have := hr1 1; have := hr1 2; omega)) (by decide) ?_
  refine n_bipush 7 eX4_comes_58 rfl ?_
  refine n_icmp_ne eX4_comes_60 (by first | omega | (have := hr1 0; have := hr1 1; have := hr1 2; omega)) (by first | omega | (have := hr1 0; have := hr1 1; have := hr1 2; omega)) (fun hc60 => ?_) (fun hc60 => ?_)
  · refine n_iconst 0 eX4_comes_65 rfl ?_
    refine r_istore_n eX4_comes_66 rfl (by decide) ?_
    refine r_iload_n eX4_comes_67 rfl rfl ?_
    refine n_iconst 5 eX4_comes_68 rfl ?_
    refine n_icmp_ge eX4_comes_69 (by first | omega | (have := hr1 0; have := hr1 1; have := hr1 2; omega)) (by first | omega | (have := hr1 0; have := hr1 1; have := hr1 2; omega)) (fun hc69 => absurd hc69 (by decide)) (fun hc69 => ?_)
    refine r_aload_n eX4_comes_72 rfl rfl ?_
    refine r_getf (v := .ref 4) eX4_comes_73 fX4_19 rfl rfl ?_
    refine n_iconst 5 eX4_comes_76 rfl ?_
    refine n_iconst 5 eX4_comes_77 rfl ?_
    refine r_aload_n eX4_comes_78 rfl rfl ?_
    refine r_getf (v := .ref 4) eX4_comes_79 fX4_19 rfl rfl ?_
    refine n_iconst 0 eX4_comes_82 rfl ?_
    refine n_iald (f := mg_rd t) (j := 0) eX4_comes_83 rfl rfl (by first | omega | (have := hr1 0; have := hr1 1; have := hr1 2; omega)) (by decide) ?_
    refine z_top (y := nI (mg_rd t 0)) (rfl) ?_
    refine n_mul eX4_comes_84 ?_
    refine n_add eX4_comes_85 ?_
    refine r_iload_n eX4_comes_86 rfl rfl ?_
    refine n_add eX4_comes_87 ?_
    refine r_aload_n eX4_comes_88 rfl rfl ?_
    refine r_getf (v := .ref 6) eX4_comes_89 fX4_25 rfl rfl ?_
    refine r_iload_n eX4_comes_92 rfl rfl ?_
    refine r_iald (f := mg_tl t) (j := 0) eX4_comes_93 rfl rfl (by first | omega | (have := hr1 0; have := hr1 1; have := hr1 2; omega)) (by decide) ?_
    refine z_top (y := nI (x.1)) (hL.1) ?_
    refine z_h (h' := hA (mg_re t, mg_s t, mg_im t, mg_rd t, mg_ii t, mg_tp t, mg_tl t, mg_ta t, mg_at t, mg_ou t, mg_op t, mg_br t, mg_nw t, mg_fs t, mg_bc t, mg_kr t, mg_rw t, mg_rc t) u) rfl ?_
    refine mw_rd (j := (5 + (5 * (mg_rd t 0))) + 0) (v := x.1) eX4_comes_94 rfl rfl (by first | omega | (have := hr1 0; have := hr1 1; have := hr1 2; omega)) ?_
    refine n_iinc (k := 1) eX4_comes_95 rfl (by decide) rfl ?_
    refine r_goto eX4_comes_98 ?_
    refine r_iload_n eX4_comes_67 rfl rfl ?_
    refine n_iconst 5 eX4_comes_68 rfl ?_
    refine n_icmp_ge eX4_comes_69 (by first | omega | (have := hr1 0; have := hr1 1; have := hr1 2; omega)) (by first | omega | (have := hr1 0; have := hr1 1; have := hr1 2; omega)) (fun hc69 => absurd hc69 (by decide)) (fun hc69 => ?_)
    refine r_aload_n eX4_comes_72 rfl rfl ?_
    refine r_getf (v := .ref 4) eX4_comes_73 fX4_19 rfl rfl ?_
    refine n_iconst 5 eX4_comes_76 rfl ?_
    refine n_iconst 5 eX4_comes_77 rfl ?_
    refine r_aload_n eX4_comes_78 rfl rfl ?_
    refine r_getf (v := .ref 4) eX4_comes_79 fX4_19 rfl rfl ?_
    refine n_iconst 0 eX4_comes_82 rfl ?_
    refine n_iald (f := (va_up (mg_rd t) ((5 + (5 * (mg_rd t 0))) + 0) (x.1))) (j := 0) eX4_comes_83 rfl rfl (by first | omega | (have := hr1 0; have := hr1 1; have := hr1 2; omega)) (by decide) ?_
    refine z_top (y := nI (mg_rd t 0)) (congrArg nI (by rw [zu_n (by omega)])) ?_
    refine n_mul eX4_comes_84 ?_
    refine n_add eX4_comes_85 ?_
    refine r_iload_n eX4_comes_86 rfl rfl ?_
    refine n_add eX4_comes_87 ?_
    refine r_aload_n eX4_comes_88 rfl rfl ?_
    refine r_getf (v := .ref 6) eX4_comes_89 fX4_25 rfl rfl ?_
    refine r_iload_n eX4_comes_92 rfl rfl ?_
    refine r_iald (f := mg_tl t) (j := 1) eX4_comes_93 rfl rfl (by first | omega | (have := hr1 0; have := hr1 1; have := hr1 2; omega)) (by decide) ?_
    refine z_top (y := nI (x.2.1)) (hL.2.1) ?_
    refine mw_rd (j := (5 + (5 * (mg_rd t 0))) + 1) (v := x.2.1) eX4_comes_94 rfl rfl (by first | omega | (have := hr1 0; have := hr1 1; have := hr1 2; omega)) ?_
    refine n_iinc (k := 1) eX4_comes_95 rfl (by decide) rfl ?_
    refine r_goto eX4_comes_98 ?_
    refine r_iload_n eX4_comes_67 rfl rfl ?_
    refine n_iconst 5 eX4_comes_68 rfl ?_
    refine n_icmp_ge eX4_comes_69 (by first | omega | (have := hr1 0; have := hr1 1; have := hr1 2; omega)) (by first | omega | (have := hr1 0; have := hr1 1; have := hr1 2; omega)) (fun hc69 => absurd hc69 (by decide)) (fun hc69 => ?_)
    refine r_aload_n eX4_comes_72 rfl rfl ?_
    refine r_getf (v := .ref 4) eX4_comes_73 fX4_19 rfl rfl ?_
    refine n_iconst 5 eX4_comes_76 rfl ?_
    refine n_iconst 5 eX4_comes_77 rfl ?_
    refine r_aload_n eX4_comes_78 rfl rfl ?_
    refine r_getf (v := .ref 4) eX4_comes_79 fX4_19 rfl rfl ?_
    refine n_iconst 0 eX4_comes_82 rfl ?_
    refine n_iald (f := (va_up ((va_up (mg_rd t) ((5 + (5 * (mg_rd t 0))) + 0) (x.1))) ((5 + (5 * (mg_rd t 0))) + 1) (x.2.1))) (j := 0) eX4_comes_83 rfl rfl (by first | omega | (have := hr1 0; have := hr1 1; have := hr1 2; omega)) (by decide) ?_
    refine z_top (y := nI (mg_rd t 0)) (congrArg nI (by rw [zu_n (by omega), zu_n (by omega)])) ?_
    refine n_mul eX4_comes_84 ?_
    refine n_add eX4_comes_85 ?_
    refine r_iload_n eX4_comes_86 rfl rfl ?_
    refine n_add eX4_comes_87 ?_
    refine r_aload_n eX4_comes_88 rfl rfl ?_
    refine r_getf (v := .ref 6) eX4_comes_89 fX4_25 rfl rfl ?_
    refine r_iload_n eX4_comes_92 rfl rfl ?_
    refine r_iald (f := mg_tl t) (j := 2) eX4_comes_93 rfl rfl (by first | omega | (have := hr1 0; have := hr1 1; have := hr1 2; omega)) (by decide) ?_
    refine z_top (y := nI (x.2.2.1)) (hL.2.2.1) ?_
    refine mw_rd (j := (5 + (5 * (mg_rd t 0))) + 2) (v := x.2.2.1) eX4_comes_94 rfl rfl (by first | omega | (have := hr1 0; have := hr1 1; have := hr1 2; omega)) ?_
    refine n_iinc (k := 1) eX4_comes_95 rfl (by decide) rfl ?_
    refine r_goto eX4_comes_98 ?_
    refine r_iload_n eX4_comes_67 rfl rfl ?_
    refine n_iconst 5 eX4_comes_68 rfl ?_
    refine n_icmp_ge eX4_comes_69 (by first | omega | (have := hr1 0; have := hr1 1; have := hr1 2; omega)) (by first | omega | (have := hr1 0; have := hr1 1; have := hr1 2; omega)) (fun hc69 => absurd hc69 (by decide)) (fun hc69 => ?_)
    refine r_aload_n eX4_comes_72 rfl rfl ?_
    refine r_getf (v := .ref 4) eX4_comes_73 fX4_19 rfl rfl ?_
    refine n_iconst 5 eX4_comes_76 rfl ?_
    refine n_iconst 5 eX4_comes_77 rfl ?_
    refine r_aload_n eX4_comes_78 rfl rfl ?_
    refine r_getf (v := .ref 4) eX4_comes_79 fX4_19 rfl rfl ?_
    refine n_iconst 0 eX4_comes_82 rfl ?_
    refine n_iald (f := (va_up ((va_up ((va_up (mg_rd t) ((5 + (5 * (mg_rd t 0))) + 0) (x.1))) ((5 + (5 * (mg_rd t 0))) + 1) (x.2.1))) ((5 + (5 * (mg_rd t 0))) + 2) (x.2.2.1))) (j := 0) eX4_comes_83 rfl rfl (by first | omega | (have := hr1 0; have := hr1 1; have := hr1 2; omega)) (by decide) ?_
    refine z_top (y := nI (mg_rd t 0)) (congrArg nI (by rw [zu_n (by omega), zu_n (by omega), zu_n (by omega)])) ?_
    refine n_mul eX4_comes_84 ?_
    refine n_add eX4_comes_85 ?_
    refine r_iload_n eX4_comes_86 rfl rfl ?_
    refine n_add eX4_comes_87 ?_
    refine r_aload_n eX4_comes_88 rfl rfl ?_
    refine r_getf (v := .ref 6) eX4_comes_89 fX4_25 rfl rfl ?_
    refine r_iload_n eX4_comes_92 rfl rfl ?_
    refine r_iald (f := mg_tl t) (j := 3) eX4_comes_93 rfl rfl (by first | omega | (have := hr1 0; have := hr1 1; have := hr1 2; omega)) (by decide) ?_
    refine z_top (y := nI (x.2.2.2.1)) (hL.2.2.2.1) ?_
    refine mw_rd (j := (5 + (5 * (mg_rd t 0))) + 3) (v := x.2.2.2.1) eX4_comes_94 rfl rfl (by first | omega | (have := hr1 0; have := hr1 1; have := hr1 2; omega)) ?_
    refine n_iinc (k := 1) eX4_comes_95 rfl (by decide) rfl ?_
    refine r_goto eX4_comes_98 ?_
    refine r_iload_n eX4_comes_67 rfl rfl ?_
    refine n_iconst 5 eX4_comes_68 rfl ?_
    refine n_icmp_ge eX4_comes_69 (by first | omega | (have := hr1 0; have := hr1 1; have := hr1 2; omega)) (by first | omega | (have := hr1 0; have := hr1 1; have := hr1 2; omega)) (fun hc69 => absurd hc69 (by decide)) (fun hc69 => ?_)
    refine r_aload_n eX4_comes_72 rfl rfl ?_
    refine r_getf (v := .ref 4) eX4_comes_73 fX4_19 rfl rfl ?_
    refine n_iconst 5 eX4_comes_76 rfl ?_
    refine n_iconst 5 eX4_comes_77 rfl ?_
    refine r_aload_n eX4_comes_78 rfl rfl ?_
    refine r_getf (v := .ref 4) eX4_comes_79 fX4_19 rfl rfl ?_
    refine n_iconst 0 eX4_comes_82 rfl ?_
    refine n_iald (f := (va_up ((va_up ((va_up ((va_up (mg_rd t) ((5 + (5 * (mg_rd t 0))) + 0) (x.1))) ((5 + (5 * (mg_rd t 0))) + 1) (x.2.1))) ((5 + (5 * (mg_rd t 0))) + 2) (x.2.2.1))) ((5 + (5 * (mg_rd t 0))) + 3) (x.2.2.2.1))) (j := 0) eX4_comes_83 rfl rfl (by first | omega | (have := hr1 0; have := hr1 1; have := hr1 2; omega)) (by decide) ?_
    refine z_top (y := nI (mg_rd t 0)) (congrArg nI (by rw [zu_n (by omega), zu_n (by omega), zu_n (by omega), zu_n (by omega)])) ?_
    refine n_mul eX4_comes_84 ?_
    refine n_add eX4_comes_85 ?_
    refine r_iload_n eX4_comes_86 rfl rfl ?_
    refine n_add eX4_comes_87 ?_
    refine r_aload_n eX4_comes_88 rfl rfl ?_
    refine r_getf (v := .ref 6) eX4_comes_89 fX4_25 rfl rfl ?_
    refine r_iload_n eX4_comes_92 rfl rfl ?_
    refine r_iald (f := mg_tl t) (j := 4) eX4_comes_93 rfl rfl (by first | omega | (have := hr1 0; have := hr1 1; have := hr1 2; omega)) (by decide) ?_
    refine z_top (y := nI (x.2.2.2.2)) (hL.2.2.2.2) ?_
    refine mw_rd (j := (5 + (5 * (mg_rd t 0))) + 4) (v := x.2.2.2.2) eX4_comes_94 rfl rfl (by first | omega | (have := hr1 0; have := hr1 1; have := hr1 2; omega)) ?_
    refine n_iinc (k := 1) eX4_comes_95 rfl (by decide) rfl ?_
    refine r_goto eX4_comes_98 ?_
    refine r_iload_n eX4_comes_67 rfl rfl ?_
    refine n_iconst 5 eX4_comes_68 rfl ?_
    refine n_icmp_ge eX4_comes_69 (by first | omega | (have := hr1 0; have := hr1 1; have := hr1 2; omega)) (by first | omega | (have := hr1 0; have := hr1 1; have := hr1 2; omega)) (fun hc69 => ?_) (fun hc69 => absurd hc69 (by decide))
    refine r_aload_n eX4_comes_101 rfl rfl ?_
    refine r_getf (v := .ref 4) eX4_comes_102 fX4_19 rfl rfl ?_
    refine n_iconst 0 eX4_comes_105 rfl ?_
    refine r_dup2 eX4_comes_106 rfl rfl ?_
    refine n_iald (f := (va_up ((va_up ((va_up ((va_up ((va_up (mg_rd t) ((5 + (5 * (mg_rd t 0))) + 0) (x.1))) ((5 + (5 * (mg_rd t 0))) + 1) (x.2.1))) ((5 + (5 * (mg_rd t 0))) + 2) (x.2.2.1))) ((5 + (5 * (mg_rd t 0))) + 3) (x.2.2.2.1))) ((5 + (5 * (mg_rd t 0))) + 4) (x.2.2.2.2))) (j := 0) eX4_comes_107 rfl rfl (by first | omega | (have := hr1 0; have := hr1 1; have := hr1 2; omega)) (by decide) ?_
    refine z_top (y := nI (mg_rd t 0)) (congrArg nI (by rw [zu_n (by omega), zu_n (by omega), zu_n (by omega), zu_n (by omega), zu_n (by omega)])) ?_
    refine n_iconst 1 eX4_comes_108 rfl ?_
    refine n_add eX4_comes_109 ?_
    refine mw_rd (j := 0) (v := (mg_rd t 0) + 1) eX4_comes_110 rfl rfl (by first | omega | (have := hr1 0; have := hr1 1; have := hr1 2; omega)) ?_
    refine n_iconst 1 eX4_comes_111 rfl ?_
    have hs9 : sTell 112 x (mg_rd t) = some (va_up ((va_up ((va_up ((va_up ((va_up ((va_up (mg_rd t) ((5 + (5 * (mg_rd t 0))) + 0) (x.1))) ((5 + (5 * (mg_rd t 0))) + 1) (x.2.1))) ((5 + (5 * (mg_rd t 0))) + 2) (x.2.2.1))) ((5 + (5 * (mg_rd t 0))) + 3) (x.2.2.2.1))) ((5 + (5 * (mg_rd t 0))) + 4) (x.2.2.2.2))) (0) ((mg_rd t 0) + 1)) := by
      unfold sTell
      rw [if_pos rfl, if_neg (by omega)]
      rfl
    exact z_iret eX4_comes_112 rfl (by decide) ⟨_, rfl, Or.inr ⟨_, hs9, rfl, rfl⟩⟩
  · refine n_iconst 0 eX4_comes_63 rfl ?_
    have hs9 : sTell 112 x (mg_rd t) = none := by
      unfold sTell
      rw [if_pos rfl, if_pos (by omega)]
    exact z_iret eX4_comes_64 rfl (by decide) ⟨_, rfl, Or.inl ⟨hs9, rfl, rfl⟩⟩
set_option maxHeartbeats 1000000 in
set_option maxRecDepth 100000 in
theorem s4_comes_107 {t : zMod} {u : zCls} (hrd : sRd (mg_rd t)) {x : zN5} (hx : x.1 ≤ 9 ∧ x.2.1 ≤ 99 ∧ x.2.2.1 ≤ 9 ∧ x.2.2.2.1 ≤ 999 ∧ x.2.2.2.2 ≤ 9) (hL : mg_tl t 0 = nI x.1 ∧ mg_tl t 1 = nI x.2.1) : Mi mX4_comes 2 [.ref 0, .int (nI (107))] (hA t u) (fun r h' => (sTell 107 x (mg_rd t) = none ∧ r = nI 0 ∧ h' = hA t u) ∨ ∃ D, sTell 107 x (mg_rd t) = some D ∧ r = nI 1 ∧ h' = hA (mg_re t, mg_s t, mg_im t, D, mg_ii t, mg_tp t, mg_tl t, mg_ta t, mg_at t, mg_ou t, mg_op t, mg_br t, mg_nw t, mg_fs t, mg_bc t, mg_kr t, mg_rw t, mg_rc t) u) := by
  obtain ⟨hr1, hr2, hr3, hr4⟩ := id hrd
  obtain ⟨x1, x2, x3, x4, x5⟩ := hx
  refine Mi.of (by decide) rfl (Nat.le_of_ble_eq_true rfl) ?_
  refine r_aload_n eX4_comes_0 rfl rfl ?_
  refine r_getf (v := .ref 6) eX4_comes_1 fX4_25 rfl rfl ?_
  refine n_iconst 0 eX4_comes_4 rfl ?_
  refine r_iald (f := mg_tl t) (j := 0) eX4_comes_5 rfl rfl (by first | omega | (have := hr1 0; have := hr1 1; have := hr1 2; omega)) (by decide) ?_
  refine z_top (y := nI (x.1)) (hL.1) ?_
  refine r_istore_n eX4_comes_6 rfl (by decide) ?_
  refine r_iload_n eX4_comes_7 rfl rfl ?_
  refine r_look (off := 105) (tgt := 113) eX4_comes_8 (by decide) (by decide +kernel) (by decide) ?_
  refine r_iload_n eX4_comes_113 rfl rfl ?_
  refine r_aload_n eX4_comes_114 rfl rfl ?_
  refine r_getf (v := .ref 4) eX4_comes_115 fX4_19 rfl rfl ?_
  refine n_iconst 0 eX4_comes_118 rfl ?_
  refine n_iald (f := mg_rd t) (j := 0) eX4_comes_119 rfl rfl (by first | omega | (have := hr1 0; have := hr1 1; have := hr1 2; omega)) (by decide) ?_
  refine n_icmp_ge eX4_comes_120 (by first | omega | (have := hr1 0; have := hr1 1; have := hr1 2; omega)) (by first | omega | (have := hr1 0; have := hr1 1; have := hr1 2; omega)) (fun hc120 => ?_) (fun hc120 => ?_)
  · refine n_iconst 0 eX4_comes_149 rfl ?_
    have hs9 : sTell 107 x (mg_rd t) = none := by
      unfold sTell
      rw [if_neg (by decide), if_pos rfl, if_neg (fun z => by omega)]
    exact z_iret eX4_comes_150 rfl (by decide) ⟨_, rfl, Or.inl ⟨hs9, rfl, rfl⟩⟩
  · refine r_aload_n eX4_comes_123 rfl rfl ?_
    refine r_getf (v := .ref 6) eX4_comes_124 fX4_25 rfl rfl ?_
    refine n_iconst 1 eX4_comes_127 rfl ?_
    refine r_iald (f := mg_tl t) (j := 1) eX4_comes_128 rfl rfl (by first | omega | (have := hr1 0; have := hr1 1; have := hr1 2; omega)) (by decide) ?_
    refine z_top (y := nI (x.2.1)) (hL.2) ?_
    refine r_aload_n eX4_comes_129 rfl rfl ?_
    refine r_getf (v := .ref 4) eX4_comes_130 fX4_19 rfl rfl ?_
    refine n_iconst 0 eX4_comes_133 rfl ?_
    refine n_iald (f := mg_rd t) (j := 0) eX4_comes_134 rfl rfl (by first | omega | (have := hr1 0; have := hr1 1; have := hr1 2; omega)) (by decide) ?_
    refine n_icmp_ge eX4_comes_135 (by first | omega | (have := hr1 0; have := hr1 1; have := hr1 2; omega)) (by first | omega | (have := hr1 0; have := hr1 1; have := hr1 2; omega)) (fun hc135 => ?_) (fun hc135 => ?_)
    · refine n_iconst 0 eX4_comes_149 rfl ?_
      have hs9 : sTell 107 x (mg_rd t) = none := by
        unfold sTell
        rw [if_neg (by decide), if_pos rfl, if_neg (fun z => by omega)]
      exact z_iret eX4_comes_150 rfl (by decide) ⟨_, rfl, Or.inl ⟨hs9, rfl, rfl⟩⟩
    · refine r_aload_n eX4_comes_138 rfl rfl ?_
      refine r_getf (v := .ref 4) eX4_comes_139 fX4_19 rfl rfl ?_
      refine n_iconst 1 eX4_comes_142 rfl ?_
      refine n_iald (f := mg_rd t) (j := 1) eX4_comes_143 rfl rfl (by first | omega | (have := hr1 0; have := hr1 1; have := hr1 2; omega)) (by decide) ?_
      refine n_bipush 10 eX4_comes_144 rfl ?_
      refine n_icmp_ne eX4_comes_146 (by first | omega | (have := hr1 0; have := hr1 1; have := hr1 2; omega)) (by first | omega | (have := hr1 0; have := hr1 1; have := hr1 2; omega)) (fun hc146 => ?_) (fun hc146 => ?_)
      · refine r_aload_n eX4_comes_151 rfl rfl ?_
        refine r_getf (v := .ref 4) eX4_comes_152 fX4_19 rfl rfl ?_
        refine n_bipush 40 eX4_comes_155 rfl ?_
        refine n_iconst 2 eX4_comes_157 rfl ?_
        refine r_aload_n eX4_comes_158 rfl rfl ?_
        refine r_getf (v := .ref 4) eX4_comes_159 fX4_19 rfl rfl ?_
        refine n_iconst 1 eX4_comes_162 rfl ?_
        refine n_iald (f := mg_rd t) (j := 1) eX4_comes_163 rfl rfl (by first | omega | (have := hr1 0; have := hr1 1; have := hr1 2; omega)) (by decide) ?_
        refine n_mul eX4_comes_164 ?_
        refine n_add eX4_comes_165 ?_
        refine r_iload_n eX4_comes_166 rfl rfl ?_
        refine z_h (h' := hA (mg_re t, mg_s t, mg_im t, mg_rd t, mg_ii t, mg_tp t, mg_tl t, mg_ta t, mg_at t, mg_ou t, mg_op t, mg_br t, mg_nw t, mg_fs t, mg_bc t, mg_kr t, mg_rw t, mg_rc t) u) rfl ?_
        refine mw_rd (j := 40 + (2 * ((mg_rd t) (1)))) (v := x.1) eX4_comes_167 rfl rfl (by first | omega | (have := hr1 0; have := hr1 1; have := hr1 2; omega)) ?_
        refine r_aload_n eX4_comes_168 rfl rfl ?_
        refine r_getf (v := .ref 4) eX4_comes_169 fX4_19 rfl rfl ?_
        refine n_bipush 40 eX4_comes_172 rfl ?_
        refine n_iconst 2 eX4_comes_174 rfl ?_
        refine r_aload_n eX4_comes_175 rfl rfl ?_
        refine r_getf (v := .ref 4) eX4_comes_176 fX4_19 rfl rfl ?_
        refine n_iconst 1 eX4_comes_179 rfl ?_
        refine n_iald (f := (va_up (mg_rd t) (40 + (2 * ((mg_rd t) (1)))) (x.1))) (j := 1) eX4_comes_180 rfl rfl (by first | omega | (have := hr1 0; have := hr1 1; have := hr1 2; omega)) (by decide) ?_
        refine z_top (y := nI (mg_rd t 1)) (congrArg nI (by rw [zu_n (by omega)])) ?_
        refine n_mul eX4_comes_181 ?_
        refine n_add eX4_comes_182 ?_
        refine n_iconst 1 eX4_comes_183 rfl ?_
        refine n_add eX4_comes_184 ?_
        refine r_aload_n eX4_comes_185 rfl rfl ?_
        refine r_getf (v := .ref 6) eX4_comes_186 fX4_25 rfl rfl ?_
        refine n_iconst 1 eX4_comes_189 rfl ?_
        refine r_iald (f := mg_tl t) (j := 1) eX4_comes_190 rfl rfl (by first | omega | (have := hr1 0; have := hr1 1; have := hr1 2; omega)) (by decide) ?_
        refine z_top (y := nI (x.2.1)) (hL.2) ?_
        refine mw_rd (j := (40 + (2 * (mg_rd t 1))) + 1) (v := x.2.1) eX4_comes_191 rfl rfl (by first | omega | (have := hr1 0; have := hr1 1; have := hr1 2; omega)) ?_
        refine r_aload_n eX4_comes_192 rfl rfl ?_
        refine r_getf (v := .ref 4) eX4_comes_193 fX4_19 rfl rfl ?_
        refine n_iconst 1 eX4_comes_196 rfl ?_
        refine r_dup2 eX4_comes_197 rfl rfl ?_
        refine n_iald (f := (va_up ((va_up (mg_rd t) (40 + (2 * ((mg_rd t) (1)))) (x.1))) ((40 + (2 * (mg_rd t 1))) + 1) (x.2.1))) (j := 1) eX4_comes_198 rfl rfl (by first | omega | (have := hr1 0; have := hr1 1; have := hr1 2; omega)) (by decide) ?_
        refine z_top (y := nI (mg_rd t 1)) (congrArg nI (by rw [zu_n (by omega), zu_n (by omega)])) ?_
        refine n_iconst 1 eX4_comes_199 rfl ?_
        refine n_add eX4_comes_200 ?_
        refine mw_rd (j := 1) (v := (mg_rd t 1) + 1) eX4_comes_201 rfl rfl (by first | omega | (have := hr1 0; have := hr1 1; have := hr1 2; omega)) ?_
        refine n_iconst 1 eX4_comes_202 rfl ?_
        have hs9 : sTell 107 x (mg_rd t) = some (va_up ((va_up ((va_up (mg_rd t) (40 + (2 * ((mg_rd t) (1)))) (x.1))) ((40 + (2 * (mg_rd t 1))) + 1) (x.2.1))) (1) ((mg_rd t 1) + 1)) := by
          unfold sTell
          rw [if_neg (by decide), if_pos rfl, if_pos ⟨by omega, by omega, by omega⟩]
          rfl
        exact z_iret eX4_comes_203 rfl (by decide) ⟨_, rfl, Or.inr ⟨_, hs9, rfl, rfl⟩⟩
      · refine n_iconst 0 eX4_comes_149 rfl ?_
        have hs9 : sTell 107 x (mg_rd t) = none := by
          unfold sTell
          rw [if_neg (by decide), if_pos rfl, if_neg (fun z => by omega)]
        exact z_iret eX4_comes_150 rfl (by decide) ⟨_, rfl, Or.inl ⟨hs9, rfl, rfl⟩⟩
set_option maxHeartbeats 1000000 in
set_option maxRecDepth 100000 in
theorem s4_comes_119 {t : zMod} {u : zCls} (hrd : sRd (mg_rd t)) {x : zN5} (hx : x.1 ≤ 9 ∧ x.2.1 ≤ 99 ∧ x.2.2.1 ≤ 9 ∧ x.2.2.2.1 ≤ 999 ∧ x.2.2.2.2 ≤ 9) (hL : mg_tl t 0 = nI x.1) : Mi mX4_comes 2 [.ref 0, .int (nI (119))] (hA t u) (fun r h' => (sTell 119 x (mg_rd t) = none ∧ r = nI 0 ∧ h' = hA t u) ∨ ∃ D, sTell 119 x (mg_rd t) = some D ∧ r = nI 1 ∧ h' = hA (mg_re t, mg_s t, mg_im t, D, mg_ii t, mg_tp t, mg_tl t, mg_ta t, mg_at t, mg_ou t, mg_op t, mg_br t, mg_nw t, mg_fs t, mg_bc t, mg_kr t, mg_rw t, mg_rc t) u) := by
  obtain ⟨hr1, hr2, hr3, hr4⟩ := id hrd
  obtain ⟨x1, x2, x3, x4, x5⟩ := hx
  refine Mi.of (by decide) rfl (Nat.le_of_ble_eq_true rfl) ?_
  refine r_aload_n eX4_comes_0 rfl rfl ?_
  refine r_getf (v := .ref 6) eX4_comes_1 fX4_25 rfl rfl ?_
  refine n_iconst 0 eX4_comes_4 rfl ?_
  refine r_iald (f := mg_tl t) (j := 0) eX4_comes_5 rfl rfl (by first | omega | (have := hr1 0; have := hr1 1; have := hr1 2; omega)) (by decide) ?_
  refine z_top (y := nI (x.1)) (hL) ?_
  refine r_istore_n eX4_comes_6 rfl (by decide) ?_
  refine r_iload_n eX4_comes_7 rfl rfl ?_
  refine r_look (off := 196) (tgt := 204) eX4_comes_8 (by decide) (by decide +kernel) (by decide) ?_
  refine r_iload_n eX4_comes_204 rfl rfl ?_
  refine r_aload_n eX4_comes_205 rfl rfl ?_
  refine r_getf (v := .ref 4) eX4_comes_206 fX4_19 rfl rfl ?_
  refine n_iconst 0 eX4_comes_209 rfl ?_
  refine n_iald (f := mg_rd t) (j := 0) eX4_comes_210 rfl rfl (by first | omega | (have := hr1 0; have := hr1 1; have := hr1 2; omega)) (by decide) ?_
  refine n_icmp_lt eX4_comes_211 (by first | omega | (have := hr1 0; have := hr1 1; have := hr1 2; omega)) (by first | omega | (have := hr1 0; have := hr1 1; have := hr1 2; omega)) (fun hc211 => ?_) (fun hc211 => ?_)
  · refine r_aload_n eX4_comes_216 rfl rfl ?_
    refine r_getf (v := .ref 4) eX4_comes_217 fX4_19 rfl rfl ?_
    refine n_iconst 2 eX4_comes_220 rfl ?_
    refine r_dup2 eX4_comes_221 rfl rfl ?_
    refine n_iald (f := mg_rd t) (j := 2) eX4_comes_222 rfl rfl (by first | omega | (have := hr1 0; have := hr1 1; have := hr1 2; omega)) (by decide) ?_
    refine n_iconst 1 eX4_comes_223 rfl ?_
    refine r_iload_n eX4_comes_224 rfl rfl ?_
    refine n_shl eX4_comes_225 (by omega) (by have := Nat.pow_lt_pow_right (show 1 < 2 by omega) (show x.1 < 7 by omega); omega) ?_
    refine n_xor eX4_comes_226 ?_
    refine z_h (h' := hA (mg_re t, mg_s t, mg_im t, mg_rd t, mg_ii t, mg_tp t, mg_tl t, mg_ta t, mg_at t, mg_ou t, mg_op t, mg_br t, mg_nw t, mg_fs t, mg_bc t, mg_kr t, mg_rw t, mg_rc t) u) rfl ?_
    refine mw_rd (j := 2) (v := ((mg_rd t) (2)) ^^^ (1 * 2 ^ x.1)) eX4_comes_227 rfl rfl (by first | omega | (have := hr1 0; have := hr1 1; have := hr1 2; omega)) ?_
    refine n_iconst 1 eX4_comes_228 rfl ?_
    have hs9 : sTell 119 x (mg_rd t) = some (va_up (mg_rd t) (2) (((mg_rd t) (2)) ^^^ (1 * 2 ^ x.1))) := by
      unfold sTell
      rw [if_neg (by decide), if_neg (by decide), if_pos rfl, if_pos hc211]
    exact z_iret eX4_comes_229 rfl (by decide) ⟨_, rfl, Or.inr ⟨_, hs9, rfl, rfl⟩⟩
  · refine n_iconst 0 eX4_comes_214 rfl ?_
    have hs9 : sTell 119 x (mg_rd t) = none := by
      unfold sTell
      rw [if_neg (by decide), if_neg (by decide), if_pos rfl, if_neg (by omega)]
    exact z_iret eX4_comes_215 rfl (by decide) ⟨_, rfl, Or.inl ⟨hs9, rfl, rfl⟩⟩
set_option maxHeartbeats 1000000 in
set_option maxRecDepth 100000 in
theorem s4_comes_115 {t : zMod} {u : zCls} (hrd : sRd (mg_rd t)) {x : zN5} (hx : x.1 ≤ 9 ∧ x.2.1 ≤ 99 ∧ x.2.2.1 ≤ 9 ∧ x.2.2.2.1 ≤ 999 ∧ x.2.2.2.2 ≤ 9) (hL : mg_tl t 0 = nI x.1) : Mi mX4_comes 2 [.ref 0, .int (nI (115))] (hA t u) (fun r h' => (sTell 115 x (mg_rd t) = none ∧ r = nI 0 ∧ h' = hA t u) ∨ ∃ D, sTell 115 x (mg_rd t) = some D ∧ r = nI 1 ∧ h' = hA (mg_re t, mg_s t, mg_im t, D, mg_ii t, mg_tp t, mg_tl t, mg_ta t, mg_at t, mg_ou t, mg_op t, mg_br t, mg_nw t, mg_fs t, mg_bc t, mg_kr t, mg_rw t, mg_rc t) u) := by
  obtain ⟨hr1, hr2, hr3, hr4⟩ := id hrd
  obtain ⟨x1, x2, x3, x4, x5⟩ := hx
  refine Mi.of (by decide) rfl (Nat.le_of_ble_eq_true rfl) ?_
  refine r_aload_n eX4_comes_0 rfl rfl ?_
  refine r_getf (v := .ref 6) eX4_comes_1 fX4_25 rfl rfl ?_
  refine n_iconst 0 eX4_comes_4 rfl ?_
  refine r_iald (f := mg_tl t) (j := 0) eX4_comes_5 rfl rfl (by first | omega | (have := hr1 0; have := hr1 1; have := hr1 2; omega)) (by decide) ?_
  refine z_top (y := nI (x.1)) (hL) ?_
  refine r_istore_n eX4_comes_6 rfl (by decide) ?_
  refine r_iload_n eX4_comes_7 rfl rfl ?_
  refine r_look (off := 222) (tgt := 230) eX4_comes_8 (by decide) (by decide +kernel) (by decide) ?_
  refine r_aload_n eX4_comes_230 rfl rfl ?_
  refine r_getf (v := .ref 4) eX4_comes_231 fX4_19 rfl rfl ?_
  refine n_iconst 3 eX4_comes_234 rfl ?_
  refine r_iload_n eX4_comes_235 rfl rfl ?_
  refine z_h (h' := hA (mg_re t, mg_s t, mg_im t, mg_rd t, mg_ii t, mg_tp t, mg_tl t, mg_ta t, mg_at t, mg_ou t, mg_op t, mg_br t, mg_nw t, mg_fs t, mg_bc t, mg_kr t, mg_rw t, mg_rc t) u) rfl ?_
  refine mw_rd (j := 3) (v := x.1) eX4_comes_236 rfl rfl (by first | omega | (have := hr1 0; have := hr1 1; have := hr1 2; omega)) ?_
  refine n_iconst 1 eX4_comes_237 rfl ?_
  have hs9 : sTell 115 x (mg_rd t) = some (va_up (mg_rd t) (3) (x.1)) := by
    unfold sTell
    rw [if_neg (by decide), if_neg (by decide), if_neg (by decide), if_pos rfl]
  exact z_iret eX4_comes_238 rfl (by decide) ⟨_, rfl, Or.inr ⟨_, hs9, rfl, rfl⟩⟩
set_option maxHeartbeats 1000000 in
set_option maxRecDepth 100000 in
theorem s4_comes_114 {t : zMod} {u : zCls} (hrd : sRd (mg_rd t)) {x : zN5} (hx : x.1 ≤ 9 ∧ x.2.1 ≤ 99 ∧ x.2.2.1 ≤ 9 ∧ x.2.2.2.1 ≤ 999 ∧ x.2.2.2.2 ≤ 9) : Mi mX4_comes 2 [.ref 0, .int (nI (114))] (hA t u) (fun r h' => (sTell 114 x (mg_rd t) = none ∧ r = nI 0 ∧ h' = hA t u) ∨ ∃ D, sTell 114 x (mg_rd t) = some D ∧ r = nI 1 ∧ h' = hA (mg_re t, mg_s t, mg_im t, D, mg_ii t, mg_tp t, mg_tl t, mg_ta t, mg_at t, mg_ou t, mg_op t, mg_br t, mg_nw t, mg_fs t, mg_bc t, mg_kr t, mg_rw t, mg_rc t) u) := by
  obtain ⟨hr1, hr2, hr3, hr4⟩ := id hrd
  obtain ⟨x1, x2, x3, x4, x5⟩ := hx
  refine Mi.of (by decide) rfl (Nat.le_of_ble_eq_true rfl) ?_
  refine r_aload_n eX4_comes_0 rfl rfl ?_
  refine r_getf (v := .ref 6) eX4_comes_1 fX4_25 rfl rfl ?_
  refine n_iconst 0 eX4_comes_4 rfl ?_
  refine r_iald (f := mg_tl t) (j := 0) eX4_comes_5 rfl rfl (by first | omega | (have := hr1 0; have := hr1 1; have := hr1 2; omega)) (by decide) ?_
  refine r_istore_n eX4_comes_6 rfl (by decide) ?_
  refine r_iload_n eX4_comes_7 rfl rfl ?_
  refine r_look (off := 231) (tgt := 239) eX4_comes_8 (by decide) (by decide +kernel) (by decide) ?_
  refine r_aload_n eX4_comes_239 rfl rfl ?_
  refine r_getf (v := .ref 4) eX4_comes_240 fX4_19 rfl rfl ?_
  refine n_iconst 4 eX4_comes_243 rfl ?_
  refine r_iload_n eX4_comes_244 rfl rfl ?_
  refine n_bipush 114 eX4_comes_245 rfl ?_
  refine n_icmp_ne eX4_comes_247 (by first | omega | (have := hr1 0; have := hr1 1; have := hr1 2; omega)) (by first | omega | (have := hr1 0; have := hr1 1; have := hr1 2; omega)) (fun hc247 => absurd hc247 (by decide)) (fun hc247 => ?_)
  refine n_iconst 1 eX4_comes_250 rfl ?_
  refine r_goto eX4_comes_251 ?_
  refine z_h (h' := hA (mg_re t, mg_s t, mg_im t, mg_rd t, mg_ii t, mg_tp t, mg_tl t, mg_ta t, mg_at t, mg_ou t, mg_op t, mg_br t, mg_nw t, mg_fs t, mg_bc t, mg_kr t, mg_rw t, mg_rc t) u) rfl ?_
  refine mw_rd (j := 4) (v := 1) eX4_comes_255 rfl rfl (by first | omega | (have := hr1 0; have := hr1 1; have := hr1 2; omega)) ?_
  refine n_iconst 1 eX4_comes_256 rfl ?_
  have hs9 : sTell 114 x (mg_rd t) = some (va_up (mg_rd t) (4) (1)) := by
    unfold sTell
    rw [if_neg (by decide), if_neg (by decide), if_neg (by decide), if_neg (by decide)]
    rfl
  exact z_iret eX4_comes_257 rfl (by decide) ⟨_, rfl, Or.inr ⟨_, hs9, rfl, rfl⟩⟩
set_option maxHeartbeats 1000000 in
set_option maxRecDepth 100000 in
theorem s4_comes_111 {t : zMod} {u : zCls} (hrd : sRd (mg_rd t)) {x : zN5} (hx : x.1 ≤ 9 ∧ x.2.1 ≤ 99 ∧ x.2.2.1 ≤ 9 ∧ x.2.2.2.1 ≤ 999 ∧ x.2.2.2.2 ≤ 9) : Mi mX4_comes 2 [.ref 0, .int (nI (111))] (hA t u) (fun r h' => (sTell 111 x (mg_rd t) = none ∧ r = nI 0 ∧ h' = hA t u) ∨ ∃ D, sTell 111 x (mg_rd t) = some D ∧ r = nI 1 ∧ h' = hA (mg_re t, mg_s t, mg_im t, D, mg_ii t, mg_tp t, mg_tl t, mg_ta t, mg_at t, mg_ou t, mg_op t, mg_br t, mg_nw t, mg_fs t, mg_bc t, mg_kr t, mg_rw t, mg_rc t) u) := by
  obtain ⟨hr1, hr2, hr3, hr4⟩ := id hrd
  obtain ⟨x1, x2, x3, x4, x5⟩ := hx
  refine Mi.of (by decide) rfl (Nat.le_of_ble_eq_true rfl) ?_
  refine r_aload_n eX4_comes_0 rfl rfl ?_
  refine r_getf (v := .ref 6) eX4_comes_1 fX4_25 rfl rfl ?_
  refine n_iconst 0 eX4_comes_4 rfl ?_
  refine r_iald (f := mg_tl t) (j := 0) eX4_comes_5 rfl rfl (by first | omega | (have := hr1 0; have := hr1 1; have := hr1 2; omega)) (by decide) ?_
  refine r_istore_n eX4_comes_6 rfl (by decide) ?_
  refine r_iload_n eX4_comes_7 rfl rfl ?_
  refine r_look (off := 231) (tgt := 239) eX4_comes_8 (by decide) (by decide +kernel) (by decide) ?_
  refine r_aload_n eX4_comes_239 rfl rfl ?_
  refine r_getf (v := .ref 4) eX4_comes_240 fX4_19 rfl rfl ?_
  refine n_iconst 4 eX4_comes_243 rfl ?_
  refine r_iload_n eX4_comes_244 rfl rfl ?_
  refine n_bipush 114 eX4_comes_245 rfl ?_
  refine n_icmp_ne eX4_comes_247 (by first | omega | (have := hr1 0; have := hr1 1; have := hr1 2; omega)) (by first | omega | (have := hr1 0; have := hr1 1; have := hr1 2; omega)) (fun hc247 => ?_) (fun hc247 => absurd hc247 (by decide))
  refine n_iconst 0 eX4_comes_254 rfl ?_
  refine z_h (h' := hA (mg_re t, mg_s t, mg_im t, mg_rd t, mg_ii t, mg_tp t, mg_tl t, mg_ta t, mg_at t, mg_ou t, mg_op t, mg_br t, mg_nw t, mg_fs t, mg_bc t, mg_kr t, mg_rw t, mg_rc t) u) rfl ?_
  refine mw_rd (j := 4) (v := 0) eX4_comes_255 rfl rfl (by first | omega | (have := hr1 0; have := hr1 1; have := hr1 2; omega)) ?_
  refine n_iconst 1 eX4_comes_256 rfl ?_
  have hs9 : sTell 111 x (mg_rd t) = some (va_up (mg_rd t) (4) (0)) := by
    unfold sTell
    rw [if_neg (by decide), if_neg (by decide), if_neg (by decide), if_neg (by decide)]
    rfl
  exact z_iret eX4_comes_257 rfl (by decide) ⟨_, rfl, Or.inr ⟨_, hs9, rfl, rfl⟩⟩
theorem pSt_c {f : Nat → Nat} {n a : Nat} {x : zN5} (h : (pSt f n a).2 = some x) : f a = 112 ∨ f a = 107 ∨ f a = 119 ∨ f a = 115 ∨ f a = 114 ∨ f a = 111 := by
  unfold pSt at h
  split at h
  · split at h
    · exact Or.inl ‹_›
    · split at h
      · exact Or.inr (Or.inl ‹_›)
      · split at h
        · rename_i h9
          exact Or.inr (Or.inr (h9.elim Or.inl fun z => Or.inr (Or.inl z)))
        · split at h
          · rename_i h9
            exact Or.inr (Or.inr (Or.inr (Or.inr h9)))
          · cases h
  · cases h
theorem s4_comes {t : zMod} {u : zCls} (hrd : sRd (mg_rd t)) {x : zN5} (hx : x.1 ≤ 9 ∧ x.2.1 ≤ 99 ∧ x.2.2.1 ≤ 9 ∧ x.2.2.2.1 ≤ 999 ∧ x.2.2.2.2 ≤ 9) {c : Nat} (hc : c = 112 ∨ c = 107 ∨ c = 119 ∨ c = 115 ∨ c = 114 ∨ c = 111) (hL : zTl c x (mg_tl t)) : Mi mX4_comes 2 [.ref 0, .int (nI c)] (hA t u) (fun r h' => (sTell c x (mg_rd t) = none ∧ r = nI 0 ∧ h' = hA t u) ∨ ∃ D, sTell c x (mg_rd t) = some D ∧ r = nI 1 ∧ h' = hA (mg_re t, mg_s t, mg_im t, D, mg_ii t, mg_tp t, mg_tl t, mg_ta t, mg_at t, mg_ou t, mg_op t, mg_br t, mg_nw t, mg_fs t, mg_bc t, mg_kr t, mg_rw t, mg_rc t) u) := by
  rcases hc with rfl | rfl | rfl | rfl | rfl | rfl
  · exact s4_comes_112 hrd hx (hL.1 rfl)
  · exact s4_comes_107 hrd hx (hL.2.1 rfl)
  · exact s4_comes_119 hrd hx (hL.2.2 (Or.inl rfl))
  · exact s4_comes_115 hrd hx (hL.2.2 (Or.inr rfl))
  · exact s4_comes_114 hrd hx
  · exact s4_comes_111 hrd hx
