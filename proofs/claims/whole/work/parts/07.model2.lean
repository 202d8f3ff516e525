/-! THE REFERENCE: its morning -/
def sWay (S : Nat → Nat) : Nat → Nat → Nat := zway (S 4) (S 0)
def sNd (S : Nat → Nat) (p : Nat) : Nat := zneed (S (5 + 5 * p + 0)) (S (5 + 5 * p + 2))
def sPc (S : Nat → Nat) (p : Nat) : Nat := if S (5 + 5 * p + 0) = 5 then 0 else S 3
def sHd (S : Nat → Nat) (p d : Nat) : Bool := !(d == p) && zhold (fun k => S (40 + 2 * k)) (fun k => S (40 + 2 * k + 1)) (S 1) p d
def sUp (S : Nat → Nat) (p : Nat) : Nat := zup (S (5 + 5 * p + 0)) (S (5 + 5 * p + 1))
def sWin (S : Nat → Nat) (nw : Nat) (p : Nat) : Nat := if S (5 + 5 * p + 0) = 3 ∧ nw = 0 then 60 + S (5 + 5 * p + 1) else 1000000
def sCand (S : Nat → Nat) (nw : Nat) : (Nat → Nat) → Nat → Nat := zcand (S 2).testBit (sUp S) (sWin S nw)
theorem sUp_le {S : Nat → Nat} (hs : ∀ i, S i ≤ 1000) (p : Nat) : sUp S p ≤ 2000 := by
  have h1 := hs (5 + 5 * p + 1)
  unfold sUp zup
  split
  · omega
  · split <;> omega
theorem sWin_le {S : Nat → Nat} (hs : ∀ i, S i ≤ 1000) (nw p : Nat) : sWin S nw p ≤ 1000000 := by
  have h1 := hs (5 + 5 * p + 1)
  unfold sWin
  split <;> omega
theorem sNd_le {S : Nat → Nat} (hs : ∀ i, S i ≤ 1000) (p : Nat) : sNd S p ≤ 1000 := by
  have h1 := hs (5 + 5 * p + 2)
  unfold sNd zneed
  split <;> omega

set_option maxHeartbeats 1000000 in
set_option maxRecDepth 100000 in
theorem s4_goesRound_l {t : zMod} {u : zCls} (hs : ∀ i, mg_s t i ≤ 1000) (h0 : mg_s t 0 ≤ 7) (h1 : mg_s t 1 ≤ 12) {p : Nat} (hp : p < mg_s t 0) (hm : mg_ou t p ≤ 1000000) (hop : ∀ i, mg_op t i ≤ 1000000) {Q : Option Int32 → List zC → Prop} (kk : Rq mX4_goesRound 3 none 107 [.ref 0, .int (nI p), .int (nI (zgo (sWay (mg_s t)) (sNd (mg_s t) p) (sPc (mg_s t) p) (sHd (mg_s t) p) (mg_ou t p) p (mg_op t) (mg_s t 0)).1), .int (nI (zgo (sWay (mg_s t)) (sNd (mg_s t) p) (sPc (mg_s t) p) (sHd (mg_s t) p) (mg_ou t p) p (mg_op t) (mg_s t 0)).2.1), .int (nI (mg_s t 0))] [] (hA (mg_re t, mg_s t, mg_im t, mg_rd t, mg_ii t, mg_tp t, mg_tl t, mg_ta t, mg_at t, mg_ou t, (zgo (sWay (mg_s t)) (sNd (mg_s t) p) (sPc (mg_s t) p) (sHd (mg_s t) p) (mg_ou t p) p (mg_op t) (mg_s t 0)).2.2, mg_br t, mg_nw t, mg_fs t, mg_bc t, mg_kr t, mg_rw t, mg_rc t) u) Q) : ∀ (k : Nat) (dd : Nat) (mi : Nat) (he : Nat) (O : Nat → Nat) (hd : dd + k = mg_s t 0) (hz : zgo (sWay (mg_s t)) (sNd (mg_s t) p) (sPc (mg_s t) p) (sHd (mg_s t) p) (mg_ou t p) p (mg_op t) dd = (mi, he, O)) (hmi : mi ≤ 1000000 + 10000 * dd) (hhe : he < mg_s t 0) (hO : ∀ i, O i ≤ 1000000), Rq mX4_goesRound 3 none 12 [.ref 0, .int (nI (p)), .int (nI (mi)), .int (nI (he)), .int (nI (dd))] [] (hA (mg_re t, mg_s t, mg_im t, mg_rd t, mg_ii t, mg_tp t, mg_tl t, mg_ta t, mg_at t, mg_ou t, O, mg_br t, mg_nw t, mg_fs t, mg_bc t, mg_kr t, mg_rw t, mg_rc t) u) Q  := by
  intro k
  induction k with
  | zero =>
    intro dd mi he O hd hz hmi hhe hO
    refine r_iload eX4_goesRound_12 rfl ?_
    refine r_aload_n eX4_goesRound_14 rfl rfl ?_
    refine r_getf (v := .ref 2) eX4_goesRound_15 fX4_13 rfl rfl ?_
    refine n_iconst 0 eX4_goesRound_18 rfl ?_
    refine n_iald (f := mg_s t) (j := 0) eX4_goesRound_19 rfl rfl (by first | omega | exact zlt (hs _) | exact hou _ | exact hop _) (by decide) ?_
    refine n_icmp_ge eX4_goesRound_20 (by first | omega | exact zlt (hs _) | exact hou _ | exact hop _) (by first | omega | exact zlt (hs _) | exact hou _ | exact hop _) (fun hc20 => ?_) (fun hc20 => absurd hc20 (by omega))
    have e : dd = mg_s t 0 := by omega
    rw [← e, hz] at kk
    exact kk
  | succ k ih =>
    intro dd mi he O hd hz hmi hhe hO
    have hdn : dd < mg_s t 0 := by omega
    refine r_iload eX4_goesRound_12 rfl ?_
    refine r_aload_n eX4_goesRound_14 rfl rfl ?_
    refine r_getf (v := .ref 2) eX4_goesRound_15 fX4_13 rfl rfl ?_
    refine n_iconst 0 eX4_goesRound_18 rfl ?_
    refine n_iald (f := mg_s t) (j := 0) eX4_goesRound_19 rfl rfl (by first | omega | exact zlt (hs _) | (have := hO dd; omega) | (have := zway_le (r := mg_s t 4) hhe hdn; have := sNd_le hs p; have h3 := hs 3; unfold sNd at this; (try have := Nat.mul_le_mul h3 (zway_le (r := mg_s t 4) hhe hdn)); omega) | (have := Bool.toNat_lt (zhold (fun k => mg_s t (40 + 2 * k)) (fun k => mg_s t (40 + 2 * k + 1)) (mg_s t 1) p dd); omega)) (by decide) ?_
    refine n_icmp_ge eX4_goesRound_20 (by first | omega | exact zlt (hs _) | (have := hO dd; omega) | (have := zway_le (r := mg_s t 4) hhe hdn; have := sNd_le hs p; have h3 := hs 3; unfold sNd at this; (try have := Nat.mul_le_mul h3 (zway_le (r := mg_s t 4) hhe hdn)); omega) | (have := Bool.toNat_lt (zhold (fun k => mg_s t (40 + 2 * k)) (fun k => mg_s t (40 + 2 * k + 1)) (mg_s t 1) p dd); omega)) (by first | omega | exact zlt (hs _) | (have := hO dd; omega) | (have := zway_le (r := mg_s t 4) hhe hdn; have := sNd_le hs p; have h3 := hs 3; unfold sNd at this; (try have := Nat.mul_le_mul h3 (zway_le (r := mg_s t 4) hhe hdn)); omega) | (have := Bool.toNat_lt (zhold (fun k => mg_s t (40 + 2 * k)) (fun k => mg_s t (40 + 2 * k + 1)) (mg_s t 1) p dd); omega)) (fun hc20 => absurd hc20 (by omega)) (fun hc20 => ?_)
    refine r_iload eX4_goesRound_23 rfl ?_
    refine r_iload_n eX4_goesRound_25 rfl rfl ?_
    refine n_icmp_eq eX4_goesRound_26 (by first | omega | exact zlt (hs _) | (have := hO dd; omega) | (have := zway_le (r := mg_s t 4) hhe hdn; have := sNd_le hs p; have h3 := hs 3; unfold sNd at this; (try have := Nat.mul_le_mul h3 (zway_le (r := mg_s t 4) hhe hdn)); omega) | (have := Bool.toNat_lt (zhold (fun k => mg_s t (40 + 2 * k)) (fun k => mg_s t (40 + 2 * k + 1)) (mg_s t 1) p dd); omega)) (by first | omega | exact zlt (hs _) | (have := hO dd; omega) | (have := zway_le (r := mg_s t 4) hhe hdn; have := sNd_le hs p; have h3 := hs 3; unfold sNd at this; (try have := Nat.mul_le_mul h3 (zway_le (r := mg_s t 4) hhe hdn)); omega) | (have := Bool.toNat_lt (zhold (fun k => mg_s t (40 + 2 * k)) (fun k => mg_s t (40 + 2 * k + 1)) (mg_s t 1) p dd); omega)) (fun hc26 => ?_) (fun hc26 => ?_)
    · refine n_iinc (k := 1) eX4_goesRound_101 rfl (by decide) rfl ?_
      refine r_goto eX4_goesRound_104 ?_
      refine ih (dd + 1) mi he O (by omega) ?_ (by omega) (by omega) hO
      rw [zgo, hz, zgs, if_neg]
      simp_all [sHd, zt0]
    · refine r_aload_n eX4_goesRound_29 rfl rfl ?_
      refine r_iload_n eX4_goesRound_30 rfl rfl ?_
      refine r_iload eX4_goesRound_31 rfl ?_
      refine r_callVi2 eX4_goesRound_33 lX4_123 (Or.inl ⟨_, _, _, rfl, rfl, rfl⟩) (s4_holds (t := (mg_re t, mg_s t, mg_im t, mg_rd t, mg_ii t, mg_tp t, mg_tl t, mg_ta t, mg_at t, mg_ou t, O, mg_br t, mg_nw t, mg_fs t, mg_bc t, mg_kr t, mg_rw t, mg_rc t)) (u := u) hs h1 (by omega) (by omega)) (by omega) (Nat.le_of_ble_eq_true rfl) (fun r1 h1 hq => ?_)
      obtain ⟨rfl, rfl⟩ := (show r1 = nI ((zhold (fun k => mg_s t (40 + 2 * k)) (fun k => mg_s t (40 + 2 * k + 1)) (mg_s t 1) p dd).toNat) ∧ h1 = hA (mg_re t, mg_s t, mg_im t, mg_rd t, mg_ii t, mg_tp t, mg_tl t, mg_ta t, mg_at t, mg_ou t, O, mg_br t, mg_nw t, mg_fs t, mg_bc t, mg_kr t, mg_rw t, mg_rc t) u from hq)
      refine n_if_ne eX4_goesRound_36 (by first | omega | exact zlt (hs _) | (have := hO dd; omega) | (have := zway_le (r := mg_s t 4) hhe hdn; have := sNd_le hs p; have h3 := hs 3; unfold sNd at this; (try have := Nat.mul_le_mul h3 (zway_le (r := mg_s t 4) hhe hdn)); omega) | (have := Bool.toNat_lt (zhold (fun k => mg_s t (40 + 2 * k)) (fun k => mg_s t (40 + 2 * k + 1)) (mg_s t 1) p dd); omega)) (fun hc36 => ?_) (fun hc36 => ?_)
      · refine r_iload_n eX4_goesRound_42 rfl rfl ?_
        refine r_aload_n eX4_goesRound_43 rfl rfl ?_
        refine r_iload_n eX4_goesRound_44 rfl rfl ?_
        refine n_iconst 0 eX4_goesRound_45 rfl ?_
        refine r_callVi2 eX4_goesRound_46 lX4_90 (Or.inl ⟨_, _, _, rfl, rfl, rfl⟩) (s4_get (t := (mg_re t, mg_s t, mg_im t, mg_rd t, mg_ii t, mg_tp t, mg_tl t, mg_ta t, mg_at t, mg_ou t, O, mg_br t, mg_nw t, mg_fs t, mg_bc t, mg_kr t, mg_rw t, mg_rc t)) (u := u) (by omega)) (by omega) (Nat.le_of_ble_eq_true rfl) (fun r1 h1 hq => ?_)
        obtain ⟨rfl, rfl⟩ := (show r1 = nI (mg_s t (5 + 5 * p + 0)) ∧ h1 = hA (mg_re t, mg_s t, mg_im t, mg_rd t, mg_ii t, mg_tp t, mg_tl t, mg_ta t, mg_at t, mg_ou t, O, mg_br t, mg_nw t, mg_fs t, mg_bc t, mg_kr t, mg_rw t, mg_rc t) u from hq)
        refine n_iconst 5 eX4_goesRound_49 rfl ?_
        refine n_icmp_ne eX4_goesRound_50 (by first | omega | exact zlt (hs _) | (have := hO dd; omega) | (have := zway_le (r := mg_s t 4) hhe hdn; have := sNd_le hs p; have h3 := hs 3; unfold sNd at this; (try have := Nat.mul_le_mul h3 (zway_le (r := mg_s t 4) hhe hdn)); omega) | (have := Bool.toNat_lt (zhold (fun k => mg_s t (40 + 2 * k)) (fun k => mg_s t (40 + 2 * k + 1)) (mg_s t 1) p dd); omega)) (by first | omega | exact zlt (hs _) | (have := hO dd; omega) | (have := zway_le (r := mg_s t 4) hhe hdn; have := sNd_le hs p; have h3 := hs 3; unfold sNd at this; (try have := Nat.mul_le_mul h3 (zway_le (r := mg_s t 4) hhe hdn)); omega) | (have := Bool.toNat_lt (zhold (fun k => mg_s t (40 + 2 * k)) (fun k => mg_s t (40 + 2 * k + 1)) (mg_s t 1) p dd); omega)) (fun hc50 => ?_) (fun hc50 => ?_)
        · refine r_aload_n eX4_goesRound_57 rfl rfl ?_
          refine r_getf (v := .ref 2) eX4_goesRound_58 fX4_13 rfl rfl ?_
          refine n_iconst 3 eX4_goesRound_61 rfl ?_
          refine n_iald (f := mg_s t) (j := 3) eX4_goesRound_62 rfl rfl (by first | omega | exact zlt (hs _) | (have := hO dd; omega) | (have := zway_le (r := mg_s t 4) hhe hdn; have := sNd_le hs p; have h3 := hs 3; unfold sNd at this; (try have := Nat.mul_le_mul h3 (zway_le (r := mg_s t 4) hhe hdn)); omega) | (have := Bool.toNat_lt (zhold (fun k => mg_s t (40 + 2 * k)) (fun k => mg_s t (40 + 2 * k + 1)) (mg_s t 1) p dd); omega)) (by decide) ?_
          refine r_aload_n eX4_goesRound_63 rfl rfl ?_
          refine r_iload_n eX4_goesRound_64 rfl rfl ?_
          refine r_iload eX4_goesRound_65 rfl ?_
          refine r_callVi2 eX4_goesRound_67 lX4_126 (Or.inl ⟨_, _, _, rfl, rfl, rfl⟩) (s4_wayOf (t := (mg_re t, mg_s t, mg_im t, mg_rd t, mg_ii t, mg_tp t, mg_tl t, mg_ta t, mg_at t, mg_ou t, O, mg_br t, mg_nw t, mg_fs t, mg_bc t, mg_kr t, mg_rw t, mg_rc t)) (u := u) hs h0 hhe hdn) (by omega) (Nat.le_of_ble_eq_true rfl) (fun r1 h1 hq => ?_)
          obtain ⟨rfl, rfl⟩ := (show r1 = nI (zway (mg_s t 4) (mg_s t 0) he dd) ∧ h1 = hA (mg_re t, mg_s t, mg_im t, mg_rd t, mg_ii t, mg_tp t, mg_tl t, mg_ta t, mg_at t, mg_ou t, O, mg_br t, mg_nw t, mg_fs t, mg_bc t, mg_kr t, mg_rw t, mg_rc t) u from hq)
          refine n_mul eX4_goesRound_70 ?_
          refine r_aload_n eX4_goesRound_71 rfl rfl ?_
          refine r_iload_n eX4_goesRound_72 rfl rfl ?_
          refine r_callVi1 eX4_goesRound_73 lX4_100 (Or.inl ⟨_, _, _, rfl, rfl, rfl⟩) (s4_needsOf (t := (mg_re t, mg_s t, mg_im t, mg_rd t, mg_ii t, mg_tp t, mg_tl t, mg_ta t, mg_at t, mg_ou t, O, mg_br t, mg_nw t, mg_fs t, mg_bc t, mg_kr t, mg_rw t, mg_rc t)) (u := u) hs (by omega)) (by omega) (Nat.le_of_ble_eq_true rfl) (fun r1 h1 hq => ?_)
          obtain ⟨rfl, rfl⟩ := (show r1 = nI (zneed (mg_s t (5 + 5 * p + 0)) (mg_s t (5 + 5 * p + 2))) ∧ h1 = hA (mg_re t, mg_s t, mg_im t, mg_rd t, mg_ii t, mg_tp t, mg_tl t, mg_ta t, mg_at t, mg_ou t, O, mg_br t, mg_nw t, mg_fs t, mg_bc t, mg_kr t, mg_rw t, mg_rc t) u from hq)
          refine n_add eX4_goesRound_76 ?_
          refine n_add eX4_goesRound_77 ?_
          refine r_istore_n eX4_goesRound_78 rfl (by decide) ?_
          refine r_iload eX4_goesRound_79 rfl ?_
          refine r_istore_n eX4_goesRound_81 rfl (by decide) ?_
          refine r_iload_n eX4_goesRound_82 rfl rfl ?_
          refine r_aload_n eX4_goesRound_83 rfl rfl ?_
          refine r_getf (v := .ref 8) eX4_goesRound_84 fX4_31 rfl rfl ?_
          refine r_iload eX4_goesRound_87 rfl ?_
          refine n_iald (f := O) (j := dd) eX4_goesRound_89 rfl rfl (by first | omega | exact zlt (hs _) | (have := hO dd; omega) | (have := zway_le (r := mg_s t 4) hhe hdn; have := sNd_le hs p; have h3 := hs 3; unfold sNd at this; (try have := Nat.mul_le_mul h3 (zway_le (r := mg_s t 4) hhe hdn)); omega) | (have := Bool.toNat_lt (zhold (fun k => mg_s t (40 + 2 * k)) (fun k => mg_s t (40 + 2 * k + 1)) (mg_s t 1) p dd); omega)) (by decide) ?_
          refine n_icmp_ge eX4_goesRound_90 (by first | omega | exact zlt (hs _) | (have := hO dd; omega) | (have := zway_le (r := mg_s t 4) hhe hdn; have := sNd_le hs p; have h3 := hs 3; unfold sNd at this; (try have := Nat.mul_le_mul h3 (zway_le (r := mg_s t 4) hhe hdn)); omega) | (have := Bool.toNat_lt (zhold (fun k => mg_s t (40 + 2 * k)) (fun k => mg_s t (40 + 2 * k + 1)) (mg_s t 1) p dd); omega)) (by first | omega | exact zlt (hs _) | (have := hO dd; omega) | (have := zway_le (r := mg_s t 4) hhe hdn; have := sNd_le hs p; have h3 := hs 3; unfold sNd at this; (try have := Nat.mul_le_mul h3 (zway_le (r := mg_s t 4) hhe hdn)); omega) | (have := Bool.toNat_lt (zhold (fun k => mg_s t (40 + 2 * k)) (fun k => mg_s t (40 + 2 * k + 1)) (mg_s t 1) p dd); omega)) (fun hc90 => ?_) (fun hc90 => ?_)
          · refine n_iinc (k := 1) eX4_goesRound_101 rfl (by decide) rfl ?_
            refine r_goto eX4_goesRound_104 ?_
            refine ih (dd + 1) (mi + ((((mg_s t) (3)) * (zway (mg_s t 4) (mg_s t 0) he dd)) + (zneed (mg_s t (5 + 5 * p + 0)) (mg_s t (5 + 5 * p + 2))))) dd (O) (by omega) ?_ (by have := zway_le (r := mg_s t 4) hhe hdn; have := sNd_le hs p; have h3 := hs 3; unfold sNd at this; (try have := Nat.mul_le_mul h3 (zway_le (r := mg_s t 4) hhe hdn)); omega) (by omega) ?_
            · have hh : sHd (mg_s t) p dd = true := by simp_all [sHd, zt1]
              have hpc : sPc (mg_s t) p * sWay (mg_s t) he dd + sNd (mg_s t) p = ((((mg_s t) (3)) * (zway (mg_s t 4) (mg_s t 0) he dd)) + (zneed (mg_s t (5 + 5 * p + 0)) (mg_s t (5 + 5 * p + 2)))) := by simp_all [sPc, sWay, sNd]
              rw [zgo, hz, zgs, if_pos hh]
              dsimp only
              rw [hpc]
              rw [if_neg (by omega)]
            · exact hO
          · refine r_aload_n eX4_goesRound_93 rfl rfl ?_
            refine r_getf (v := .ref 8) eX4_goesRound_94 fX4_31 rfl rfl ?_
            refine r_iload eX4_goesRound_97 rfl ?_
            refine r_iload_n eX4_goesRound_99 rfl rfl ?_
            refine mw_op (j := dd) (v := mi + ((((mg_s t) (3)) * (zway (mg_s t 4) (mg_s t 0) he dd)) + (zneed (mg_s t (5 + 5 * p + 0)) (mg_s t (5 + 5 * p + 2))))) eX4_goesRound_100 rfl rfl (by first | omega | exact zlt (hs _) | (have := hO dd; omega) | (have := zway_le (r := mg_s t 4) hhe hdn; have := sNd_le hs p; have h3 := hs 3; unfold sNd at this; (try have := Nat.mul_le_mul h3 (zway_le (r := mg_s t 4) hhe hdn)); omega) | (have := Bool.toNat_lt (zhold (fun k => mg_s t (40 + 2 * k)) (fun k => mg_s t (40 + 2 * k + 1)) (mg_s t 1) p dd); omega)) ?_
            refine n_iinc (k := 1) eX4_goesRound_101 rfl (by decide) rfl ?_
            refine r_goto eX4_goesRound_104 ?_
            refine ih (dd + 1) (mi + ((((mg_s t) (3)) * (zway (mg_s t 4) (mg_s t 0) he dd)) + (zneed (mg_s t (5 + 5 * p + 0)) (mg_s t (5 + 5 * p + 2))))) dd ((va_up (O) (dd) (mi + ((((mg_s t) (3)) * (zway (mg_s t 4) (mg_s t 0) he dd)) + (zneed (mg_s t (5 + 5 * p + 0)) (mg_s t (5 + 5 * p + 2))))))) (by omega) ?_ (by have := zway_le (r := mg_s t 4) hhe hdn; have := sNd_le hs p; have h3 := hs 3; unfold sNd at this; (try have := Nat.mul_le_mul h3 (zway_le (r := mg_s t 4) hhe hdn)); omega) (by omega) ?_
            · have hh : sHd (mg_s t) p dd = true := by simp_all [sHd, zt1]
              have hpc : sPc (mg_s t) p * sWay (mg_s t) he dd + sNd (mg_s t) p = ((((mg_s t) (3)) * (zway (mg_s t 4) (mg_s t 0) he dd)) + (zneed (mg_s t (5 + 5 * p + 0)) (mg_s t (5 + 5 * p + 2)))) := by simp_all [sPc, sWay, sNd]
              rw [zgo, hz, zgs, if_pos hh]
              dsimp only
              rw [hpc]
              rw [if_pos (by omega)]
            · intro i
              unfold va_up
              split
              · have := hO dd; omega
              · exact hO i
        · refine n_iconst 0 eX4_goesRound_53 rfl ?_
          refine r_goto eX4_goesRound_54 ?_
          refine r_aload_n eX4_goesRound_71 rfl rfl ?_
          refine r_iload_n eX4_goesRound_72 rfl rfl ?_
          refine r_callVi1 eX4_goesRound_73 lX4_100 (Or.inl ⟨_, _, _, rfl, rfl, rfl⟩) (s4_needsOf (t := (mg_re t, mg_s t, mg_im t, mg_rd t, mg_ii t, mg_tp t, mg_tl t, mg_ta t, mg_at t, mg_ou t, O, mg_br t, mg_nw t, mg_fs t, mg_bc t, mg_kr t, mg_rw t, mg_rc t)) (u := u) hs (by omega)) (by omega) (Nat.le_of_ble_eq_true rfl) (fun r1 h1 hq => ?_)
          obtain ⟨rfl, rfl⟩ := (show r1 = nI (zneed (mg_s t (5 + 5 * p + 0)) (mg_s t (5 + 5 * p + 2))) ∧ h1 = hA (mg_re t, mg_s t, mg_im t, mg_rd t, mg_ii t, mg_tp t, mg_tl t, mg_ta t, mg_at t, mg_ou t, O, mg_br t, mg_nw t, mg_fs t, mg_bc t, mg_kr t, mg_rw t, mg_rc t) u from hq)
          refine n_add eX4_goesRound_76 ?_
          refine n_add eX4_goesRound_77 ?_
          refine r_istore_n eX4_goesRound_78 rfl (by decide) ?_
          refine r_iload eX4_goesRound_79 rfl ?_
          refine r_istore_n eX4_goesRound_81 rfl (by decide) ?_
          refine r_iload_n eX4_goesRound_82 rfl rfl ?_
          refine r_aload_n eX4_goesRound_83 rfl rfl ?_
          refine r_getf (v := .ref 8) eX4_goesRound_84 fX4_31 rfl rfl ?_
          refine r_iload eX4_goesRound_87 rfl ?_
          refine n_iald (f := O) (j := dd) eX4_goesRound_89 rfl rfl (by first | omega | exact zlt (hs _) | (have := hO dd; omega) | (have := zway_le (r := mg_s t 4) hhe hdn; have := sNd_le hs p; have h3 := hs 3; unfold sNd at this; (try have := Nat.mul_le_mul h3 (zway_le (r := mg_s t 4) hhe hdn)); omega) | (have := Bool.toNat_lt (zhold (fun k => mg_s t (40 + 2 * k)) (fun k => mg_s t (40 + 2 * k + 1)) (mg_s t 1) p dd); omega)) (by decide) ?_
          refine n_icmp_ge eX4_goesRound_90 (by first | omega | exact zlt (hs _) | (have := hO dd; omega) | (have := zway_le (r := mg_s t 4) hhe hdn; have := sNd_le hs p; have h3 := hs 3; unfold sNd at this; (try have := Nat.mul_le_mul h3 (zway_le (r := mg_s t 4) hhe hdn)); omega) | (have := Bool.toNat_lt (zhold (fun k => mg_s t (40 + 2 * k)) (fun k => mg_s t (40 + 2 * k + 1)) (mg_s t 1) p dd); omega)) (by first | omega | exact zlt (hs _) | (have := hO dd; omega) | (have := zway_le (r := mg_s t 4) hhe hdn; have := sNd_le hs p; have h3 := hs 3; unfold sNd at this; (try have := Nat.mul_le_mul h3 (zway_le (r := mg_s t 4) hhe hdn)); omega) | (have := Bool.toNat_lt (zhold (fun k => mg_s t (40 + 2 * k)) (fun k => mg_s t (40 + 2 * k + 1)) (mg_s t 1) p dd); omega)) (fun hc90 => ?_) (fun hc90 => ?_)
          · refine n_iinc (k := 1) eX4_goesRound_101 rfl (by decide) rfl ?_
            refine r_goto eX4_goesRound_104 ?_
            refine ih (dd + 1) (mi + (0 + (zneed (mg_s t (5 + 5 * p + 0)) (mg_s t (5 + 5 * p + 2))))) dd (O) (by omega) ?_ (by have := zway_le (r := mg_s t 4) hhe hdn; have := sNd_le hs p; have h3 := hs 3; unfold sNd at this; (try have := Nat.mul_le_mul h3 (zway_le (r := mg_s t 4) hhe hdn)); omega) (by omega) ?_
            · have hh : sHd (mg_s t) p dd = true := by simp_all [sHd, zt1]
              have hpc : sPc (mg_s t) p * sWay (mg_s t) he dd + sNd (mg_s t) p = (0 + (zneed (mg_s t (5 + 5 * p + 0)) (mg_s t (5 + 5 * p + 2)))) := by simp_all [sPc, sWay, sNd]
              rw [zgo, hz, zgs, if_pos hh]
              dsimp only
              rw [hpc]
              rw [if_neg (by omega)]
            · exact hO
          · refine r_aload_n eX4_goesRound_93 rfl rfl ?_
            refine r_getf (v := .ref 8) eX4_goesRound_94 fX4_31 rfl rfl ?_
            refine r_iload eX4_goesRound_97 rfl ?_
            refine r_iload_n eX4_goesRound_99 rfl rfl ?_
            refine mw_op (j := dd) (v := mi + (0 + (zneed (mg_s t (5 + 5 * p + 0)) (mg_s t (5 + 5 * p + 2))))) eX4_goesRound_100 rfl rfl (by first | omega | exact zlt (hs _) | (have := hO dd; omega) | (have := zway_le (r := mg_s t 4) hhe hdn; have := sNd_le hs p; have h3 := hs 3; unfold sNd at this; (try have := Nat.mul_le_mul h3 (zway_le (r := mg_s t 4) hhe hdn)); omega) | (have := Bool.toNat_lt (zhold (fun k => mg_s t (40 + 2 * k)) (fun k => mg_s t (40 + 2 * k + 1)) (mg_s t 1) p dd); omega)) ?_
            refine n_iinc (k := 1) eX4_goesRound_101 rfl (by decide) rfl ?_
            refine r_goto eX4_goesRound_104 ?_
            refine ih (dd + 1) (mi + (0 + (zneed (mg_s t (5 + 5 * p + 0)) (mg_s t (5 + 5 * p + 2))))) dd ((va_up (O) (dd) (mi + (0 + (zneed (mg_s t (5 + 5 * p + 0)) (mg_s t (5 + 5 * p + 2))))))) (by omega) ?_ (by have := zway_le (r := mg_s t 4) hhe hdn; have := sNd_le hs p; have h3 := hs 3; unfold sNd at this; (try have := Nat.mul_le_mul h3 (zway_le (r := mg_s t 4) hhe hdn)); omega) (by omega) ?_
            · have hh : sHd (mg_s t) p dd = true := by simp_all [sHd, zt1]
              have hpc : sPc (mg_s t) p * sWay (mg_s t) he dd + sNd (mg_s t) p = (0 + (zneed (mg_s t (5 + 5 * p + 0)) (mg_s t (5 + 5 * p + 2)))) := by simp_all [sPc, sWay, sNd]
              rw [zgo, hz, zgs, if_pos hh]
              dsimp only
              rw [hpc]
              rw [if_pos (by omega)]
            · intro i
              unfold va_up
              split
              · have := hO dd; omega
              · exact hO i
      · refine r_goto eX4_goesRound_39 ?_
        refine n_iinc (k := 1) eX4_goesRound_101 rfl (by decide) rfl ?_
        refine r_goto eX4_goesRound_104 ?_
        refine ih (dd + 1) mi he O (by omega) ?_ (by omega) (by omega) hO
        rw [zgo, hz, zgs, if_neg]
        simp_all [sHd, zt0]
set_option maxHeartbeats 1000000 in
set_option maxRecDepth 100000 in
theorem s4_goesRound {t : zMod} {u : zCls} (hs : ∀ i, mg_s t i ≤ 1000) (h0 : mg_s t 0 ≤ 7) (h1 : mg_s t 1 ≤ 12) {p : Nat} (hp : p < mg_s t 0) (hm : mg_ou t p ≤ 1000000) (hop : ∀ i, mg_op t i ≤ 1000000) : Mv mX4_goesRound 3 [.ref 0, .int (nI (p))] (hA t u) (fun h' => h' = hA (mg_re t, mg_s t, mg_im t, mg_rd t, mg_ii t, mg_tp t, mg_tl t, mg_ta t, mg_at t, mg_ou t, (zgo (sWay (mg_s t)) (sNd (mg_s t) p) (sPc (mg_s t) p) (sHd (mg_s t) p) (mg_ou t p) p (mg_op t) (mg_s t 0)).2.2, mg_br t, mg_nw t, mg_fs t, mg_bc t, mg_kr t, mg_rw t, mg_rc t) u) := by
  refine Mv.of (by decide) rfl rfl (Nat.le_of_ble_eq_true rfl) ?_
  refine r_aload_n eX4_goesRound_0 rfl rfl ?_
  refine r_getf (v := .ref 7) eX4_goesRound_1 fX4_28 rfl rfl ?_
  refine r_iload_n eX4_goesRound_4 rfl rfl ?_
  refine n_iald (f := mg_ou t) (j := p) eX4_goesRound_5 rfl rfl (by omega) (by decide) ?_
  refine r_istore_n eX4_goesRound_6 rfl (by decide) ?_
  refine r_iload_n eX4_goesRound_7 rfl rfl ?_
  refine r_istore_n eX4_goesRound_8 rfl (by decide) ?_
  refine n_iconst 0 eX4_goesRound_9 rfl ?_
  refine r_istore eX4_goesRound_10 (by decide) ?_
  refine s4_goesRound_l hs h0 h1 hp hm hop ?_ (mg_s t 0) 0 (mg_ou t p) p (mg_op t) (by omega) rfl (by omega) hp hop
  exact z_vret eX4_goesRound_107 ⟨rfl, rfl⟩
theorem zb1 {g p : Nat} (h : g / 2 ^ p &&& 1 = 1) : g.testBit p = true := by rw [zbit] at h; exact zt1 (by omega)
theorem zb0 {g p : Nat} (h : ¬ (g / 2 ^ p &&& 1 = 1)) : g.testBit p = false := by
  rw [zbit] at h
  cases hb : g.testBit p with
  | false => rfl
  | true => rw [hb] at h; exact absurd rfl h
theorem zb0' {g p : Nat} (h : g / 2 ^ p &&& 1 = 0) : g.testBit p = false := by rw [zbit] at h; exact zt0 h
theorem zb1' {g p : Nat} (h : 0 < g / 2 ^ p &&& 1) : g.testBit p = true := by rw [zbit] at h; exact zt1 h
theorem zb2 (g p : Nat) : g / 2 ^ p &&& 1 < 2 := by rw [zbit]; exact Bool.toNat_lt _
set_option maxHeartbeats 1000000 in
set_option maxRecDepth 100000 in
theorem s4_outBy {t : zMod} {u : zCls} (hs : ∀ i, mg_s t i ≤ 1000) {p : Nat} (h0 : mg_s t 0 ≤ 7) (hp : p < 7) (hnw : mg_nw t < 2) (hop : ∀ i, mg_op t i ≤ 1000000) : Mi mX4_outBy 3 [.ref 0, .int (nI (p))] (hA t u) (fun r h' => r = nI (sCand (mg_s t) (mg_nw t) (mg_op t) p) ∧ h' = hA t u) := by
  refine Mi.of (by decide) rfl (Nat.le_of_ble_eq_true rfl) ?_
  refine r_aload_n eX4_outBy_0 rfl rfl ?_
  refine r_getf (v := .ref 2) eX4_outBy_1 fX4_13 rfl rfl ?_
  refine n_iconst 2 eX4_outBy_4 rfl ?_
  refine n_iald (f := mg_s t) (j := 2) eX4_outBy_5 rfl rfl (by first | omega | exact zlt (hs _) | (have := zb2 (mg_s t 2) p; omega) | (have := hop p; omega) | (have := sUp_le hs p; unfold sUp at this; omega) | (have := hs (5 + 5 * p + 1); omega)) (by decide) ?_
  refine r_iload_n eX4_outBy_6 rfl rfl ?_
  refine n_shr eX4_outBy_7 (by first | omega | exact zlt (hs _) | (have := zb2 (mg_s t 2) p; omega) | (have := hop p; omega) | (have := sUp_le hs p; unfold sUp at this; omega) | (have := hs (5 + 5 * p + 1); omega)) (by first | omega | exact zlt (hs _) | (have := zb2 (mg_s t 2) p; omega) | (have := hop p; omega) | (have := sUp_le hs p; unfold sUp at this; omega) | (have := hs (5 + 5 * p + 1); omega)) ?_
  refine n_iconst 1 eX4_outBy_8 rfl ?_
  refine n_and eX4_outBy_9 ?_
  refine n_iconst 1 eX4_outBy_10 rfl ?_
  refine n_icmp_ne eX4_outBy_11 (by first | omega | exact zlt (hs _) | (have := zb2 (mg_s t 2) p; omega) | (have := hop p; omega) | (have := sUp_le hs p; unfold sUp at this; omega) | (have := hs (5 + 5 * p + 1); omega)) (by first | omega | exact zlt (hs _) | (have := zb2 (mg_s t 2) p; omega) | (have := hop p; omega) | (have := sUp_le hs p; unfold sUp at this; omega) | (have := hs (5 + 5 * p + 1); omega)) (fun hc11 => ?_) (fun hc11 => ?_)
  · refine r_aload_n eX4_outBy_16 rfl rfl ?_
    refine r_getf (v := .ref 8) eX4_outBy_17 fX4_31 rfl rfl ?_
    refine r_iload_n eX4_outBy_20 rfl rfl ?_
    refine n_iald (f := mg_op t) (j := p) eX4_outBy_21 rfl rfl (by first | omega | exact zlt (hs _) | (have := zb2 (mg_s t 2) p; omega) | (have := hop p; omega) | (have := sUp_le hs p; unfold sUp at this; omega) | (have := hs (5 + 5 * p + 1); omega)) (by decide) ?_
    refine r_aload_n eX4_outBy_22 rfl rfl ?_
    refine r_iload_n eX4_outBy_23 rfl rfl ?_
    refine r_callVi1 eX4_outBy_24 lX4_97 (Or.inl ⟨_, _, _, rfl, rfl, rfl⟩) (s4_upOf (t := t) (u := u) hs (by omega)) (by omega) (Nat.le_of_ble_eq_true rfl) (fun r1 h1 hq => ?_)
    obtain ⟨rfl, rfl⟩ := (show r1 = nI (zup (mg_s t (5 + 5 * p + 0)) (mg_s t (5 + 5 * p + 1))) ∧ h1 = hA t u from hq)
    refine n_icmp_gt eX4_outBy_27 (by first | omega | exact zlt (hs _) | (have := zb2 (mg_s t 2) p; omega) | (have := hop p; omega) | (have := sUp_le hs p; unfold sUp at this; omega) | (have := hs (5 + 5 * p + 1); omega)) (by first | omega | exact zlt (hs _) | (have := zb2 (mg_s t 2) p; omega) | (have := hop p; omega) | (have := sUp_le hs p; unfold sUp at this; omega) | (have := hs (5 + 5 * p + 1); omega)) (fun hc27 => ?_) (fun hc27 => ?_)
    · refine r_aload_n eX4_outBy_41 rfl rfl ?_
      refine r_getf (v := .ref 8) eX4_outBy_42 fX4_31 rfl rfl ?_
      refine r_iload_n eX4_outBy_45 rfl rfl ?_
      refine n_iald (f := mg_op t) (j := p) eX4_outBy_46 rfl rfl (by first | omega | exact zlt (hs _) | (have := zb2 (mg_s t 2) p; omega) | (have := hop p; omega) | (have := sUp_le hs p; unfold sUp at this; omega) | (have := hs (5 + 5 * p + 1); omega)) (by decide) ?_
      refine r_goto eX4_outBy_47 ?_
      refine r_istore_n eX4_outBy_55 rfl (by decide) ?_
      refine r_aload_n eX4_outBy_56 rfl rfl ?_
      refine r_iload_n eX4_outBy_57 rfl rfl ?_
      refine n_iconst 0 eX4_outBy_58 rfl ?_
      refine r_callVi2 eX4_outBy_59 lX4_90 (Or.inl ⟨_, _, _, rfl, rfl, rfl⟩) (s4_get (t := t) (u := u) (by omega)) (by omega) (Nat.le_of_ble_eq_true rfl) (fun r1 h1 hq => ?_)
      obtain ⟨rfl, rfl⟩ := (show r1 = nI (mg_s t (5 + 5 * p + 0)) ∧ h1 = hA t u from hq)
      refine n_iconst 3 eX4_outBy_62 rfl ?_
      refine n_icmp_ne eX4_outBy_63 (by first | omega | exact zlt (hs _) | (have := zb2 (mg_s t 2) p; omega) | (have := hop p; omega) | (have := sUp_le hs p; unfold sUp at this; omega) | (have := hs (5 + 5 * p + 1); omega)) (by first | omega | exact zlt (hs _) | (have := zb2 (mg_s t 2) p; omega) | (have := hop p; omega) | (have := sUp_le hs p; unfold sUp at this; omega) | (have := hs (5 + 5 * p + 1); omega)) (fun hc63 => ?_) (fun hc63 => ?_)
      · refine n_ldc 1000000 eX4_outBy_85 kX4_129 rfl ?_
        refine r_istore_n eX4_outBy_87 rfl (by decide) ?_
        refine r_iload_n eX4_outBy_88 rfl rfl ?_
        refine r_iload_n eX4_outBy_89 rfl rfl ?_
        refine n_icmp_ge eX4_outBy_90 (by first | omega | exact zlt (hs _) | (have := zb2 (mg_s t 2) p; omega) | (have := hop p; omega) | (have := sUp_le hs p; unfold sUp at this; omega) | (have := hs (5 + 5 * p + 1); omega)) (by first | omega | exact zlt (hs _) | (have := zb2 (mg_s t 2) p; omega) | (have := hop p; omega) | (have := sUp_le hs p; unfold sUp at this; omega) | (have := hs (5 + 5 * p + 1); omega)) (fun hc90 => ?_) (fun hc90 => ?_)
        · refine r_iload_n eX4_outBy_97 rfl rfl ?_
          refine z_iret eX4_outBy_98 rfl rfl ⟨_, rfl, congrArg nI ?_, rfl⟩
          have hup := sUp_le hs p
          have hop1 := hop p
          first
            | rw [sCand, zcand, if_pos (zb1 hc11)]
            | (rw [sCand, zcand, if_neg (by rw [zb0 hc11]; decide)]; unfold sWin; unfold sUp at hup ⊢; split <;> omega)
        · refine r_iload_n eX4_outBy_93 rfl rfl ?_
          refine r_goto eX4_outBy_94 ?_
          refine z_iret eX4_outBy_98 rfl rfl ⟨_, rfl, congrArg nI ?_, rfl⟩
          have hup := sUp_le hs p
          have hop1 := hop p
          first
            | rw [sCand, zcand, if_pos (zb1 hc11)]
            | (rw [sCand, zcand, if_neg (by rw [zb0 hc11]; decide)]; unfold sWin; unfold sUp at hup ⊢; split <;> omega)
      · refine r_aload_n eX4_outBy_66 rfl rfl ?_
        refine r_getf (v := .int (nI (mg_nw t))) eX4_outBy_67 fX4_130 rfl rfl ?_
        refine n_if_ne eX4_outBy_70 (by first | omega | exact zlt (hs _) | (have := zb2 (mg_s t 2) p; omega) | (have := hop p; omega) | (have := sUp_le hs p; unfold sUp at this; omega) | (have := hs (5 + 5 * p + 1); omega)) (fun hc70 => ?_) (fun hc70 => ?_)
        · refine n_ldc 1000000 eX4_outBy_85 kX4_129 rfl ?_
          refine r_istore_n eX4_outBy_87 rfl (by decide) ?_
          refine r_iload_n eX4_outBy_88 rfl rfl ?_
          refine r_iload_n eX4_outBy_89 rfl rfl ?_
          refine n_icmp_ge eX4_outBy_90 (by first | omega | exact zlt (hs _) | (have := zb2 (mg_s t 2) p; omega) | (have := hop p; omega) | (have := sUp_le hs p; unfold sUp at this; omega) | (have := hs (5 + 5 * p + 1); omega)) (by first | omega | exact zlt (hs _) | (have := zb2 (mg_s t 2) p; omega) | (have := hop p; omega) | (have := sUp_le hs p; unfold sUp at this; omega) | (have := hs (5 + 5 * p + 1); omega)) (fun hc90 => ?_) (fun hc90 => ?_)
          · refine r_iload_n eX4_outBy_97 rfl rfl ?_
            refine z_iret eX4_outBy_98 rfl rfl ⟨_, rfl, congrArg nI ?_, rfl⟩
            have hup := sUp_le hs p
            have hop1 := hop p
            first
              | rw [sCand, zcand, if_pos (zb1 hc11)]
              | (rw [sCand, zcand, if_neg (by rw [zb0 hc11]; decide)]; unfold sWin; unfold sUp at hup ⊢; split <;> omega)
          · refine r_iload_n eX4_outBy_93 rfl rfl ?_
            refine r_goto eX4_outBy_94 ?_
            refine z_iret eX4_outBy_98 rfl rfl ⟨_, rfl, congrArg nI ?_, rfl⟩
            have hup := sUp_le hs p
            have hop1 := hop p
            first
              | rw [sCand, zcand, if_pos (zb1 hc11)]
              | (rw [sCand, zcand, if_neg (by rw [zb0 hc11]; decide)]; unfold sWin; unfold sUp at hup ⊢; split <;> omega)
        · refine n_bipush 60 eX4_outBy_73 rfl ?_
          refine r_aload_n eX4_outBy_75 rfl rfl ?_
          refine r_iload_n eX4_outBy_76 rfl rfl ?_
          refine n_iconst 1 eX4_outBy_77 rfl ?_
          refine r_callVi2 eX4_outBy_78 lX4_90 (Or.inl ⟨_, _, _, rfl, rfl, rfl⟩) (s4_get (t := t) (u := u) (by omega)) (by omega) (Nat.le_of_ble_eq_true rfl) (fun r1 h1 hq => ?_)
          obtain ⟨rfl, rfl⟩ := (show r1 = nI (mg_s t (5 + 5 * p + 1)) ∧ h1 = hA t u from hq)
          refine n_add eX4_outBy_81 ?_
          refine r_goto eX4_outBy_82 ?_
          refine r_istore_n eX4_outBy_87 rfl (by decide) ?_
          refine r_iload_n eX4_outBy_88 rfl rfl ?_
          refine r_iload_n eX4_outBy_89 rfl rfl ?_
          refine n_icmp_ge eX4_outBy_90 (by first | omega | exact zlt (hs _) | (have := zb2 (mg_s t 2) p; omega) | (have := hop p; omega) | (have := sUp_le hs p; unfold sUp at this; omega) | (have := hs (5 + 5 * p + 1); omega)) (by first | omega | exact zlt (hs _) | (have := zb2 (mg_s t 2) p; omega) | (have := hop p; omega) | (have := sUp_le hs p; unfold sUp at this; omega) | (have := hs (5 + 5 * p + 1); omega)) (fun hc90 => ?_) (fun hc90 => ?_)
          · refine r_iload_n eX4_outBy_97 rfl rfl ?_
            refine z_iret eX4_outBy_98 rfl rfl ⟨_, rfl, congrArg nI ?_, rfl⟩
            have hup := sUp_le hs p
            have hop1 := hop p
            first
              | rw [sCand, zcand, if_pos (zb1 hc11)]
              | (rw [sCand, zcand, if_neg (by rw [zb0 hc11]; decide)]; unfold sWin; unfold sUp at hup ⊢; split <;> omega)
          · refine r_iload_n eX4_outBy_93 rfl rfl ?_
            refine r_goto eX4_outBy_94 ?_
            refine z_iret eX4_outBy_98 rfl rfl ⟨_, rfl, congrArg nI ?_, rfl⟩
            have hup := sUp_le hs p
            have hop1 := hop p
            first
              | rw [sCand, zcand, if_pos (zb1 hc11)]
              | (rw [sCand, zcand, if_neg (by rw [zb0 hc11]; decide)]; unfold sWin; unfold sUp at hup ⊢; split <;> omega)
    · refine r_aload_n eX4_outBy_30 rfl rfl ?_
      refine r_getf (v := .ref 8) eX4_outBy_31 fX4_31 rfl rfl ?_
      refine r_iload_n eX4_outBy_34 rfl rfl ?_
      refine n_iald (f := mg_op t) (j := p) eX4_outBy_35 rfl rfl (by first | omega | exact zlt (hs _) | (have := zb2 (mg_s t 2) p; omega) | (have := hop p; omega) | (have := sUp_le hs p; unfold sUp at this; omega) | (have := hs (5 + 5 * p + 1); omega)) (by decide) ?_
      refine n_ldc 1000000 eX4_outBy_36 kX4_129 rfl ?_
      refine n_icmp_ne eX4_outBy_38 (by first | omega | exact zlt (hs _) | (have := zb2 (mg_s t 2) p; omega) | (have := hop p; omega) | (have := sUp_le hs p; unfold sUp at this; omega) | (have := hs (5 + 5 * p + 1); omega)) (by first | omega | exact zlt (hs _) | (have := zb2 (mg_s t 2) p; omega) | (have := hop p; omega) | (have := sUp_le hs p; unfold sUp at this; omega) | (have := hs (5 + 5 * p + 1); omega)) (fun hc38 => ?_) (fun hc38 => ?_)
      · refine r_aload_n eX4_outBy_50 rfl rfl ?_
        refine r_iload_n eX4_outBy_51 rfl rfl ?_
        refine r_callVi1 eX4_outBy_52 lX4_97 (Or.inl ⟨_, _, _, rfl, rfl, rfl⟩) (s4_upOf (t := t) (u := u) hs (by omega)) (by omega) (Nat.le_of_ble_eq_true rfl) (fun r1 h1 hq => ?_)
        obtain ⟨rfl, rfl⟩ := (show r1 = nI (zup (mg_s t (5 + 5 * p + 0)) (mg_s t (5 + 5 * p + 1))) ∧ h1 = hA t u from hq)
        refine r_istore_n eX4_outBy_55 rfl (by decide) ?_
        refine r_aload_n eX4_outBy_56 rfl rfl ?_
        refine r_iload_n eX4_outBy_57 rfl rfl ?_
        refine n_iconst 0 eX4_outBy_58 rfl ?_
        refine r_callVi2 eX4_outBy_59 lX4_90 (Or.inl ⟨_, _, _, rfl, rfl, rfl⟩) (s4_get (t := t) (u := u) (by omega)) (by omega) (Nat.le_of_ble_eq_true rfl) (fun r1 h1 hq => ?_)
        obtain ⟨rfl, rfl⟩ := (show r1 = nI (mg_s t (5 + 5 * p + 0)) ∧ h1 = hA t u from hq)
        refine n_iconst 3 eX4_outBy_62 rfl ?_
        refine n_icmp_ne eX4_outBy_63 (by first | omega | exact zlt (hs _) | (have := zb2 (mg_s t 2) p; omega) | (have := hop p; omega) | (have := sUp_le hs p; unfold sUp at this; omega) | (have := hs (5 + 5 * p + 1); omega)) (by first | omega | exact zlt (hs _) | (have := zb2 (mg_s t 2) p; omega) | (have := hop p; omega) | (have := sUp_le hs p; unfold sUp at this; omega) | (have := hs (5 + 5 * p + 1); omega)) (fun hc63 => ?_) (fun hc63 => ?_)
        · refine n_ldc 1000000 eX4_outBy_85 kX4_129 rfl ?_
          refine r_istore_n eX4_outBy_87 rfl (by decide) ?_
          refine r_iload_n eX4_outBy_88 rfl rfl ?_
          refine r_iload_n eX4_outBy_89 rfl rfl ?_
          refine n_icmp_ge eX4_outBy_90 (by first | omega | exact zlt (hs _) | (have := zb2 (mg_s t 2) p; omega) | (have := hop p; omega) | (have := sUp_le hs p; unfold sUp at this; omega) | (have := hs (5 + 5 * p + 1); omega)) (by first | omega | exact zlt (hs _) | (have := zb2 (mg_s t 2) p; omega) | (have := hop p; omega) | (have := sUp_le hs p; unfold sUp at this; omega) | (have := hs (5 + 5 * p + 1); omega)) (fun hc90 => ?_) (fun hc90 => ?_)
          · refine r_iload_n eX4_outBy_97 rfl rfl ?_
            refine z_iret eX4_outBy_98 rfl rfl ⟨_, rfl, congrArg nI ?_, rfl⟩
            have hup := sUp_le hs p
            have hop1 := hop p
            first
              | rw [sCand, zcand, if_pos (zb1 hc11)]
              | (rw [sCand, zcand, if_neg (by rw [zb0 hc11]; decide)]; unfold sWin; unfold sUp at hup ⊢; split <;> omega)
          · refine r_iload_n eX4_outBy_93 rfl rfl ?_
            refine r_goto eX4_outBy_94 ?_
            refine z_iret eX4_outBy_98 rfl rfl ⟨_, rfl, congrArg nI ?_, rfl⟩
            have hup := sUp_le hs p
            have hop1 := hop p
            first
              | rw [sCand, zcand, if_pos (zb1 hc11)]
              | (rw [sCand, zcand, if_neg (by rw [zb0 hc11]; decide)]; unfold sWin; unfold sUp at hup ⊢; split <;> omega)
        · refine r_aload_n eX4_outBy_66 rfl rfl ?_
          refine r_getf (v := .int (nI (mg_nw t))) eX4_outBy_67 fX4_130 rfl rfl ?_
          refine n_if_ne eX4_outBy_70 (by first | omega | exact zlt (hs _) | (have := zb2 (mg_s t 2) p; omega) | (have := hop p; omega) | (have := sUp_le hs p; unfold sUp at this; omega) | (have := hs (5 + 5 * p + 1); omega)) (fun hc70 => ?_) (fun hc70 => ?_)
          · refine n_ldc 1000000 eX4_outBy_85 kX4_129 rfl ?_
            refine r_istore_n eX4_outBy_87 rfl (by decide) ?_
            refine r_iload_n eX4_outBy_88 rfl rfl ?_
            refine r_iload_n eX4_outBy_89 rfl rfl ?_
            refine n_icmp_ge eX4_outBy_90 (by first | omega | exact zlt (hs _) | (have := zb2 (mg_s t 2) p; omega) | (have := hop p; omega) | (have := sUp_le hs p; unfold sUp at this; omega) | (have := hs (5 + 5 * p + 1); omega)) (by first | omega | exact zlt (hs _) | (have := zb2 (mg_s t 2) p; omega) | (have := hop p; omega) | (have := sUp_le hs p; unfold sUp at this; omega) | (have := hs (5 + 5 * p + 1); omega)) (fun hc90 => ?_) (fun hc90 => ?_)
            · refine r_iload_n eX4_outBy_97 rfl rfl ?_
              refine z_iret eX4_outBy_98 rfl rfl ⟨_, rfl, congrArg nI ?_, rfl⟩
              have hup := sUp_le hs p
              have hop1 := hop p
              first
                | rw [sCand, zcand, if_pos (zb1 hc11)]
                | (rw [sCand, zcand, if_neg (by rw [zb0 hc11]; decide)]; unfold sWin; unfold sUp at hup ⊢; split <;> omega)
            · refine r_iload_n eX4_outBy_93 rfl rfl ?_
              refine r_goto eX4_outBy_94 ?_
              refine z_iret eX4_outBy_98 rfl rfl ⟨_, rfl, congrArg nI ?_, rfl⟩
              have hup := sUp_le hs p
              have hop1 := hop p
              first
                | rw [sCand, zcand, if_pos (zb1 hc11)]
                | (rw [sCand, zcand, if_neg (by rw [zb0 hc11]; decide)]; unfold sWin; unfold sUp at hup ⊢; split <;> omega)
          · refine n_bipush 60 eX4_outBy_73 rfl ?_
            refine r_aload_n eX4_outBy_75 rfl rfl ?_
            refine r_iload_n eX4_outBy_76 rfl rfl ?_
            refine n_iconst 1 eX4_outBy_77 rfl ?_
            refine r_callVi2 eX4_outBy_78 lX4_90 (Or.inl ⟨_, _, _, rfl, rfl, rfl⟩) (s4_get (t := t) (u := u) (by omega)) (by omega) (Nat.le_of_ble_eq_true rfl) (fun r1 h1 hq => ?_)
            obtain ⟨rfl, rfl⟩ := (show r1 = nI (mg_s t (5 + 5 * p + 1)) ∧ h1 = hA t u from hq)
            refine n_add eX4_outBy_81 ?_
            refine r_goto eX4_outBy_82 ?_
            refine r_istore_n eX4_outBy_87 rfl (by decide) ?_
            refine r_iload_n eX4_outBy_88 rfl rfl ?_
            refine r_iload_n eX4_outBy_89 rfl rfl ?_
            refine n_icmp_ge eX4_outBy_90 (by first | omega | exact zlt (hs _) | (have := zb2 (mg_s t 2) p; omega) | (have := hop p; omega) | (have := sUp_le hs p; unfold sUp at this; omega) | (have := hs (5 + 5 * p + 1); omega)) (by first | omega | exact zlt (hs _) | (have := zb2 (mg_s t 2) p; omega) | (have := hop p; omega) | (have := sUp_le hs p; unfold sUp at this; omega) | (have := hs (5 + 5 * p + 1); omega)) (fun hc90 => ?_) (fun hc90 => ?_)
            · refine r_iload_n eX4_outBy_97 rfl rfl ?_
              refine z_iret eX4_outBy_98 rfl rfl ⟨_, rfl, congrArg nI ?_, rfl⟩
              have hup := sUp_le hs p
              have hop1 := hop p
              first
                | rw [sCand, zcand, if_pos (zb1 hc11)]
                | (rw [sCand, zcand, if_neg (by rw [zb0 hc11]; decide)]; unfold sWin; unfold sUp at hup ⊢; split <;> omega)
            · refine r_iload_n eX4_outBy_93 rfl rfl ?_
              refine r_goto eX4_outBy_94 ?_
              refine z_iret eX4_outBy_98 rfl rfl ⟨_, rfl, congrArg nI ?_, rfl⟩
              have hup := sUp_le hs p
              have hop1 := hop p
              first
                | rw [sCand, zcand, if_pos (zb1 hc11)]
                | (rw [sCand, zcand, if_neg (by rw [zb0 hc11]; decide)]; unfold sWin; unfold sUp at hup ⊢; split <;> omega)
      · refine r_aload_n eX4_outBy_41 rfl rfl ?_
        refine r_getf (v := .ref 8) eX4_outBy_42 fX4_31 rfl rfl ?_
        refine r_iload_n eX4_outBy_45 rfl rfl ?_
        refine n_iald (f := mg_op t) (j := p) eX4_outBy_46 rfl rfl (by first | omega | exact zlt (hs _) | (have := zb2 (mg_s t 2) p; omega) | (have := hop p; omega) | (have := sUp_le hs p; unfold sUp at this; omega) | (have := hs (5 + 5 * p + 1); omega)) (by decide) ?_
        refine r_goto eX4_outBy_47 ?_
        refine r_istore_n eX4_outBy_55 rfl (by decide) ?_
        refine r_aload_n eX4_outBy_56 rfl rfl ?_
        refine r_iload_n eX4_outBy_57 rfl rfl ?_
        refine n_iconst 0 eX4_outBy_58 rfl ?_
        refine r_callVi2 eX4_outBy_59 lX4_90 (Or.inl ⟨_, _, _, rfl, rfl, rfl⟩) (s4_get (t := t) (u := u) (by omega)) (by omega) (Nat.le_of_ble_eq_true rfl) (fun r1 h1 hq => ?_)
        obtain ⟨rfl, rfl⟩ := (show r1 = nI (mg_s t (5 + 5 * p + 0)) ∧ h1 = hA t u from hq)
        refine n_iconst 3 eX4_outBy_62 rfl ?_
        refine n_icmp_ne eX4_outBy_63 (by first | omega | exact zlt (hs _) | (have := zb2 (mg_s t 2) p; omega) | (have := hop p; omega) | (have := sUp_le hs p; unfold sUp at this; omega) | (have := hs (5 + 5 * p + 1); omega)) (by first | omega | exact zlt (hs _) | (have := zb2 (mg_s t 2) p; omega) | (have := hop p; omega) | (have := sUp_le hs p; unfold sUp at this; omega) | (have := hs (5 + 5 * p + 1); omega)) (fun hc63 => ?_) (fun hc63 => ?_)
        · refine n_ldc 1000000 eX4_outBy_85 kX4_129 rfl ?_
          refine r_istore_n eX4_outBy_87 rfl (by decide) ?_
          refine r_iload_n eX4_outBy_88 rfl rfl ?_
          refine r_iload_n eX4_outBy_89 rfl rfl ?_
          refine n_icmp_ge eX4_outBy_90 (by first | omega | exact zlt (hs _) | (have := zb2 (mg_s t 2) p; omega) | (have := hop p; omega) | (have := sUp_le hs p; unfold sUp at this; omega) | (have := hs (5 + 5 * p + 1); omega)) (by first | omega | exact zlt (hs _) | (have := zb2 (mg_s t 2) p; omega) | (have := hop p; omega) | (have := sUp_le hs p; unfold sUp at this; omega) | (have := hs (5 + 5 * p + 1); omega)) (fun hc90 => ?_) (fun hc90 => ?_)
          · refine r_iload_n eX4_outBy_97 rfl rfl ?_
            refine z_iret eX4_outBy_98 rfl rfl ⟨_, rfl, congrArg nI ?_, rfl⟩
            have hup := sUp_le hs p
            have hop1 := hop p
            first
              | rw [sCand, zcand, if_pos (zb1 hc11)]
              | (rw [sCand, zcand, if_neg (by rw [zb0 hc11]; decide)]; unfold sWin; unfold sUp at hup ⊢; split <;> omega)
          · refine r_iload_n eX4_outBy_93 rfl rfl ?_
            refine r_goto eX4_outBy_94 ?_
            refine z_iret eX4_outBy_98 rfl rfl ⟨_, rfl, congrArg nI ?_, rfl⟩
            have hup := sUp_le hs p
            have hop1 := hop p
            first
              | rw [sCand, zcand, if_pos (zb1 hc11)]
              | (rw [sCand, zcand, if_neg (by rw [zb0 hc11]; decide)]; unfold sWin; unfold sUp at hup ⊢; split <;> omega)
        · refine r_aload_n eX4_outBy_66 rfl rfl ?_
          refine r_getf (v := .int (nI (mg_nw t))) eX4_outBy_67 fX4_130 rfl rfl ?_
          refine n_if_ne eX4_outBy_70 (by first | omega | exact zlt (hs _) | (have := zb2 (mg_s t 2) p; omega) | (have := hop p; omega) | (have := sUp_le hs p; unfold sUp at this; omega) | (have := hs (5 + 5 * p + 1); omega)) (fun hc70 => ?_) (fun hc70 => ?_)
          · refine n_ldc 1000000 eX4_outBy_85 kX4_129 rfl ?_
            refine r_istore_n eX4_outBy_87 rfl (by decide) ?_
            refine r_iload_n eX4_outBy_88 rfl rfl ?_
            refine r_iload_n eX4_outBy_89 rfl rfl ?_
            refine n_icmp_ge eX4_outBy_90 (by first | omega | exact zlt (hs _) | (have := zb2 (mg_s t 2) p; omega) | (have := hop p; omega) | (have := sUp_le hs p; unfold sUp at this; omega) | (have := hs (5 + 5 * p + 1); omega)) (by first | omega | exact zlt (hs _) | (have := zb2 (mg_s t 2) p; omega) | (have := hop p; omega) | (have := sUp_le hs p; unfold sUp at this; omega) | (have := hs (5 + 5 * p + 1); omega)) (fun hc90 => ?_) (fun hc90 => ?_)
            · refine r_iload_n eX4_outBy_97 rfl rfl ?_
              refine z_iret eX4_outBy_98 rfl rfl ⟨_, rfl, congrArg nI ?_, rfl⟩
              have hup := sUp_le hs p
              have hop1 := hop p
              first
                | rw [sCand, zcand, if_pos (zb1 hc11)]
                | (rw [sCand, zcand, if_neg (by rw [zb0 hc11]; decide)]; unfold sWin; unfold sUp at hup ⊢; split <;> omega)
            · refine r_iload_n eX4_outBy_93 rfl rfl ?_
              refine r_goto eX4_outBy_94 ?_
              refine z_iret eX4_outBy_98 rfl rfl ⟨_, rfl, congrArg nI ?_, rfl⟩
              have hup := sUp_le hs p
              have hop1 := hop p
              first
                | rw [sCand, zcand, if_pos (zb1 hc11)]
                | (rw [sCand, zcand, if_neg (by rw [zb0 hc11]; decide)]; unfold sWin; unfold sUp at hup ⊢; split <;> omega)
          · refine n_bipush 60 eX4_outBy_73 rfl ?_
            refine r_aload_n eX4_outBy_75 rfl rfl ?_
            refine r_iload_n eX4_outBy_76 rfl rfl ?_
            refine n_iconst 1 eX4_outBy_77 rfl ?_
            refine r_callVi2 eX4_outBy_78 lX4_90 (Or.inl ⟨_, _, _, rfl, rfl, rfl⟩) (s4_get (t := t) (u := u) (by omega)) (by omega) (Nat.le_of_ble_eq_true rfl) (fun r1 h1 hq => ?_)
            obtain ⟨rfl, rfl⟩ := (show r1 = nI (mg_s t (5 + 5 * p + 1)) ∧ h1 = hA t u from hq)
            refine n_add eX4_outBy_81 ?_
            refine r_goto eX4_outBy_82 ?_
            refine r_istore_n eX4_outBy_87 rfl (by decide) ?_
            refine r_iload_n eX4_outBy_88 rfl rfl ?_
            refine r_iload_n eX4_outBy_89 rfl rfl ?_
            refine n_icmp_ge eX4_outBy_90 (by first | omega | exact zlt (hs _) | (have := zb2 (mg_s t 2) p; omega) | (have := hop p; omega) | (have := sUp_le hs p; unfold sUp at this; omega) | (have := hs (5 + 5 * p + 1); omega)) (by first | omega | exact zlt (hs _) | (have := zb2 (mg_s t 2) p; omega) | (have := hop p; omega) | (have := sUp_le hs p; unfold sUp at this; omega) | (have := hs (5 + 5 * p + 1); omega)) (fun hc90 => ?_) (fun hc90 => ?_)
            · refine r_iload_n eX4_outBy_97 rfl rfl ?_
              refine z_iret eX4_outBy_98 rfl rfl ⟨_, rfl, congrArg nI ?_, rfl⟩
              have hup := sUp_le hs p
              have hop1 := hop p
              first
                | rw [sCand, zcand, if_pos (zb1 hc11)]
                | (rw [sCand, zcand, if_neg (by rw [zb0 hc11]; decide)]; unfold sWin; unfold sUp at hup ⊢; split <;> omega)
            · refine r_iload_n eX4_outBy_93 rfl rfl ?_
              refine r_goto eX4_outBy_94 ?_
              refine z_iret eX4_outBy_98 rfl rfl ⟨_, rfl, congrArg nI ?_, rfl⟩
              have hup := sUp_le hs p
              have hop1 := hop p
              first
                | rw [sCand, zcand, if_pos (zb1 hc11)]
                | (rw [sCand, zcand, if_neg (by rw [zb0 hc11]; decide)]; unfold sWin; unfold sUp at hup ⊢; split <;> omega)
  · refine n_iconst 0 eX4_outBy_14 rfl ?_
    refine z_iret eX4_outBy_15 rfl rfl ⟨_, rfl, congrArg nI ?_, rfl⟩
    have hup := sUp_le hs p
    have hop1 := hop p
    first
      | rw [sCand, zcand, if_pos (zb1 hc11)]
      | (rw [sCand, zcand, if_neg (by rw [zb0 hc11]; decide)]; unfold sWin; unfold sUp at hup ⊢; split <;> omega)
set_option maxHeartbeats 1000000 in
set_option maxRecDepth 100000 in
theorem s4_firstOut_l {t : zMod} {u : zCls} (hs : ∀ i, mg_s t i ≤ 1000) (h0 : mg_s t 0 ≤ 7) (hnw : mg_nw t < 2) (hop : ∀ i, mg_op t i ≤ 1000000) {g : Nat} (hg : g < 128) (hou : ∀ i, mg_ou t i ≤ 1000000) : ∀ (k : Nat) (pp : Nat) (f : Option Nat) (O : Nat → Nat) (hd : pp + k = mg_s t 0) (hf : (zfst (Nat.testBit g) (sCand (mg_s t) (mg_nw t) (mg_op t)) 1000000 pp) = f) (hO : ∀ i, O i = if i < pp ∧ g.testBit i = false then sCand (mg_s t) (mg_nw t) (mg_op t) i else mg_ou t i), Rq mX4_firstOut 4 none 5 [.ref 0, .int (nI (g)), .int (zor f), .int (nI (pp))] [] (hA (mg_re t, mg_s t, mg_im t, mg_rd t, mg_ii t, mg_tp t, mg_tl t, mg_ta t, mg_at t, O, mg_op t, mg_br t, mg_nw t, mg_fs t, mg_bc t, mg_kr t, mg_rw t, mg_rc t) u) (fun r h' => ∃ x, r = some x ∧ (x = zor ((zfst (Nat.testBit g) (sCand (mg_s t) (mg_nw t) (mg_op t)) 1000000 (mg_s t 0))) ∧ h' = hA (mg_re t, mg_s t, mg_im t, mg_rd t, mg_ii t, mg_tp t, mg_tl t, mg_ta t, mg_at t, (fun i => if i < mg_s t 0 ∧ g.testBit i = false then sCand (mg_s t) (mg_nw t) (mg_op t) i else mg_ou t i), mg_op t, mg_br t, mg_nw t, mg_fs t, mg_bc t, mg_kr t, mg_rw t, mg_rc t) u)) := by
  intro k
  induction k with
  | zero =>
    intro pp f O hd hf hO
    refine r_iload_n eX4_firstOut_5 rfl rfl ?_
    refine r_aload_n eX4_firstOut_6 rfl rfl ?_
    refine r_getf (v := .ref 2) eX4_firstOut_7 fX4_13 rfl rfl ?_
    refine n_iconst 0 eX4_firstOut_10 rfl ?_
    refine n_iald (f := mg_s t) (j := 0) eX4_firstOut_11 rfl rfl (by first | omega | exact zlt (hs _) | exact hou _ | exact hop _) (by decide) ?_
    refine n_icmp_ge eX4_firstOut_12 (by first | omega | exact zlt (hs _) | exact hou _ | exact hop _) (by first | omega | exact zlt (hs _) | exact hou _ | exact hop _) (fun hc12 => ?_) (fun hc12 => absurd hc12 (by omega))
    refine r_iload_n eX4_firstOut_90 rfl rfl ?_
    have e0 : pp = mg_s t 0 := by omega
    rw [e0] at hf hO
    have e1 : O = fun i => if i < mg_s t 0 ∧ g.testBit i = false then sCand (mg_s t) (mg_nw t) (mg_op t) i else mg_ou t i := funext hO
    exact z_iret eX4_firstOut_91 rfl rfl ⟨_, rfl, by rw [hf], by rw [e1]⟩
  | succ k ih =>
    intro pp f O hd hf hO
    have hdn : pp < mg_s t 0 := by omega
    have hcl : ∀ i, sCand (mg_s t) (mg_nw t) (mg_op t) i ≤ 1000000 := fun i => zcand_le (sWin_le hs _ i)
    have hO1 : ∀ i, O i ≤ 1000000 := fun i => by
      rw [hO i]
      split
      · exact hcl i
      · exact hou i
    have hcp := hcl pp
    have hO2 := hO1 pp
    have hOp : O pp = mg_ou t pp := by rw [hO pp, if_neg (by omega)]
    have hb2 := zb2 g pp
    cases f with
    | none =>
      refine r_iload_n eX4_firstOut_5 rfl rfl ?_
      refine r_aload_n eX4_firstOut_6 rfl rfl ?_
      refine r_getf (v := .ref 2) eX4_firstOut_7 fX4_13 rfl rfl ?_
      refine n_iconst 0 eX4_firstOut_10 rfl ?_
      refine n_iald (f := mg_s t) (j := 0) eX4_firstOut_11 rfl rfl (by first | omega | exact zlt (hs _) | (have := hO1 pp; omega) | (have := hO1 q; omega) | (have := zb2 g pp; omega)) (by decide) ?_
      refine n_icmp_ge eX4_firstOut_12 (by first | omega | exact zlt (hs _) | (have := hO1 pp; omega) | (have := hO1 q; omega) | (have := zb2 g pp; omega)) (by first | omega | exact zlt (hs _) | (have := hO1 pp; omega) | (have := hO1 q; omega) | (have := zb2 g pp; omega)) (fun hc12 => absurd hc12 (by omega)) (fun hc12 => ?_)
      refine r_aload_n eX4_firstOut_15 rfl rfl ?_
      refine r_getf (v := .ref 7) eX4_firstOut_16 fX4_28 rfl rfl ?_
      refine r_iload_n eX4_firstOut_19 rfl rfl ?_
      refine r_iload_n eX4_firstOut_20 rfl rfl ?_
      refine r_iload_n eX4_firstOut_21 rfl rfl ?_
      refine n_shr eX4_firstOut_22 (by first | omega | exact zlt (hs _) | (have := hO1 pp; omega) | (have := hO1 q; omega) | (have := zb2 g pp; omega)) (by first | omega | exact zlt (hs _) | (have := hO1 pp; omega) | (have := hO1 q; omega) | (have := zb2 g pp; omega)) ?_
      refine n_iconst 1 eX4_firstOut_23 rfl ?_
      refine n_and eX4_firstOut_24 ?_
      refine n_iconst 1 eX4_firstOut_25 rfl ?_
      refine n_icmp_ne eX4_firstOut_26 (by first | omega | exact zlt (hs _) | (have := hO1 pp; omega) | (have := hO1 q; omega) | (have := zb2 g pp; omega)) (by first | omega | exact zlt (hs _) | (have := hO1 pp; omega) | (have := hO1 q; omega) | (have := zb2 g pp; omega)) (fun hc26 => ?_) (fun hc26 => ?_)
      · refine r_aload_n eX4_firstOut_38 rfl rfl ?_
        refine r_iload_n eX4_firstOut_39 rfl rfl ?_
        refine r_callVi1 eX4_firstOut_40 lX4_134 (Or.inl ⟨_, _, _, rfl, rfl, rfl⟩) (s4_outBy (t := (mg_re t, mg_s t, mg_im t, mg_rd t, mg_ii t, mg_tp t, mg_tl t, mg_ta t, mg_at t, O, mg_op t, mg_br t, mg_nw t, mg_fs t, mg_bc t, mg_kr t, mg_rw t, mg_rc t)) (u := u) hs h0 (by omega) hnw hop) (by omega) (Nat.le_of_ble_eq_true rfl) (fun r1 h1 hq => ?_)
        obtain ⟨rfl, rfl⟩ := (show r1 = nI (sCand (mg_s t) (mg_nw t) (mg_op t) pp) ∧ h1 = hA (mg_re t, mg_s t, mg_im t, mg_rd t, mg_ii t, mg_tp t, mg_tl t, mg_ta t, mg_at t, O, mg_op t, mg_br t, mg_nw t, mg_fs t, mg_bc t, mg_kr t, mg_rw t, mg_rc t) u from hq)
        refine mw_ou (j := pp) (v := sCand (mg_s t) (mg_nw t) (mg_op t) pp) eX4_firstOut_43 rfl rfl (by first | omega | exact zlt (hs _) | (have := hO1 pp; omega) | (have := hO1 q; omega) | (have := zb2 g pp; omega)) ?_
        refine r_iload_n eX4_firstOut_44 rfl rfl ?_
        refine r_iload_n eX4_firstOut_45 rfl rfl ?_
        refine n_shr eX4_firstOut_46 (by first | omega | exact zlt (hs _) | (have := hO1 pp; omega) | (have := hO1 q; omega) | (have := zb2 g pp; omega)) (by first | omega | exact zlt (hs _) | (have := hO1 pp; omega) | (have := hO1 q; omega) | (have := zb2 g pp; omega)) ?_
        refine n_iconst 1 eX4_firstOut_47 rfl ?_
        refine n_and eX4_firstOut_48 ?_
        refine n_if_ne eX4_firstOut_49 (by first | omega | exact zlt (hs _) | (have := hO1 pp; omega) | (have := hO1 q; omega) | (have := zb2 g pp; omega)) (fun hc49 => ?_) (fun hc49 => ?_)
        · refine n_iinc (k := 1) eX4_firstOut_84 rfl (by decide) rfl ?_
          refine r_goto eX4_firstOut_87 ?_
          exfalso
          omega
        · refine r_aload_n eX4_firstOut_52 rfl rfl ?_
          refine r_getf (v := .ref 7) eX4_firstOut_53 fX4_28 rfl rfl ?_
          refine r_iload_n eX4_firstOut_56 rfl rfl ?_
          refine n_iald (f := (va_up (O) (pp) (sCand (mg_s t) (mg_nw t) (mg_op t) pp))) (j := pp) eX4_firstOut_57 rfl rfl (by first | omega | exact zlt (hs _) | (have := hO1 pp; omega) | (have := hO1 q; omega) | (have := zb2 g pp; omega)) (by decide) ?_
          refine z_top (y := nI (sCand (mg_s t) (mg_nw t) (mg_op t) pp)) (congrArg nI zu_s) ?_
          refine n_ldc 1000000 eX4_firstOut_58 kX4_129 rfl ?_
          refine n_icmp_ge eX4_firstOut_60 (by first | omega | exact zlt (hs _) | (have := hO1 pp; omega) | (have := hO1 q; omega) | (have := zb2 g pp; omega)) (by first | omega | exact zlt (hs _) | (have := hO1 pp; omega) | (have := hO1 q; omega) | (have := zb2 g pp; omega)) (fun hc60 => ?_) (fun hc60 => ?_)
          · refine n_iinc (k := 1) eX4_firstOut_84 rfl (by decide) rfl ?_
            refine r_goto eX4_firstOut_87 ?_
            refine ih (pp + 1) none ((va_up (O) (pp) (sCand (mg_s t) (mg_nw t) (mg_op t) pp))) (by omega) ?_ ?_
            · rw [zfst, if_neg (by rintro ⟨g1, g2, g3⟩; omega)]
              exact hf
            · intro i
              unfold va_up
              by_cases ei : i = pp
              · rw [if_pos ei, ei]
                rw [if_pos ⟨by omega, zb0 hc26⟩]
              · rw [if_neg ei, hO i]
                by_cases e2 : i < pp
                · by_cases e3 : g.testBit i = false
                  · rw [if_pos ⟨e2, e3⟩, if_pos ⟨by omega, e3⟩]
                  · rw [if_neg (fun z => e3 z.2), if_neg (fun z => e3 z.2)]
                · rw [if_neg (fun z => e2 z.1), if_neg (fun z => by omega)]
          · refine r_iload_n eX4_firstOut_63 rfl rfl ?_
            refine r_if_lt eX4_firstOut_64 (fun hc64 => ?_) (fun hc64 => absurd hc64 (fun z => z (by decide)))
            refine r_iload_n eX4_firstOut_82 rfl rfl ?_
            refine r_istore_n eX4_firstOut_83 rfl (by decide) ?_
            refine n_iinc (k := 1) eX4_firstOut_84 rfl (by decide) rfl ?_
            refine r_goto eX4_firstOut_87 ?_
            refine ih (pp + 1) (some pp) ((va_up (O) (pp) (sCand (mg_s t) (mg_nw t) (mg_op t) pp))) (by omega) ?_ ?_
            · rw [zfst, if_pos ⟨zb0 hc26, by omega, fun q9 hq9 => by
                rw [hf] at hq9
                cases hq9
              ⟩]
            · intro i
              unfold va_up
              by_cases ei : i = pp
              · rw [if_pos ei, ei]
                rw [if_pos ⟨by omega, zb0 hc26⟩]
              · rw [if_neg ei, hO i]
                by_cases e2 : i < pp
                · by_cases e3 : g.testBit i = false
                  · rw [if_pos ⟨e2, e3⟩, if_pos ⟨by omega, e3⟩]
                  · rw [if_neg (fun z => e3 z.2), if_neg (fun z => e3 z.2)]
                · rw [if_neg (fun z => e2 z.1), if_neg (fun z => by omega)]
      · refine r_aload_n eX4_firstOut_29 rfl rfl ?_
        refine r_getf (v := .ref 7) eX4_firstOut_30 fX4_28 rfl rfl ?_
        refine r_iload_n eX4_firstOut_33 rfl rfl ?_
        refine n_iald (f := O) (j := pp) eX4_firstOut_34 rfl rfl (by first | omega | exact zlt (hs _) | (have := hO1 pp; omega) | (have := hO1 q; omega) | (have := zb2 g pp; omega)) (by decide) ?_
        refine r_goto eX4_firstOut_35 ?_
        refine mw_ou (j := pp) (v := O (pp)) eX4_firstOut_43 rfl rfl (by first | omega | exact zlt (hs _) | (have := hO1 pp; omega) | (have := hO1 q; omega) | (have := zb2 g pp; omega)) ?_
        refine r_iload_n eX4_firstOut_44 rfl rfl ?_
        refine r_iload_n eX4_firstOut_45 rfl rfl ?_
        refine n_shr eX4_firstOut_46 (by first | omega | exact zlt (hs _) | (have := hO1 pp; omega) | (have := hO1 q; omega) | (have := zb2 g pp; omega)) (by first | omega | exact zlt (hs _) | (have := hO1 pp; omega) | (have := hO1 q; omega) | (have := zb2 g pp; omega)) ?_
        refine n_iconst 1 eX4_firstOut_47 rfl ?_
        refine n_and eX4_firstOut_48 ?_
        refine n_if_ne eX4_firstOut_49 (by first | omega | exact zlt (hs _) | (have := hO1 pp; omega) | (have := hO1 q; omega) | (have := zb2 g pp; omega)) (fun hc49 => ?_) (fun hc49 => ?_)
        · refine n_iinc (k := 1) eX4_firstOut_84 rfl (by decide) rfl ?_
          refine r_goto eX4_firstOut_87 ?_
          refine ih (pp + 1) none ((va_up (O) (pp) (O (pp)))) (by omega) ?_ ?_
          · rw [zfst, if_neg (by rintro ⟨g1, g2, g3⟩; rw [zb1 hc26] at g1; cases g1)]
            exact hf
          · intro i
            unfold va_up
            by_cases ei : i = pp
            · rw [if_pos ei, ei]
              rw [if_neg (by rintro ⟨g1, g2⟩; rw [zb1 hc26] at g2; cases g2)]
              exact hOp
            · rw [if_neg ei, hO i]
              by_cases e2 : i < pp
              · by_cases e3 : g.testBit i = false
                · rw [if_pos ⟨e2, e3⟩, if_pos ⟨by omega, e3⟩]
                · rw [if_neg (fun z => e3 z.2), if_neg (fun z => e3 z.2)]
              · rw [if_neg (fun z => e2 z.1), if_neg (fun z => by omega)]
        · refine r_aload_n eX4_firstOut_52 rfl rfl ?_
          refine r_getf (v := .ref 7) eX4_firstOut_53 fX4_28 rfl rfl ?_
          refine r_iload_n eX4_firstOut_56 rfl rfl ?_
          refine n_iald (f := (va_up (O) (pp) (O (pp)))) (j := pp) eX4_firstOut_57 rfl rfl (by first | omega | exact zlt (hs _) | (have := hO1 pp; omega) | (have := hO1 q; omega) | (have := zb2 g pp; omega)) (by decide) ?_
          refine z_top (y := nI (O (pp))) (congrArg nI zu_s) ?_
          refine n_ldc 1000000 eX4_firstOut_58 kX4_129 rfl ?_
          refine n_icmp_ge eX4_firstOut_60 (by first | omega | exact zlt (hs _) | (have := hO1 pp; omega) | (have := hO1 q; omega) | (have := zb2 g pp; omega)) (by first | omega | exact zlt (hs _) | (have := hO1 pp; omega) | (have := hO1 q; omega) | (have := zb2 g pp; omega)) (fun hc60 => ?_) (fun hc60 => ?_)
          · refine n_iinc (k := 1) eX4_firstOut_84 rfl (by decide) rfl ?_
            refine r_goto eX4_firstOut_87 ?_
            exfalso
            omega
          · refine r_iload_n eX4_firstOut_63 rfl rfl ?_
            refine r_if_lt eX4_firstOut_64 (fun hc64 => ?_) (fun hc64 => absurd hc64 (fun z => z (by decide)))
            refine r_iload_n eX4_firstOut_82 rfl rfl ?_
            refine r_istore_n eX4_firstOut_83 rfl (by decide) ?_
            refine n_iinc (k := 1) eX4_firstOut_84 rfl (by decide) rfl ?_
            refine r_goto eX4_firstOut_87 ?_
            exfalso
            omega
    | some q =>
      have hq1 := zfst_lt hf
      have hcq := hcl q
      have hOq : O q = sCand (mg_s t) (mg_nw t) (mg_op t) q := by rw [hO q, if_pos ⟨hq1.1, hq1.2.1⟩]
      refine r_iload_n eX4_firstOut_5 rfl rfl ?_
      refine r_aload_n eX4_firstOut_6 rfl rfl ?_
      refine r_getf (v := .ref 2) eX4_firstOut_7 fX4_13 rfl rfl ?_
      refine n_iconst 0 eX4_firstOut_10 rfl ?_
      refine n_iald (f := mg_s t) (j := 0) eX4_firstOut_11 rfl rfl (by first | omega | exact zlt (hs _) | (have := hO1 pp; omega) | (have := hO1 q; omega) | (have := zb2 g pp; omega)) (by decide) ?_
      refine n_icmp_ge eX4_firstOut_12 (by first | omega | exact zlt (hs _) | (have := hO1 pp; omega) | (have := hO1 q; omega) | (have := zb2 g pp; omega)) (by first | omega | exact zlt (hs _) | (have := hO1 pp; omega) | (have := hO1 q; omega) | (have := zb2 g pp; omega)) (fun hc12 => absurd hc12 (by omega)) (fun hc12 => ?_)
      refine r_aload_n eX4_firstOut_15 rfl rfl ?_
      refine r_getf (v := .ref 7) eX4_firstOut_16 fX4_28 rfl rfl ?_
      refine r_iload_n eX4_firstOut_19 rfl rfl ?_
      refine r_iload_n eX4_firstOut_20 rfl rfl ?_
      refine r_iload_n eX4_firstOut_21 rfl rfl ?_
      refine n_shr eX4_firstOut_22 (by first | omega | exact zlt (hs _) | (have := hO1 pp; omega) | (have := hO1 q; omega) | (have := zb2 g pp; omega)) (by first | omega | exact zlt (hs _) | (have := hO1 pp; omega) | (have := hO1 q; omega) | (have := zb2 g pp; omega)) ?_
      refine n_iconst 1 eX4_firstOut_23 rfl ?_
      refine n_and eX4_firstOut_24 ?_
      refine n_iconst 1 eX4_firstOut_25 rfl ?_
      refine n_icmp_ne eX4_firstOut_26 (by first | omega | exact zlt (hs _) | (have := hO1 pp; omega) | (have := hO1 q; omega) | (have := zb2 g pp; omega)) (by first | omega | exact zlt (hs _) | (have := hO1 pp; omega) | (have := hO1 q; omega) | (have := zb2 g pp; omega)) (fun hc26 => ?_) (fun hc26 => ?_)
      · refine r_aload_n eX4_firstOut_38 rfl rfl ?_
        refine r_iload_n eX4_firstOut_39 rfl rfl ?_
        refine r_callVi1 eX4_firstOut_40 lX4_134 (Or.inl ⟨_, _, _, rfl, rfl, rfl⟩) (s4_outBy (t := (mg_re t, mg_s t, mg_im t, mg_rd t, mg_ii t, mg_tp t, mg_tl t, mg_ta t, mg_at t, O, mg_op t, mg_br t, mg_nw t, mg_fs t, mg_bc t, mg_kr t, mg_rw t, mg_rc t)) (u := u) hs h0 (by omega) hnw hop) (by omega) (Nat.le_of_ble_eq_true rfl) (fun r1 h1 hq => ?_)
        obtain ⟨rfl, rfl⟩ := (show r1 = nI (sCand (mg_s t) (mg_nw t) (mg_op t) pp) ∧ h1 = hA (mg_re t, mg_s t, mg_im t, mg_rd t, mg_ii t, mg_tp t, mg_tl t, mg_ta t, mg_at t, O, mg_op t, mg_br t, mg_nw t, mg_fs t, mg_bc t, mg_kr t, mg_rw t, mg_rc t) u from hq)
        refine mw_ou (j := pp) (v := sCand (mg_s t) (mg_nw t) (mg_op t) pp) eX4_firstOut_43 rfl rfl (by first | omega | exact zlt (hs _) | (have := hO1 pp; omega) | (have := hO1 q; omega) | (have := zb2 g pp; omega)) ?_
        refine r_iload_n eX4_firstOut_44 rfl rfl ?_
        refine r_iload_n eX4_firstOut_45 rfl rfl ?_
        refine n_shr eX4_firstOut_46 (by first | omega | exact zlt (hs _) | (have := hO1 pp; omega) | (have := hO1 q; omega) | (have := zb2 g pp; omega)) (by first | omega | exact zlt (hs _) | (have := hO1 pp; omega) | (have := hO1 q; omega) | (have := zb2 g pp; omega)) ?_
        refine n_iconst 1 eX4_firstOut_47 rfl ?_
        refine n_and eX4_firstOut_48 ?_
        refine n_if_ne eX4_firstOut_49 (by first | omega | exact zlt (hs _) | (have := hO1 pp; omega) | (have := hO1 q; omega) | (have := zb2 g pp; omega)) (fun hc49 => ?_) (fun hc49 => ?_)
        · refine n_iinc (k := 1) eX4_firstOut_84 rfl (by decide) rfl ?_
          refine r_goto eX4_firstOut_87 ?_
          exfalso
          omega
        · refine r_aload_n eX4_firstOut_52 rfl rfl ?_
          refine r_getf (v := .ref 7) eX4_firstOut_53 fX4_28 rfl rfl ?_
          refine r_iload_n eX4_firstOut_56 rfl rfl ?_
          refine n_iald (f := (va_up (O) (pp) (sCand (mg_s t) (mg_nw t) (mg_op t) pp))) (j := pp) eX4_firstOut_57 rfl rfl (by first | omega | exact zlt (hs _) | (have := hO1 pp; omega) | (have := hO1 q; omega) | (have := zb2 g pp; omega)) (by decide) ?_
          refine z_top (y := nI (sCand (mg_s t) (mg_nw t) (mg_op t) pp)) (congrArg nI zu_s) ?_
          refine n_ldc 1000000 eX4_firstOut_58 kX4_129 rfl ?_
          refine n_icmp_ge eX4_firstOut_60 (by first | omega | exact zlt (hs _) | (have := hO1 pp; omega) | (have := hO1 q; omega) | (have := zb2 g pp; omega)) (by first | omega | exact zlt (hs _) | (have := hO1 pp; omega) | (have := hO1 q; omega) | (have := zb2 g pp; omega)) (fun hc60 => ?_) (fun hc60 => ?_)
          · refine n_iinc (k := 1) eX4_firstOut_84 rfl (by decide) rfl ?_
            refine r_goto eX4_firstOut_87 ?_
            refine ih (pp + 1) (some q) ((va_up (O) (pp) (sCand (mg_s t) (mg_nw t) (mg_op t) pp))) (by omega) ?_ ?_
            · rw [zfst, if_neg (by rintro ⟨g1, g2, g3⟩; omega)]
              exact hf
            · intro i
              unfold va_up
              by_cases ei : i = pp
              · rw [if_pos ei, ei]
                rw [if_pos ⟨by omega, zb0 hc26⟩]
              · rw [if_neg ei, hO i]
                by_cases e2 : i < pp
                · by_cases e3 : g.testBit i = false
                  · rw [if_pos ⟨e2, e3⟩, if_pos ⟨by omega, e3⟩]
                  · rw [if_neg (fun z => e3 z.2), if_neg (fun z => e3 z.2)]
                · rw [if_neg (fun z => e2 z.1), if_neg (fun z => by omega)]
          · refine r_iload_n eX4_firstOut_63 rfl rfl ?_
            refine n_if_lt eX4_firstOut_64 (by first | omega | exact zlt (hs _) | (have := hO1 pp; omega) | (have := hO1 q; omega) | (have := zb2 g pp; omega)) ?_
            refine r_aload_n eX4_firstOut_67 rfl rfl ?_
            refine r_getf (v := .ref 7) eX4_firstOut_68 fX4_28 rfl rfl ?_
            refine r_iload_n eX4_firstOut_71 rfl rfl ?_
            refine n_iald (f := (va_up (O) (pp) (sCand (mg_s t) (mg_nw t) (mg_op t) pp))) (j := pp) eX4_firstOut_72 rfl rfl (by first | omega | exact zlt (hs _) | (have := hO1 pp; omega) | (have := hO1 q; omega) | (have := zb2 g pp; omega)) (by decide) ?_
            refine z_top (y := nI (sCand (mg_s t) (mg_nw t) (mg_op t) pp)) (congrArg nI zu_s) ?_
            refine r_aload_n eX4_firstOut_73 rfl rfl ?_
            refine r_getf (v := .ref 7) eX4_firstOut_74 fX4_28 rfl rfl ?_
            refine r_iload_n eX4_firstOut_77 rfl rfl ?_
            refine n_iald (f := (va_up (O) (pp) (sCand (mg_s t) (mg_nw t) (mg_op t) pp))) (j := q) eX4_firstOut_78 rfl rfl (by first | omega | exact zlt (hs _) | (have := hO1 pp; omega) | (have := hO1 q; omega) | (have := zb2 g pp; omega)) (by decide) ?_
            refine z_top (y := nI (sCand (mg_s t) (mg_nw t) (mg_op t) q)) (congrArg nI ((zu_n (by omega)).trans hOq)) ?_
            refine n_icmp_ge eX4_firstOut_79 (by first | omega | exact zlt (hs _) | (have := hO1 pp; omega) | (have := hO1 q; omega) | (have := zb2 g pp; omega)) (by first | omega | exact zlt (hs _) | (have := hO1 pp; omega) | (have := hO1 q; omega) | (have := zb2 g pp; omega)) (fun hc79 => ?_) (fun hc79 => ?_)
            · refine n_iinc (k := 1) eX4_firstOut_84 rfl (by decide) rfl ?_
              refine r_goto eX4_firstOut_87 ?_
              refine ih (pp + 1) (some q) ((va_up (O) (pp) (sCand (mg_s t) (mg_nw t) (mg_op t) pp))) (by omega) ?_ ?_
              · rw [zfst, if_neg (by rintro ⟨g1, g2, g3⟩; have := g3 q hf; omega)]
                exact hf
              · intro i
                unfold va_up
                by_cases ei : i = pp
                · rw [if_pos ei, ei]
                  rw [if_pos ⟨by omega, zb0 hc26⟩]
                · rw [if_neg ei, hO i]
                  by_cases e2 : i < pp
                  · by_cases e3 : g.testBit i = false
                    · rw [if_pos ⟨e2, e3⟩, if_pos ⟨by omega, e3⟩]
                    · rw [if_neg (fun z => e3 z.2), if_neg (fun z => e3 z.2)]
                  · rw [if_neg (fun z => e2 z.1), if_neg (fun z => by omega)]
            · refine r_iload_n eX4_firstOut_82 rfl rfl ?_
              refine r_istore_n eX4_firstOut_83 rfl (by decide) ?_
              refine n_iinc (k := 1) eX4_firstOut_84 rfl (by decide) rfl ?_
              refine r_goto eX4_firstOut_87 ?_
              refine ih (pp + 1) (some pp) ((va_up (O) (pp) (sCand (mg_s t) (mg_nw t) (mg_op t) pp))) (by omega) ?_ ?_
              · rw [zfst, if_pos ⟨zb0 hc26, by omega, fun q9 hq9 => by
                  rw [hf] at hq9
                  cases hq9; omega
                ⟩]
              · intro i
                unfold va_up
                by_cases ei : i = pp
                · rw [if_pos ei, ei]
                  rw [if_pos ⟨by omega, zb0 hc26⟩]
                · rw [if_neg ei, hO i]
                  by_cases e2 : i < pp
                  · by_cases e3 : g.testBit i = false
                    · rw [if_pos ⟨e2, e3⟩, if_pos ⟨by omega, e3⟩]
                    · rw [if_neg (fun z => e3 z.2), if_neg (fun z => e3 z.2)]
                  · rw [if_neg (fun z => e2 z.1), if_neg (fun z => by omega)]
      · refine r_aload_n eX4_firstOut_29 rfl rfl ?_
        refine r_getf (v := .ref 7) eX4_firstOut_30 fX4_28 rfl rfl ?_
        refine r_iload_n eX4_firstOut_33 rfl rfl ?_
        refine n_iald (f := O) (j := pp) eX4_firstOut_34 rfl rfl (by first | omega | exact zlt (hs _) | (have := hO1 pp; omega) | (have := hO1 q; omega) | (have := zb2 g pp; omega)) (by decide) ?_
        refine r_goto eX4_firstOut_35 ?_
        refine mw_ou (j := pp) (v := O (pp)) eX4_firstOut_43 rfl rfl (by first | omega | exact zlt (hs _) | (have := hO1 pp; omega) | (have := hO1 q; omega) | (have := zb2 g pp; omega)) ?_
        refine r_iload_n eX4_firstOut_44 rfl rfl ?_
        refine r_iload_n eX4_firstOut_45 rfl rfl ?_
        refine n_shr eX4_firstOut_46 (by first | omega | exact zlt (hs _) | (have := hO1 pp; omega) | (have := hO1 q; omega) | (have := zb2 g pp; omega)) (by first | omega | exact zlt (hs _) | (have := hO1 pp; omega) | (have := hO1 q; omega) | (have := zb2 g pp; omega)) ?_
        refine n_iconst 1 eX4_firstOut_47 rfl ?_
        refine n_and eX4_firstOut_48 ?_
        refine n_if_ne eX4_firstOut_49 (by first | omega | exact zlt (hs _) | (have := hO1 pp; omega) | (have := hO1 q; omega) | (have := zb2 g pp; omega)) (fun hc49 => ?_) (fun hc49 => ?_)
        · refine n_iinc (k := 1) eX4_firstOut_84 rfl (by decide) rfl ?_
          refine r_goto eX4_firstOut_87 ?_
          refine ih (pp + 1) (some q) ((va_up (O) (pp) (O (pp)))) (by omega) ?_ ?_
          · rw [zfst, if_neg (by rintro ⟨g1, g2, g3⟩; rw [zb1 hc26] at g1; cases g1)]
            exact hf
          · intro i
            unfold va_up
            by_cases ei : i = pp
            · rw [if_pos ei, ei]
              rw [if_neg (by rintro ⟨g1, g2⟩; rw [zb1 hc26] at g2; cases g2)]
              exact hOp
            · rw [if_neg ei, hO i]
              by_cases e2 : i < pp
              · by_cases e3 : g.testBit i = false
                · rw [if_pos ⟨e2, e3⟩, if_pos ⟨by omega, e3⟩]
                · rw [if_neg (fun z => e3 z.2), if_neg (fun z => e3 z.2)]
              · rw [if_neg (fun z => e2 z.1), if_neg (fun z => by omega)]
        · refine r_aload_n eX4_firstOut_52 rfl rfl ?_
          refine r_getf (v := .ref 7) eX4_firstOut_53 fX4_28 rfl rfl ?_
          refine r_iload_n eX4_firstOut_56 rfl rfl ?_
          refine n_iald (f := (va_up (O) (pp) (O (pp)))) (j := pp) eX4_firstOut_57 rfl rfl (by first | omega | exact zlt (hs _) | (have := hO1 pp; omega) | (have := hO1 q; omega) | (have := zb2 g pp; omega)) (by decide) ?_
          refine z_top (y := nI (O (pp))) (congrArg nI zu_s) ?_
          refine n_ldc 1000000 eX4_firstOut_58 kX4_129 rfl ?_
          refine n_icmp_ge eX4_firstOut_60 (by first | omega | exact zlt (hs _) | (have := hO1 pp; omega) | (have := hO1 q; omega) | (have := zb2 g pp; omega)) (by first | omega | exact zlt (hs _) | (have := hO1 pp; omega) | (have := hO1 q; omega) | (have := zb2 g pp; omega)) (fun hc60 => ?_) (fun hc60 => ?_)
          · refine n_iinc (k := 1) eX4_firstOut_84 rfl (by decide) rfl ?_
            refine r_goto eX4_firstOut_87 ?_
            exfalso
            omega
          · refine r_iload_n eX4_firstOut_63 rfl rfl ?_
            refine n_if_lt eX4_firstOut_64 (by first | omega | exact zlt (hs _) | (have := hO1 pp; omega) | (have := hO1 q; omega) | (have := zb2 g pp; omega)) ?_
            refine r_aload_n eX4_firstOut_67 rfl rfl ?_
            refine r_getf (v := .ref 7) eX4_firstOut_68 fX4_28 rfl rfl ?_
            refine r_iload_n eX4_firstOut_71 rfl rfl ?_
            refine n_iald (f := (va_up (O) (pp) (O (pp)))) (j := pp) eX4_firstOut_72 rfl rfl (by first | omega | exact zlt (hs _) | (have := hO1 pp; omega) | (have := hO1 q; omega) | (have := zb2 g pp; omega)) (by decide) ?_
            refine z_top (y := nI (O (pp))) (congrArg nI zu_s) ?_
            refine r_aload_n eX4_firstOut_73 rfl rfl ?_
            refine r_getf (v := .ref 7) eX4_firstOut_74 fX4_28 rfl rfl ?_
            refine r_iload_n eX4_firstOut_77 rfl rfl ?_
            refine n_iald (f := (va_up (O) (pp) (O (pp)))) (j := q) eX4_firstOut_78 rfl rfl (by first | omega | exact zlt (hs _) | (have := hO1 pp; omega) | (have := hO1 q; omega) | (have := zb2 g pp; omega)) (by decide) ?_
            refine z_top (y := nI (sCand (mg_s t) (mg_nw t) (mg_op t) q)) (congrArg nI ((zu_n (by omega)).trans hOq)) ?_
            refine n_icmp_ge eX4_firstOut_79 (by first | omega | exact zlt (hs _) | (have := hO1 pp; omega) | (have := hO1 q; omega) | (have := zb2 g pp; omega)) (by first | omega | exact zlt (hs _) | (have := hO1 pp; omega) | (have := hO1 q; omega) | (have := zb2 g pp; omega)) (fun hc79 => ?_) (fun hc79 => ?_)
            · refine n_iinc (k := 1) eX4_firstOut_84 rfl (by decide) rfl ?_
              refine r_goto eX4_firstOut_87 ?_
              exfalso
              omega
            · refine r_iload_n eX4_firstOut_82 rfl rfl ?_
              refine r_istore_n eX4_firstOut_83 rfl (by decide) ?_
              refine n_iinc (k := 1) eX4_firstOut_84 rfl (by decide) rfl ?_
              refine r_goto eX4_firstOut_87 ?_
              exfalso
              omega
set_option maxHeartbeats 1000000 in
set_option maxRecDepth 100000 in
theorem s4_firstOut {t : zMod} {u : zCls} (hs : ∀ i, mg_s t i ≤ 1000) (h0 : mg_s t 0 ≤ 7) (hnw : mg_nw t < 2) (hop : ∀ i, mg_op t i ≤ 1000000) {g : Nat} (hg : g < 128) (hou : ∀ i, mg_ou t i ≤ 1000000) : Mi mX4_firstOut 4 [.ref 0, .int (nI (g))] (hA t u) (fun r h' => r = zor ((zfst (Nat.testBit g) (sCand (mg_s t) (mg_nw t) (mg_op t)) 1000000 (mg_s t 0))) ∧ h' = hA (mg_re t, mg_s t, mg_im t, mg_rd t, mg_ii t, mg_tp t, mg_tl t, mg_ta t, mg_at t, (fun i => if i < mg_s t 0 ∧ g.testBit i = false then sCand (mg_s t) (mg_nw t) (mg_op t) i else mg_ou t i), mg_op t, mg_br t, mg_nw t, mg_fs t, mg_bc t, mg_kr t, mg_rw t, mg_rc t) u) := by
  refine Mi.of (by decide) rfl (Nat.le_of_ble_eq_true rfl) ?_
  refine r_bipush (v := (-9)) eX4_firstOut_0 rfl ?_
  refine r_istore_n eX4_firstOut_2 rfl (by decide) ?_
  refine n_iconst 0 eX4_firstOut_3 rfl ?_
  refine r_istore_n eX4_firstOut_4 rfl (by decide) ?_
  refine s4_firstOut_l hs h0 hnw hop hg hou (mg_s t 0) 0 none (mg_ou t) (by omega) rfl (fun i => ?_)
  rw [if_neg (by omega)]
