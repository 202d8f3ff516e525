/-! THE REFERENCE: its morning -/
def sWay (S : Nat → Nat) : Nat → Nat → Nat := zway (S 4) (S 0)
def sNd (S : Nat → Nat) (p : Nat) : Nat := zneed (S (5 + 5 * p + 0)) (S (5 + 5 * p + 2))
def sPc (S : Nat → Nat) (p : Nat) : Nat := if S (5 + 5 * p + 0) = 5 then 0 else S 3
def sHd (S : Nat → Nat) (p d : Nat) : Bool := !(d == p) && zhold (fun k => S (40 + 2 * k)) (fun k => S (40 + 2 * k + 1)) (S 1) p d
def sUp (S : Nat → Nat) (p : Nat) : Nat := zup (S (5 + 5 * p + 0)) (S (5 + 5 * p + 1))
def sWin (S : Nat → Nat) (nw : Nat) (p : Nat) : Nat := if S (5 + 5 * p + 0) = 3 ∧ nw = 0 then 60 + S (5 + 5 * p + 1) else 1000000
def sCand (S : Nat → Nat) (nw : Nat) : (Nat → Nat) → Nat → Nat := zcand (S 2).testBit (sUp S) (sWin S nw)
theorem sUp_le {S : Nat → Nat} (hs : ∀ i, S i ≤ 1000) (p : Nat) : sUp S p ≤ 2000 := by
  have h1 := hs (5 + 5 * p + 1)
  unfold sUp zup
  split
  · omega
  · split <;> omega
theorem sWin_le {S : Nat → Nat} (hs : ∀ i, S i ≤ 1000) (nw p : Nat) : sWin S nw p ≤ 1000000 := by
  have h1 := hs (5 + 5 * p + 1)
  unfold sWin
  split <;> omega
theorem sNd_le {S : Nat → Nat} (hs : ∀ i, S i ≤ 1000) (p : Nat) : sNd S p ≤ 1000 := by
  have h1 := hs (5 + 5 * p + 2)
  unfold sNd zneed
  split <;> omega

set_option maxHeartbeats 1000000 in
set_option maxRecDepth 100000 in
theorem s4_goesRound_l {t : zMod} {u : zCls} (hs : ∀ i, mg_s t i ≤ 1000) (h0 : mg_s t 0 ≤ 7) (h1 : mg_s t 1 ≤ 12) {p : Nat} (hp : p < mg_s t 0) (hm : mg_ou t p ≤ 1000000) (hop : ∀ i, mg_op t i ≤ 1000000) {Q : Option Int32 → List zC → Prop} (kk : Rq mX4_goesRound 3 none 107 [.ref 0, .int (nI p), .int (nI (zgo (sWay (mg_s t)) (sNd (mg_s t) p) (sPc (mg_s t) p) (sHd (mg_s t) p) (mg_ou t p) p (mg_op t) (mg_s t 0)).1), .int (nI (zgo (sWay (mg_s t)) (sNd (mg_s t) p) (sPc (mg_s t) p) (sHd (mg_s t) p) (mg_ou t p) p (mg_op t) (mg_s t 0)).2.1), .int (nI (mg_s t 0))] [] (hA (mu_op t (zgo (sWay (mg_s t)) (sNd (mg_s t) p) (sPc (mg_s t) p) (sHd (mg_s t) p) (mg_ou t p) p (mg_op t) (mg_s t 0)).2.2) u) Q) : ∀ (k : Nat) (dd : Nat) (mi : Nat) (he : Nat) (O : Nat → Nat) (hd : dd + k = mg_s t 0) (hz : zgo (sWay (mg_s t)) (sNd (mg_s t) p) (sPc (mg_s t) p) (sHd (mg_s t) p) (mg_ou t p) p (mg_op t) dd = (mi, he, O)) (hmi : mi ≤ 1000000 + 10000 * dd) (hhe : he < mg_s t 0) (hO : ∀ i, O i ≤ 1000000), Rq mX4_goesRound 3 none 12 [.ref 0, .int (nI (p)), .int (nI (mi)), .int (nI (he)), .int (nI (dd))] [] (hA (mu_op t O) u) Q  := by
  intro k
  induction k with
  | zero =>
    intro dd mi he O hd hz hmi hhe hO
    refine r_iload eX4_goesRound_12 rfl ?_
    refine r_aload_n eX4_goesRound_14 rfl rfl ?_
    refine r_getf (v := .ref 2) eX4_goesRound_15 fX4_13 rfl rfl ?_
    refine n_iconst 0 eX4_goesRound_18 rfl ?_
    refine n_iald (f := mg_s t) (j := 0) eX4_goesRound_19 rfl rfl (by first | omega | exact zlt (hs _) | exact hou _ | exact hop _) (by decide) ?_
    refine n_icmp_ge eX4_goesRound_20 (by first | omega | exact zlt (hs _) | exact hou _ | exact hop _) (by first | omega | exact zlt (hs _) | exact hou _ | exact hop _) (fun hc20 => ?_) (fun hc20 => absurd hc20 (by omega))
    have e : dd = mg_s t 0 := by omega
    rw [← e, hz] at kk
    exact kk
  | succ k ih =>
    intro dd mi he O hd hz hmi hhe hO
    have hdn : dd < mg_s t 0 := by omega
    refine r_iload eX4_goesRound_12 rfl ?_
    refine r_aload_n eX4_goesRound_14 rfl rfl ?_
    refine r_getf (v := .ref 2) eX4_goesRound_15 fX4_13 rfl rfl ?_
    refine n_iconst 0 eX4_goesRound_18 rfl ?_
    refine n_iald (f := mg_s t) (j := 0) eX4_goesRound_19 rfl rfl (by first | omega | exact zlt (hs _) | (have := hO dd; omega) | (have := zway_le (r := mg_s t 4) hhe hdn; have := sNd_le hs p; have h3 := hs 3; unfold sNd at this; (try have := Nat.mul_le_mul h3 (zway_le (r := mg_s t 4) hhe hdn)); omega) | (have := Bool.toNat_lt (zhold (fun k => mg_s t (40 + 2 * k)) (fun k => mg_s t (40 + 2 * k + 1)) (mg_s t 1) p dd); omega)) (by decide) ?_
    refine n_icmp_ge eX4_goesRound_20 (by first | omega | exact zlt (hs _) | (have := hO dd; omega) | (have := zway_le (r := mg_s t 4) hhe hdn; have := sNd_le hs p; have h3 := hs 3; unfold sNd at this; (try have := Nat.mul_le_mul h3 (zway_le (r := mg_s t 4) hhe hdn)); omega) | (have := Bool.toNat_lt (zhold (fun k => mg_s t (40 + 2 * k)) (fun k => mg_s t (40 + 2 * k + 1)) (mg_s t 1) p dd); omega)) (by first | omega | exact zlt (hs _) | (have := hO dd; omega) | (have := zway_le (r := mg_s t 4) hhe hdn; have := sNd_le hs p; have h3 := hs 3; unfold sNd at this; (try have := Nat.mul_le_mul h3 (zway_le (r := mg_s t 4) hhe hdn)); omega) | (have := Bool.toNat_lt (zhold (fun k => mg_s t (40 + 2 * k)) (fun k => mg_s t (40 + 2 * k + 1)) (mg_s t 1) p dd); omega)) (fun hc20 => absurd hc20 (by omega)) (fun hc20 => ?_)
    refine r_iload eX4_goesRound_23 rfl ?_
    refine r_iload_n eX4_goesRound_25 rfl rfl ?_
    refine n_icmp_eq eX4_goesRound_26 (by first | omega | exact zlt (hs _) | (have := hO dd; omega) | (have := zway_le (r := mg_s t 4) hhe hdn; have := sNd_le hs p; have h3 := hs 3; unfold sNd at this; (try have := Nat.mul_le_mul h3 (zway_le (r := mg_s t 4) hhe hdn)); omega) | (have := Bool.toNat_lt (zhold (fun k => mg_s t (40 + 2 * k)) (fun k => mg_s t (40 + 2 * k + 1)) (mg_s t 1) p dd); omega)) (by first | omega | exact zlt (hs _) | (have := hO dd; omega) | (have := zway_le (r := mg_s t 4) hhe hdn; have := sNd_le hs p; have h3 := hs 3; unfold sNd at this; (try have := Nat.mul_le_mul h3 (zway_le (r := mg_s t 4) hhe hdn)); omega) | (have := Bool.toNat_lt (zhold (fun k => mg_s t (40 + 2 * k)) (fun k => mg_s t (40 + 2 * k + 1)) (mg_s t 1) p dd); omega)) (fun hc26 => ?_) (fun hc26 => ?_)
    · refine n_iinc (k := 1) eX4_goesRound_101 rfl (by decide) rfl ?_
      refine r_goto eX4_goesRound_104 ?_
      refine ih (dd + 1) mi he O (by omega) ?_ (by omega) (by omega) hO
      rw [zgo, hz, zgs, if_neg]
      simp_all [sHd, zt0]
    · refine r_aload_n eX4_goesRound_29 rfl rfl ?_
      refine r_iload_n eX4_goesRound_30 rfl rfl ?_
      refine r_iload eX4_goesRound_31 rfl ?_
      refine r_callVi2 eX4_goesRound_33 lX4_123 (Or.inl ⟨_, _, _, rfl, rfl, rfl⟩) (s4_holds (t := (mu_op t O)) (u := u) hs h1 (by omega) (by omega)) (by omega) (Nat.le_of_ble_eq_true rfl) (fun r1 h1 hq => ?_)
      obtain ⟨rfl, rfl⟩ := (show r1 = nI ((zhold (fun k => mg_s t (40 + 2 * k)) (fun k => mg_s t (40 + 2 * k + 1)) (mg_s t 1) p dd).toNat) ∧ h1 = hA (mu_op t O) u from hq)
      refine n_if_ne eX4_goesRound_36 (by first | omega | exact zlt (hs _) | (have := hO dd; omega) | (have := zway_le (r := mg_s t 4) hhe hdn; have := sNd_le hs p; have h3 := hs 3; unfold sNd at this; (try have := Nat.mul_le_mul h3 (zway_le (r := mg_s t 4) hhe hdn)); omega) | (have := Bool.toNat_lt (zhold (fun k => mg_s t (40 + 2 * k)) (fun k => mg_s t (40 + 2 * k + 1)) (mg_s t 1) p dd); omega)) (fun hc36 => ?_) (fun hc36 => ?_)
      · refine r_iload_n eX4_goesRound_42 rfl rfl ?_
        refine r_aload_n eX4_goesRound_43 rfl rfl ?_
        refine r_iload_n eX4_goesRound_44 rfl rfl ?_
        refine n_iconst 0 eX4_goesRound_45 rfl ?_
        refine r_callVi2 eX4_goesRound_46 lX4_90 (Or.inl ⟨_, _, _, rfl, rfl, rfl⟩) (s4_get (t := (mu_op t O)) (u := u) (by omega)) (by omega) (Nat.le_of_ble_eq_true rfl) (fun r1 h1 hq => ?_)
        obtain ⟨rfl, rfl⟩ := (show r1 = nI (mg_s t (5 + 5 * p + 0)) ∧ h1 = hA (mu_op t O) u from hq)
        refine n_iconst 5 eX4_goesRound_49 rfl ?_
        refine n_icmp_ne eX4_goesRound_50 (by first | omega | exact zlt (hs _) | (have := hO dd; omega) | (have := zway_le (r := mg_s t 4) hhe hdn; have := sNd_le hs p; have h3 := hs 3; unfold sNd at this; (try have := Nat.mul_le_mul h3 (zway_le (r := mg_s t 4) hhe hdn)); omega) | (have := Bool.toNat_lt (zhold (fun k => mg_s t (40 + 2 * k)) (fun k => mg_s t (40 + 2 * k + 1)) (mg_s t 1) p dd); omega)) (by first | omega | exact zlt (hs _) | (have := hO dd; omega) | (have := zway_le (r := mg_s t 4) hhe hdn; have := sNd_le hs p; have h3 := hs 3; unfold sNd at this; (try have := Nat.mul_le_mul h3 (zway_le (r := mg_s t 4) hhe hdn)); omega) | (have := Bool.toNat_lt (zhold (fun k => mg_s t (40 + 2 * k)) (fun k => mg_s t (40 + 2 * k + 1)) (mg_s t 1) p dd); omega)) (fun hc50 => ?_) (fun hc50 => ?_)
        · refine r_aload_n eX4_goesRound_57 rfl rfl ?_
          refine r_getf (v := .ref 2) eX4_goesRound_58 fX4_13 rfl rfl ?_
          refine n_iconst 3 eX4_goesRound_61 rfl ?_
          refine n_iald (f := mg_s t) (j := 3) eX4_goesRound_62 rfl rfl (by first | omega | exact zlt (hs _) | (have := hO dd; omega) | (have := zway_le (r := mg_s t 4) hhe hdn; have := sNd_le hs p; have h3 := hs 3; unfold sNd at this; (try have := Nat.mul_le_mul h3 (zway_le (r := mg_s t 4) hhe hdn)); omega) | (have := Bool.toNat_lt (zhold (fun k => mg_s t (40 + 2 * k)) (fun k => mg_s t (40 + 2 * k + 1)) (mg_s t 1) p dd); omega)) (by decide) ?_
          refine r_aload_n eX4_goesRound_63 rfl rfl ?_
          refine r_iload_n eX4_goesRound_64 rfl rfl ?_
          refine r_iload eX4_goesRound_65 rfl ?_
          refine r_callVi2 eX4_goesRound_67 lX4_126 (Or.inl ⟨_, _, _, rfl, rfl, rfl⟩) (s4_wayOf (t := (mu_op t O)) (u := u) hs h0 hhe hdn) (by omega) (Nat.le_of_ble_eq_true rfl) (fun r1 h1 hq => ?_)
          obtain ⟨rfl, rfl⟩ := (show r1 = nI (zway (mg_s t 4) (mg_s t 0) he dd) ∧ h1 = hA (mu_op t O) u from hq)
          refine n_mul eX4_goesRound_70 ?_
          refine r_aload_n eX4_goesRound_71 rfl rfl ?_
          refine r_iload_n eX4_goesRound_72 rfl rfl ?_
          refine r_callVi1 eX4_goesRound_73 lX4_100 (Or.inl ⟨_, _, _, rfl, rfl, rfl⟩) (s4_needsOf (t := (mu_op t O)) (u := u) hs (by omega)) (by omega) (Nat.le_of_ble_eq_true rfl) (fun r1 h1 hq => ?_)
          obtain ⟨rfl, rfl⟩ := (show r1 = nI (zneed (mg_s t (5 + 5 * p + 0)) (mg_s t (5 + 5 * p + 2))) ∧ h1 = hA (mu_op t O) u from hq)
          refine n_add eX4_goesRound_76 ?_
          refine n_add eX4_goesRound_77 ?_
          refine r_istore_n eX4_goesRound_78 rfl (by decide) ?_
          refine r_iload eX4_goesRound_79 rfl ?_
          refine r_istore_n eX4_goesRound_81 rfl (by decide) ?_
          refine r_iload_n eX4_goesRound_82 rfl rfl ?_
          refine r_aload_n eX4_goesRound_83 rfl rfl ?_
          refine r_getf (v := .ref 8) eX4_goesRound_84 fX4_31 rfl rfl ?_
          refine r_iload eX4_goesRound_87 rfl ?_
          refine n_iald (f := O) (j := dd) eX4_goesRound_89 rfl rfl (by first | omega | exact zlt (hs _) | (have := hO dd; omega) | (have := zway_le (r := mg_s t 4) hhe hdn; have := sNd_le hs p; have h3 := hs 3; unfold sNd at this; (try have := Nat.mul_le_mul h3 (zway_le (r := mg_s t 4) hhe hdn)); omega) | (have := Bool.toNat_lt (zhold (fun k => mg_s t (40 + 2 * k)) (fun k => mg_s t (40 + 2 * k + 1)) (mg_s t 1) p dd); omega)) (by decide) ?_
          refine n_icmp_ge eX4_goesRound_90 (by first | omega | exact zlt (hs _) | (have := hO dd; omega) | (have := zway_le (r := mg_s t 4) hhe hdn; have := sNd_le hs p; have h3 := hs 3; unfold sNd at this; (try have := Nat.mul_le_mul h3 (zway_le (r := mg_s t 4) hhe hdn)); omega) | (have := Bool.toNat_lt (zhold (fun k => mg_s t (40 + 2 * k)) (fun k => mg_s t (40 + 2 * k + 1)) (mg_s t 1) p dd); omega)) (by first | omega | exact zlt (hs _) | (have := hO dd; omega) | (have := zway_le (r := mg_s t 4) hhe hdn; have := sNd_le hs p; have h3 := hs 3; unfold sNd at this; (try have := Nat.mul_le_mul h3 (zway_le (r := mg_s t 4) hhe hdn)); omega) | (have := Bool.toNat_lt (zhold (fun k => mg_s t (40 + 2 * k)) (fun k => mg_s t (40 + 2 * k + 1)) (mg_s t 1) p dd); omega)) (fun hc90 => ?_) (fun hc90 => ?_)
          · refine n_iinc (k := 1) eX4_goesRound_101 rfl (by decide) rfl ?_
            refine r_goto eX4_goesRound_104 ?_
            refine ih (dd + 1) (mi + ((((mg_s t) (3)) * (zway (mg_s t 4) (mg_s t 0) he dd)) + (zneed (mg_s t (5 + 5 * p + 0)) (mg_s t (5 + 5 * p + 2))))) dd (O) (by omega) ?_ (by have := zway_le (r := mg_s t 4) hhe hdn; have := sNd_le hs p; have h3 := hs 3; unfold sNd at this; (try have := Nat.mul_le_mul h3 (zway_le (r := mg_s t 4) hhe hdn)); omega) (by omega) ?_
            · have hh : sHd (mg_s t) p dd = true := by simp_all [sHd, zt1]
              have hpc : sPc (mg_s t) p * sWay (mg_s t) he dd + sNd (mg_s t) p = ((((mg_s t) (3)) * (zway (mg_s t 4) (mg_s t 0) he dd)) + (zneed (mg_s t (5 + 5 * p + 0)) (mg_s t (5 + 5 * p + 2)))) := by simp_all [sPc, sWay, sNd]
              rw [zgo, hz, zgs, if_pos hh]
              dsimp only
              rw [hpc]
              rw [if_neg (by omega)]
            · exact hO
          · refine r_aload_n eX4_goesRound_93 rfl rfl ?_
            refine r_getf (v := .ref 8) eX4_goesRound_94 fX4_31 rfl rfl ?_
            refine r_iload eX4_goesRound_97 rfl ?_
            refine r_iload_n eX4_goesRound_99 rfl rfl ?_
            refine mw_op (j := dd) (v := mi + ((((mg_s t) (3)) * (zway (mg_s t 4) (mg_s t 0) he dd)) + (zneed (mg_s t (5 + 5 * p + 0)) (mg_s t (5 + 5 * p + 2))))) eX4_goesRound_100 rfl rfl (by first | omega | exact zlt (hs _) | (have := hO dd; omega) | (have := zway_le (r := mg_s t 4) hhe hdn; have := sNd_le hs p; have h3 := hs 3; unfold sNd at this; (try have := Nat.mul_le_mul h3 (zway_le (r := mg_s t 4) hhe hdn)); omega) | (have := Bool.toNat_lt (zhold (fun k => mg_s t (40 + 2 * k)) (fun k => mg_s t (40 + 2 * k + 1)) (mg_s t 1) p dd); omega)) ?_
            refine n_iinc (k := 1) eX4_goesRound_101 rfl (by decide) rfl ?_
            refine r_goto eX4_goesRound_104 ?_
            refine ih (dd + 1) (mi + ((((mg_s t) (3)) * (zway (mg_s t 4) (mg_s t 0) he dd)) + (zneed (mg_s t (5 + 5 * p + 0)) (mg_s t (5 + 5 * p + 2))))) dd ((va_up (O) (dd) (mi + ((((mg_s t) (3)) * (zway (mg_s t 4) (mg_s t 0) he dd)) + (zneed (mg_s t (5 + 5 * p + 0)) (mg_s t (5 + 5 * p + 2))))))) (by omega) ?_ (by have := zway_le (r := mg_s t 4) hhe hdn; have := sNd_le hs p; have h3 := hs 3; unfold sNd at this; (try have := Nat.mul_le_mul h3 (zway_le (r := mg_s t 4) hhe hdn)); omega) (by omega) ?_
            · have hh : sHd (mg_s t) p dd = true := by simp_all [sHd, zt1]
              have hpc : sPc (mg_s t) p * sWay (mg_s t) he dd + sNd (mg_s t) p = ((((mg_s t) (3)) * (zway (mg_s t 4) (mg_s t 0) he dd)) + (zneed (mg_s t (5 + 5 * p + 0)) (mg_s t (5 + 5 * p + 2)))) := by simp_all [sPc, sWay, sNd]
              rw [zgo, hz, zgs, if_pos hh]
              dsimp only
              rw [hpc]
              rw [if_pos (by omega)]
            · intro i
              unfold va_up
              split
              · have := hO dd; omega
              · exact hO i
        · refine n_iconst 0 eX4_goesRound_53 rfl ?_
          refine r_goto eX4_goesRound_54 ?_
          refine r_aload_n eX4_goesRound_71 rfl rfl ?_
          refine r_iload_n eX4_goesRound_72 rfl rfl ?_
          refine r_callVi1 eX4_goesRound_73 lX4_100 (Or.inl ⟨_, _, _, rfl, rfl, rfl⟩) (s4_needsOf (t := (mu_op t O)) (u := u) hs (by omega)) (by omega) (Nat.le_of_ble_eq_true rfl) (fun r1 h1 hq => ?_)
          obtain ⟨rfl, rfl⟩ := (show r1 = nI (zneed (mg_s t (5 + 5 * p + 0)) (mg_s t (5 + 5 * p + 2))) ∧ h1 = hA (mu_op t O) u from hq)
          refine n_add eX4_goesRound_76 ?_
          refine n_add eX4_goesRound_77 ?_
          refine r_istore_n eX4_goesRound_78 rfl (by decide) ?_
          refine r_iload eX4_goesRound_79 rfl ?_
          refine r_istore_n eX4_goesRound_81 rfl (by decide) ?_
          refine r_iload_n eX4_goesRound_82 rfl rfl ?_
          refine r_aload_n eX4_goesRound_83 rfl rfl ?_
          refine r_getf (v := .ref 8) eX4_goesRound_84 fX4_31 rfl rfl ?_
          refine r_iload eX4_goesRound_87 rfl ?_
          refine n_iald (f := O) (j := dd) eX4_goesRound_89 rfl rfl (by first | omega | exact zlt (hs _) | (have := hO dd; omega) | (have := zway_le (r := mg_s t 4) hhe hdn; have := sNd_le hs p; have h3 := hs 3; unfold sNd at this; (try have := Nat.mul_le_mul h3 (zway_le (r := mg_s t 4) hhe hdn)); omega) | (have := Bool.toNat_lt (zhold (fun k => mg_s t (40 + 2 * k)) (fun k => mg_s t (40 + 2 * k + 1)) (mg_s t 1) p dd); omega)) (by decide) ?_
          refine n_icmp_ge eX4_goesRound_90 (by first | omega | exact zlt (hs _) | (have := hO dd; omega) | (have := zway_le (r := mg_s t 4) hhe hdn; have := sNd_le hs p; have h3 := hs 3; unfold sNd at this; (try have := Nat.mul_le_mul h3 (zway_le (r := mg_s t 4) hhe hdn)); omega) | (have := Bool.toNat_lt (zhold (fun k => mg_s t (40 + 2 * k)) (fun k => mg_s t (40 + 2 * k + 1)) (mg_s t 1) p dd); omega)) (by first | omega | exact zlt (hs _) | (have := hO dd; omega) | (have := zway_le (r := mg_s t 4) hhe hdn; have := sNd_le hs p; have h3 := hs 3; unfold sNd at this; (try have := Nat.mul_le_mul h3 (zway_le (r := mg_s t 4) hhe hdn)); omega) | (have := Bool.toNat_lt (zhold (fun k => mg_s t (40 + 2 * k)) (fun k => mg_s t (40 + 2 * k + 1)) (mg_s t 1) p dd); omega)) (fun hc90 => ?_) (fun hc90 => ?_)
          · refine n_iinc (k := 1) eX4_goesRound_101 rfl (by decide) rfl ?_
            refine r_goto eX4_goesRound_104 ?_
            refine ih (dd + 1) (mi + (0 + (zneed (mg_s t (5 + 5 * p + 0)) (mg_s t (5 + 5 * p + 2))))) dd (O) (by omega) ?_ (by have := zway_le (r := mg_s t 4) hhe hdn; have := sNd_le hs p; have h3 := hs 3; unfold sNd at this; (try have := Nat.mul_le_mul h3 (zway_le (r := mg_s t 4) hhe hdn)); omega) (by omega) ?_
            · have hh : sHd (mg_s t) p dd = true := by simp_all [sHd, zt1]
              have hpc : sPc (mg_s t) p * sWay (mg_s t) he dd + sNd (mg_s t) p = (0 + (zneed (mg_s t (5 + 5 * p + 0)) (mg_s t (5 + 5 * p + 2)))) := by simp_all [sPc, sWay, sNd]
              rw [zgo, hz, zgs, if_pos hh]
              dsimp only
              rw [hpc]
              rw [if_neg (by omega)]
            · exact hO
          · refine r_aload_n eX4_goesRound_93 rfl rfl ?_
            refine r_getf (v := .ref 8) eX4_goesRound_94 fX4_31 rfl rfl ?_
            refine r_iload eX4_goesRound_97 rfl ?_
            refine r_iload_n eX4_goesRound_99 rfl rfl ?_
            refine mw_op (j := dd) (v := mi + (0 + (zneed (mg_s t (5 + 5 * p + 0)) (mg_s t (5 + 5 * p + 2))))) eX4_goesRound_100 rfl rfl (by first | omega | exact zlt (hs _) | (have := hO dd; omega) | (have := zway_le (r := mg_s t 4) hhe hdn; have := sNd_le hs p; have h3 := hs 3; unfold sNd at this; (try have := Nat.mul_le_mul h3 (zway_le (r := mg_s t 4) hhe hdn)); omega) | (have := Bool.toNat_lt (zhold (fun k => mg_s t (40 + 2 * k)) (fun k => mg_s t (40 + 2 * k + 1)) (mg_s t 1) p dd); omega)) ?_
            refine n_iinc (k := 1) eX4_goesRound_101 rfl (by decide) rfl ?_
            refine r_goto eX4_goesRound_104 ?_
            refine ih (dd + 1) (mi + (0 + (zneed (mg_s t (5 + 5 * p + 0)) (mg_s t (5 + 5 * p + 2))))) dd ((va_up (O) (dd) (mi + (0 + (zneed (mg_s t (5 + 5 * p + 0)) (mg_s t (5 + 5 * p + 2))))))) (by omega) ?_ (by have := zway_le (r := mg_s t 4) hhe hdn; have := sNd_le hs p; have h3 := hs 3; unfold sNd at this; (try have := Nat.mul_le_mul h3 (zway_le (r := mg_s t 4) hhe hdn)); omega) (by omega) ?_
            · have hh : sHd (mg_s t) p dd = true := by simp_all [sHd, zt1]
              have hpc : sPc (mg_s t) p * sWay (mg_s t) he dd + sNd (mg_s t) p = (0 + (zneed (mg_s t (5 + 5 * p + 0)) (mg_s t (5 + 5 * p + 2)))) := by simp_all [sPc, sWay, sNd]
              rw [zgo, hz, zgs, if_pos hh]
              dsimp only
              rw [hpc]
              rw [if_pos (by omega)]
            · intro i
              unfold va_up
              split
              · have := hO dd; omega
              · exact hO i
      · refine r_goto eX4_goesRound_39 ?_
        refine n_iinc (k := 1) eX4_goesRound_101 rfl (by decide) rfl ?_
        refine r_goto eX4_goesRound_104 ?_
        refine ih (dd + 1) mi he O (by omega) ?_ (by omega) (by omega) hO
        rw [zgo, hz, zgs, if_neg]
        simp_all [sHd, zt0]
set_option maxHeartbeats 1000000 in
set_option maxRecDepth 100000 in
theorem s4_goesRound {t : zMod} {u : zCls} (hs : ∀ i, mg_s t i ≤ 1000) (h0 : mg_s t 0 ≤ 7) (h1 : mg_s t 1 ≤ 12) {p : Nat} (hp : p < mg_s t 0) (hm : mg_ou t p ≤ 1000000) (hop : ∀ i, mg_op t i ≤ 1000000) : Mv mX4_goesRound 3 [.ref 0, .int (nI (p))] (hA t u) (fun h' => h' = hA (mu_op t (zgo (sWay (mg_s t)) (sNd (mg_s t) p) (sPc (mg_s t) p) (sHd (mg_s t) p) (mg_ou t p) p (mg_op t) (mg_s t 0)).2.2) u) := by
  refine Mv.of (by decide) rfl rfl (Nat.le_of_ble_eq_true rfl) ?_
  refine r_aload_n eX4_goesRound_0 rfl rfl ?_
  refine r_getf (v := .ref 7) eX4_goesRound_1 fX4_28 rfl rfl ?_
  refine r_iload_n eX4_goesRound_4 rfl rfl ?_
  refine n_iald (f := mg_ou t) (j := p) eX4_goesRound_5 rfl rfl (by omega) (by decide) ?_
  refine r_istore_n eX4_goesRound_6 rfl (by decide) ?_
  refine r_iload_n eX4_goesRound_7 rfl rfl ?_
  refine r_istore_n eX4_goesRound_8 rfl (by decide) ?_
  refine n_iconst 0 eX4_goesRound_9 rfl ?_
  refine r_istore eX4_goesRound_10 (by decide) ?_
  refine s4_goesRound_l hs h0 h1 hp hm hop ?_ (mg_s t 0) 0 (mg_ou t p) p (mg_op t) (by omega) rfl (by omega) hp hop
  exact z_vret eX4_goesRound_107 ⟨rfl, rfl⟩
