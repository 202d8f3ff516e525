/-! THE REFERENCE: copies of keys -/
theorem sAdd_1 (S : Nat → Nat) (a b : Nat) : sAdd S a b 1 = S 1 + 1 := zu_s
theorem sAdd_o {S : Nat → Nat} {a b i : Nat} (h1 : ¬ i = 1) (h2 : ¬ i = 40 + 2 * S 1) (h3 : ¬ i = 40 + 2 * S 1 + 1) : sAdd S a b i = S i := by
  unfold sAdd
  rw [zu_n h1, zu_n h3, zu_n h2]
theorem sAdd_d (S : Nat → Nat) (a b : Nat) : sAdd S a b (40 + 2 * S 1) = a := by
  unfold sAdd
  rw [zu_n (by omega), zu_n (by omega), zu_s]
theorem sAdd_h (S : Nat → Nat) (a b : Nat) : sAdd S a b (40 + 2 * S 1 + 1) = b := by
  unfold sAdd
  rw [zu_n (by omega), zu_s]
/-- the same but where the next key comes, and w keys beyond -/
def sNear (w : Nat) (S X : Nat → Nat) : Prop := ∀ i, ¬ (40 + 2 * S 1 ≤ i ∧ i < 40 + 2 * S 1 + 2 * w) → X i = S i
theorem sNear_rf (w : Nat) (S : Nat → Nat) : sNear w S S := fun _ _ => rfl
theorem sAdd_same {S X : Nat → Nat} {a b : Nat} (h : sNear 1 S X) : sAdd X a b = sAdd S a b := by
  have e1 : X 1 = S 1 := h 1 (by omega)
  funext i
  by_cases h1 : i = 1
  · rw [h1, sAdd_1, sAdd_1, e1]
  · by_cases h2 : i = 40 + 2 * S 1
    · rw [h2, sAdd_d, ← e1, sAdd_d]
    · by_cases h3 : i = 40 + 2 * S 1 + 1
      · rw [h3, sAdd_h, ← e1, sAdd_h]
      · rw [sAdd_o h1 (by omega) (by omega), sAdd_o h1 h2 h3]
        exact h i (by omega)
theorem sAdd_near {S X : Nat → Nat} {a b : Nat} (h : sNear 2 S X) : sNear 1 (sAdd S a b) (sAdd X a b) := by
  have e1 : X 1 = S 1 := h 1 (by omega)
  intro i hi
  rw [sAdd_1] at hi
  by_cases h1 : i = 1
  · rw [h1, sAdd_1, sAdd_1, e1]
  · by_cases h2 : i = 40 + 2 * S 1
    · rw [h2, sAdd_d, ← e1, sAdd_d]
    · by_cases h3 : i = 40 + 2 * S 1 + 1
      · rw [h3, sAdd_h, ← e1, sAdd_h]
      · rw [sAdd_o h1 (by omega) (by omega), sAdd_o h1 h2 h3]
        exact h i (by omega)
theorem sDrop_near {w : Nat} {S X : Nat → Nat} {a b : Nat} (h : sNear w (sAdd S a b) X) : sNear (w + 1) S (sDrop X (S 1 + 1 - 1)) := by
  have e1 : X 1 = S 1 + 1 := by rw [h 1 (by omega), sAdd_1]
  intro i hi
  unfold sDrop
  by_cases h1 : i = 1
  · rw [if_pos h1, h1, e1]; omega
  · rw [if_neg h1, if_neg (by omega), h i (by rw [sAdd_1]; omega), sAdd_o h1 (by omega) (by omega)]
theorem sAdd_ok {S : Nat → Nat} {a b : Nat} (h : sOk S) (h1 : S 1 ≤ 11) (ha : a ≤ 1000) (hb : b ≤ 1000) : sOk (sAdd S a b) := by
  obtain ⟨hs, h0, -⟩ := h
  refine ⟨fun i => ?_, ?_, ?_⟩
  · unfold sAdd va_up
    split
    · omega
    · split
      · exact hb
      · split
        · exact ha
        · exact hs i
  · rw [sAdd_o (by omega) (by omega) (by omega)]; exact h0
  · rw [sAdd_1]; omega
theorem sNear_ok {w : Nat} {S X : Nat → Nat} (h : sOk S) (hn : sNear w S X) (hx : ∀ i, X i ≤ 1000) : sOk X := ⟨hx, by rw [hn 0 (by omega)]; exact h.2.1, by rw [hn 1 (by omega)]; exact h.2.2⟩
theorem sDrop_le {X : Nat → Nat} {k : Nat} (h : ∀ i, X i ≤ 1000) (i : Nat) : sDrop X k i ≤ 1000 := by
  unfold sDrop
  split
  · have := h 1; omega
  · split
    · exact h _
    · exact h _
def sCopyV (S : Nat → Nat) (nw br k : Nat) : Nat := sAll (sAdd S (k / 10) (k % 10)) nw br
/-- the least with a key more, and which -/
def zlw (val : Nat → Nat) (n than : Nat) : Nat → Nat × Option Nat
  | 0 => (than, none)
  | k + 1 => if k % 10 < n ∧ val k < (zlw val n than k).1 then (val k, some k) else zlw val n than k
theorem zlw_le {val : Nat → Nat} {n than : Nat} : ∀ k, (zlw val n than k).1 ≤ than
  | 0 => Nat.le_refl _
  | k + 1 => by
    have := zlw_le (val := val) (n := n) (than := than) k
    rw [zlw]
    split
    · dsimp only; omega
    · exact this
set_option maxHeartbeats 1000000 in
set_option maxRecDepth 100000 in
theorem s4_lwc_l {t : zMod} {u : zCls} (hm : mOk t) (h11 : mg_s t 1 ≤ 11) {th : Nat} (hth : th ≤ 1000000) : ∀ (k : Nat) (ii : Nat) (le : Nat) (f : Option Nat) (X : Nat → Nat) (O : Nat → Nat) (P : Nat → Nat) (v4 : Value) (hd : ii + k = 10 * mg_s t 0) (hX : sNear 1 (mg_s t) X) (hXl : ∀ i, X i ≤ 1000) (hf : zlw (sCopyV (mg_s t) (mg_nw t) (mg_br t)) (mg_s t 0) th ii = (le, f)) (hO : ∀ i, O i ≤ 1000000) (hP : ∀ i, P i ≤ 1000000), Rq mX4_leastWithCopy 8 none 10 [.ref 0, .int (nI (th)), .int (nI (le)), .int (nI (ii)), v4] [] (hA (mg_re t, X, mg_im t, mg_rd t, mg_ii t, mg_tp t, mg_tl t, mg_ta t, mg_at t, O, P, mg_br t, mg_nw t, mg_fs t, (zor f), mg_kr t, mg_rw t, mg_rc t) u) (fun r h' => ∃ x, r = some x ∧ (∃ (X' O' P' : Nat → Nat), h' = hA (mg_re t, X', mg_im t, mg_rd t, mg_ii t, mg_tp t, mg_tl t, mg_ta t, mg_at t, O', P', mg_br t, mg_nw t, mg_fs t, (zor (zlw (sCopyV (mg_s t) (mg_nw t) (mg_br t)) (mg_s t 0) th (10 * mg_s t 0)).2), mg_kr t, mg_rw t, mg_rc t) u ∧ x = nI (zlw (sCopyV (mg_s t) (mg_nw t) (mg_br t)) (mg_s t 0) th (10 * mg_s t 0)).1 ∧ sNear 1 (mg_s t) X' ∧ (∀ i, X' i ≤ 1000) ∧ (∀ i, O' i ≤ 1000000) ∧ ∀ i, P' i ≤ 1000000)) := by
  intro k
  induction k with
  | zero =>
    intro ii le f X O P v4 hd hX hXl hf hO hP
    obtain ⟨⟨hs, h0, h1⟩, hbr, hnw, hou, hop⟩ := id hm
    have hX0 : X 0 = mg_s t 0 := hX 0 (by omega)
    have hle := zlw_le (val := sCopyV (mg_s t) (mg_nw t) (mg_br t)) (n := mg_s t 0) (than := th) ii
    rw [hf] at hle
    dsimp only at hle
    refine r_iload_n eX4_leastWithCopy_10 rfl rfl ?_
    refine n_bipush 10 eX4_leastWithCopy_11 rfl ?_
    refine r_aload_n eX4_leastWithCopy_13 rfl rfl ?_
    refine r_getf (v := .ref 2) eX4_leastWithCopy_14 fX4_13 rfl rfl ?_
    refine n_iconst 0 eX4_leastWithCopy_17 rfl ?_
    refine n_iald (f := X) (j := 0) eX4_leastWithCopy_18 rfl rfl (by omega) (by decide) ?_
    refine z_top (y := nI (mg_s t 0)) (congrArg nI hX0) ?_
    refine n_mul eX4_leastWithCopy_19 ?_
    refine n_icmp_ge eX4_leastWithCopy_20 (by omega) (by omega) (fun hc20 => ?_) (fun hc20 => absurd hc20 (by omega))
    refine r_iload_n eX4_leastWithCopy_92 rfl rfl ?_
    have e0 : 10 * mg_s t 0 = ii := by omega
    refine z_iret eX4_leastWithCopy_93 rfl rfl ⟨_, rfl, X, O, P, ?_, ?_, hX, hXl, hO, hP⟩
    · rw [e0, hf]
    · rw [e0, hf]
  | succ k ih =>
    intro ii le f X O P v4 hd hX hXl hf hO hP
    obtain ⟨⟨hs, h0, h1⟩, hbr, hnw, hou, hop⟩ := id hm
    have hX0 : X 0 = mg_s t 0 := hX 0 (by omega)
    have hle := zlw_le (val := sCopyV (mg_s t) (mg_nw t) (mg_br t)) (n := mg_s t 0) (than := th) ii
    rw [hf] at hle
    dsimp only at hle
    have hva : sAll (sAdd (mg_s t) (ii / 10) (ii % 10)) (mg_nw t) (mg_br t) ≤ 500000 ∨ sAll (sAdd (mg_s t) (ii / 10) (ii % 10)) (mg_nw t) (mg_br t) = 1000000 := sAll_is (sAdd_ok ⟨hs, h0, h1⟩ h11 (by omega) (by omega))
    refine r_iload_n eX4_leastWithCopy_10 rfl rfl ?_
    refine n_bipush 10 eX4_leastWithCopy_11 rfl ?_
    refine r_aload_n eX4_leastWithCopy_13 rfl rfl ?_
    refine r_getf (v := .ref 2) eX4_leastWithCopy_14 fX4_13 rfl rfl ?_
    refine n_iconst 0 eX4_leastWithCopy_17 rfl ?_
    refine n_iald (f := X) (j := 0) eX4_leastWithCopy_18 rfl rfl (by omega) (by decide) ?_
    refine z_top (y := nI (mg_s t 0)) (congrArg nI hX0) ?_
    refine n_mul eX4_leastWithCopy_19 ?_
    refine n_icmp_ge eX4_leastWithCopy_20 (by omega) (by omega) (fun hc20 => absurd hc20 (by omega)) (fun hc20 => ?_)
    refine r_iload_n eX4_leastWithCopy_23 rfl rfl ?_
    refine n_bipush 10 eX4_leastWithCopy_24 rfl ?_
    refine n_rem eX4_leastWithCopy_26 (by omega) (by omega) (by omega) ?_
    refine r_aload_n eX4_leastWithCopy_27 rfl rfl ?_
    refine r_getf (v := .ref 2) eX4_leastWithCopy_28 fX4_13 rfl rfl ?_
    refine n_iconst 0 eX4_leastWithCopy_31 rfl ?_
    refine n_iald (f := X) (j := 0) eX4_leastWithCopy_32 rfl rfl (by omega) (by decide) ?_
    refine z_top (y := nI (mg_s t 0)) (congrArg nI hX0) ?_
    refine n_icmp_lt eX4_leastWithCopy_33 (by omega) (by omega) (fun hc33 => ?_) (fun hc33 => ?_)
    · refine r_aload_n eX4_leastWithCopy_39 rfl rfl ?_
      refine r_iload_n eX4_leastWithCopy_40 rfl rfl ?_
      refine n_bipush 10 eX4_leastWithCopy_41 rfl ?_
      refine n_div eX4_leastWithCopy_43 (by omega) (by omega) (by omega) ?_
      refine r_iload_n eX4_leastWithCopy_44 rfl rfl ?_
      refine n_bipush 10 eX4_leastWithCopy_45 rfl ?_
      refine n_rem eX4_leastWithCopy_47 (by omega) (by omega) (by omega) ?_
      refine r_callVv2 eX4_leastWithCopy_48 lX4_109 (Or.inl ⟨_, _, _, rfl, rfl, rfl⟩) (s4_addsKey (t := (mg_re t, X, mg_im t, mg_rd t, mg_ii t, mg_tp t, mg_tl t, mg_ta t, mg_at t, O, P, mg_br t, mg_nw t, mg_fs t, (zor f), mg_kr t, mg_rw t, mg_rc t)) (u := u) (show X 1 ≤ 11 by rw [hX 1 (by omega)]; exact h11)) (by omega) (Nat.le_of_ble_eq_true rfl) (fun h1 hq => ?_)
      obtain rfl := (show h1 = hA (mg_re t, (sAdd (mg_s t) (ii / 10) (ii % 10)), mg_im t, mg_rd t, mg_ii t, mg_tp t, mg_tl t, mg_ta t, mg_at t, O, P, mg_br t, mg_nw t, mg_fs t, (zor f), mg_kr t, mg_rw t, mg_rc t) u by rw [← sAdd_same (a := ii / 10) (b := ii % 10) hX]; exact hq)
      refine r_aload_n eX4_leastWithCopy_51 rfl rfl ?_
      refine r_callVi0 eX4_leastWithCopy_52 lX4_152 (Or.inl ⟨_, _, _, rfl, rfl, rfl⟩) (s4_allOut (t := (mg_re t, (sAdd (mg_s t) (ii / 10) (ii % 10)), mg_im t, mg_rd t, mg_ii t, mg_tp t, mg_tl t, mg_ta t, mg_at t, O, P, mg_br t, mg_nw t, mg_fs t, (zor f), mg_kr t, mg_rw t, mg_rc t)) (u := u) ⟨sAdd_ok ⟨hs, h0, h1⟩ h11 (by omega) (by omega), hbr, hnw, hO, hP⟩) (by omega) (Nat.le_of_ble_eq_true rfl) (fun r1 h1 hq => ?_)
      obtain ⟨O9, P9, hh, hr, hou9, hop9⟩ := hq
      obtain rfl := (show h1 = hA (mg_re t, (sAdd (mg_s t) (ii / 10) (ii % 10)), mg_im t, mg_rd t, mg_ii t, mg_tp t, mg_tl t, mg_ta t, mg_at t, O9, P9, mg_br t, mg_nw t, mg_fs t, (zor f), mg_kr t, mg_rw t, mg_rc t) u from hh)
      obtain rfl := (show r1 = nI (sAll (sAdd (mg_s t) (ii / 10) (ii % 10)) (mg_nw t) (mg_br t)) from hr)
      refine r_istore eX4_leastWithCopy_55 (by decide) ?_
      refine r_aload_n eX4_leastWithCopy_57 rfl rfl ?_
      refine r_aload_n eX4_leastWithCopy_58 rfl rfl ?_
      refine r_getf (v := .ref 2) eX4_leastWithCopy_59 fX4_13 rfl rfl ?_
      refine n_iconst 1 eX4_leastWithCopy_62 rfl ?_
      refine n_iald (f := (sAdd (mg_s t) (ii / 10) (ii % 10))) (j := 1) eX4_leastWithCopy_63 rfl rfl (by omega) (by decide) ?_
      refine z_top (y := nI (mg_s t 1 + 1)) (congrArg nI (sAdd_1 _ _ _)) ?_
      refine n_iconst 1 eX4_leastWithCopy_64 rfl ?_
      refine n_sub eX4_leastWithCopy_65 (by omega) ?_
      refine r_callVv1 eX4_leastWithCopy_66 lX4_113 (Or.inl ⟨_, _, _, rfl, rfl, rfl⟩) (s4_takesAway (t := (mg_re t, (sAdd (mg_s t) (ii / 10) (ii % 10)), mg_im t, mg_rd t, mg_ii t, mg_tp t, mg_tl t, mg_ta t, mg_at t, O9, P9, mg_br t, mg_nw t, mg_fs t, (zor f), mg_kr t, mg_rw t, mg_rc t)) (u := u) (show sAdd (mg_s t) (ii / 10) (ii % 10) 1 ≤ 12 by rw [sAdd_1]; omega) (show mg_s t 1 + 1 - 1 < sAdd (mg_s t) (ii / 10) (ii % 10) 1 by rw [sAdd_1]; omega)) (by omega) (Nat.le_of_ble_eq_true rfl) (fun h1 hq => ?_)
      obtain rfl := (show h1 = hA (mg_re t, (sDrop (sAdd (mg_s t) (ii / 10) (ii % 10)) (mg_s t 1 + 1 - 1)), mg_im t, mg_rd t, mg_ii t, mg_tp t, mg_tl t, mg_ta t, mg_at t, O9, P9, mg_br t, mg_nw t, mg_fs t, (zor f), mg_kr t, mg_rw t, mg_rc t) u from hq)
      refine r_iload eX4_leastWithCopy_69 rfl ?_
      refine r_iload_n eX4_leastWithCopy_71 rfl rfl ?_
      refine n_icmp_lt eX4_leastWithCopy_72 (by omega) (by omega) (fun hc72 => ?_) (fun hc72 => ?_)
      · refine r_iload eX4_leastWithCopy_78 rfl ?_
        refine r_istore_n eX4_leastWithCopy_80 rfl (by decide) ?_
        refine r_aload_n eX4_leastWithCopy_81 rfl rfl ?_
        refine r_iload_n eX4_leastWithCopy_82 rfl rfl ?_
        refine mp_bc eX4_leastWithCopy_83 fX4_167 ?_
        refine n_iinc (k := 1) eX4_leastWithCopy_86 rfl (by decide) rfl ?_
        refine r_goto eX4_leastWithCopy_89 ?_
        exact ih (ii + 1) (sAll (sAdd (mg_s t) (ii / 10) (ii % 10)) (mg_nw t) (mg_br t)) (some ii) (sDrop (sAdd (mg_s t) (ii / 10) (ii % 10)) (mg_s t 1 + 1 - 1)) O9 P9 _ (by omega) (sDrop_near (sNear_rf 0 _)) (sDrop_le (sAdd_ok ⟨hs, h0, h1⟩ h11 (by omega) (by omega)).1) (by rw [zlw, if_pos ⟨by omega, by rw [hf]; exact hc72⟩]; rfl) hou9 hop9
      · refine r_goto eX4_leastWithCopy_75 ?_
        refine n_iinc (k := 1) eX4_leastWithCopy_86 rfl (by decide) rfl ?_
        refine r_goto eX4_leastWithCopy_89 ?_
        exact ih (ii + 1) (le) f (sDrop (sAdd (mg_s t) (ii / 10) (ii % 10)) (mg_s t 1 + 1 - 1)) O9 P9 _ (by omega) (sDrop_near (sNear_rf 0 _)) (sDrop_le (sAdd_ok ⟨hs, h0, h1⟩ h11 (by omega) (by omega)).1) (by rw [zlw, if_neg (fun z => by rw [hf] at z; exact Nat.not_lt.mpr hc72 z.2)]; exact hf) hou9 hop9
    · refine r_goto eX4_leastWithCopy_36 ?_
      refine n_iinc (k := 1) eX4_leastWithCopy_86 rfl (by decide) rfl ?_
      refine r_goto eX4_leastWithCopy_89 ?_
      exact ih (ii + 1) le f X O P _ (by omega) hX hXl (by rw [zlw, if_neg (fun z => by omega)]; exact hf) hO hP
set_option maxHeartbeats 1000000 in
set_option maxRecDepth 100000 in
theorem s4_leastWithCopy {t : zMod} {u : zCls} (hm : mOk t) (h11 : mg_s t 1 ≤ 11) {th : Nat} (hth : th ≤ 1000000) : Mi mX4_leastWithCopy 8 [.ref 0, .int (nI (th))] (hA t u) (fun r h' => ∃ (X' O' P' : Nat → Nat), h' = hA (mg_re t, X', mg_im t, mg_rd t, mg_ii t, mg_tp t, mg_tl t, mg_ta t, mg_at t, O', P', mg_br t, mg_nw t, mg_fs t, (zor (zlw (sCopyV (mg_s t) (mg_nw t) (mg_br t)) (mg_s t 0) th (10 * mg_s t 0)).2), mg_kr t, mg_rw t, mg_rc t) u ∧ r = nI (zlw (sCopyV (mg_s t) (mg_nw t) (mg_br t)) (mg_s t 0) th (10 * mg_s t 0)).1 ∧ sNear 1 (mg_s t) X' ∧ (∀ i, X' i ≤ 1000) ∧ (∀ i, O' i ≤ 1000000) ∧ ∀ i, P' i ≤ 1000000) := by
  obtain ⟨⟨hs, h0, h1⟩, hbr, hnw, hou, hop⟩ := id hm
  refine Mi.of (by decide) rfl (Nat.le_of_ble_eq_true rfl) ?_
  refine r_iload_n eX4_leastWithCopy_0 rfl rfl ?_
  refine r_istore_n eX4_leastWithCopy_1 rfl (by decide) ?_
  refine r_aload_n eX4_leastWithCopy_2 rfl rfl ?_
  refine r_bipush (v := (-9)) eX4_leastWithCopy_3 rfl ?_
  refine z_h (h' := hA (mg_re t, mg_s t, mg_im t, mg_rd t, mg_ii t, mg_tp t, mg_tl t, mg_ta t, mg_at t, mg_ou t, mg_op t, mg_br t, mg_nw t, mg_fs t, mg_bc t, mg_kr t, mg_rw t, mg_rc t) u) rfl ?_
  refine mp_bc eX4_leastWithCopy_5 fX4_167 ?_
  refine n_iconst 0 eX4_leastWithCopy_8 rfl ?_
  refine r_istore_n eX4_leastWithCopy_9 rfl (by decide) ?_
  refine z_h (h' := hA (mg_re t, (mg_s t), mg_im t, mg_rd t, mg_ii t, mg_tp t, mg_tl t, mg_ta t, mg_at t, (mg_ou t), (mg_op t), mg_br t, mg_nw t, mg_fs t, (zor none), mg_kr t, mg_rw t, mg_rc t) u) rfl ?_
  exact s4_lwc_l hm h11 hth (10 * mg_s t 0) 0 th none (mg_s t) (mg_ou t) (mg_op t) (.retAddr 0) (Nat.zero_add _) (sNear_rf 1 _) hs rfl hou hop
set_option maxHeartbeats 1000000 in
set_option maxRecDepth 100000 in
theorem s4_copy_n {t : zMod} {u : zCls} (hm : mOk t) (h0n : mg_s t 0 = 0) : Mi mX4_copy 10 [.ref 0] (hA t u) (fun r h' => r = (-3) ∧ h' = hA ((va_up (mg_re t) 3 (mg_re t 3 + 1)), mg_s t, mg_im t, mg_rd t, mg_ii t, mg_tp t, mg_tl t, mg_ta t, mg_at t, mg_ou t, mg_op t, mg_br t, mg_nw t, mg_fs t, mg_bc t, mg_kr t, mg_rw t, mg_rc t) u) := by
  refine Mi.of (by decide) rfl (Nat.le_of_ble_eq_true rfl) ?_
  refine r_aload_n eX4_copy_0 rfl rfl ?_
  refine r_getf (v := .ref 2) eX4_copy_1 fX4_13 rfl rfl ?_
  refine n_iconst 0 eX4_copy_4 rfl ?_
  refine n_iald (f := mg_s t) (j := 0) eX4_copy_5 rfl rfl (by omega) (by decide) ?_
  refine n_if_ne eX4_copy_6 (by omega) (fun hc6 => absurd hc6 (by omega)) (fun hc6 => ?_)
  refine r_aload_n eX4_copy_9 rfl rfl ?_
  refine r_bipush (v := (-3)) eX4_copy_10 rfl ?_
  refine r_callVi1 eX4_copy_12 lX4_52 (Or.inl ⟨_, _, _, rfl, rfl, rfl⟩) (s4_refuse (t := t) (u := u) (x := (-3)) (c := 3) (by decide) (by decide)) (by omega) (Nat.le_of_ble_eq_true rfl) (fun r1 h1 hq => ?_)
  obtain ⟨rfl, rfl⟩ := (show r1 = (-3) ∧ h1 = hA ((va_up (mg_re t) 3 ((mg_re t) 3 + 1)), mg_s t, mg_im t, mg_rd t, mg_ii t, mg_tp t, mg_tl t, mg_ta t, mg_at t, mg_ou t, mg_op t, mg_br t, mg_nw t, mg_fs t, mg_bc t, mg_kr t, mg_rw t, mg_rc t) u from hq)
  exact z_iret eX4_copy_15 rfl rfl ⟨_, rfl, rfl, rfl⟩
set_option maxHeartbeats 1000000 in
set_option maxRecDepth 100000 in
theorem s4_copy_k {t : zMod} {u : zCls} (hm : mOk t) (h11 : mg_s t 1 ≤ 11) (h0n : ¬ mg_s t 0 = 0) : Mi mX4_copy 10 [.ref 0] (hA t u) (fun r h' => ∃ (X' O' P' : Nat → Nat), h' = hA (mg_re t, X', mg_im t, mg_rd t, mg_ii t, mg_tp t, mg_tl t, mg_ta t, mg_at t, O', P', mg_br t, mg_nw t, mg_fs t, (zor (zlw (sCopyV (mg_s t) (mg_nw t) (mg_br t)) (mg_s t 0) (sAll (mg_s t) (mg_nw t) (mg_br t)) (10 * mg_s t 0)).2), mg_kr t, mg_rw t, mg_rc t) u ∧ r = (zor (zlw (sCopyV (mg_s t) (mg_nw t) (mg_br t)) (mg_s t 0) (sAll (mg_s t) (mg_nw t) (mg_br t)) (10 * mg_s t 0)).2) ∧ sNear 1 (mg_s t) X' ∧ (∀ i, X' i ≤ 1000) ∧ (∀ i, O' i ≤ 1000000) ∧ ∀ i, P' i ≤ 1000000) := by
  obtain ⟨⟨hs, h0, h1⟩, hbr, hnw, hou, hop⟩ := id hm
  have hal := sAll_is (nw := mg_nw t) (br := mg_br t) ⟨hs, h0, h1⟩
  refine Mi.of (by decide) rfl (Nat.le_of_ble_eq_true rfl) ?_
  refine r_aload_n eX4_copy_0 rfl rfl ?_
  refine r_getf (v := .ref 2) eX4_copy_1 fX4_13 rfl rfl ?_
  refine n_iconst 0 eX4_copy_4 rfl ?_
  refine n_iald (f := mg_s t) (j := 0) eX4_copy_5 rfl rfl (by first | omega | exact zlt (hs _) | exact hou _ | exact hop _) (by decide) ?_
  refine n_if_ne eX4_copy_6 (by first | omega | exact zlt (hs _) | exact hou _ | exact hop _) (fun hc6 => ?_) (fun hc6 => absurd hc6 (by omega))
  refine r_aload_n eX4_copy_16 rfl rfl ?_
  refine r_aload_n eX4_copy_17 rfl rfl ?_
  refine r_callVi0 eX4_copy_18 lX4_152 (Or.inl ⟨_, _, _, rfl, rfl, rfl⟩) (s4_allOut (t := t) (u := u) hm) (by omega) (Nat.le_of_ble_eq_true rfl) (fun r1 h1 hq => ?_)
  obtain ⟨O18, P18, hh, hr, hou18, hop18⟩ := hq
  obtain rfl := (show h1 = hA (mg_re t, mg_s t, mg_im t, mg_rd t, mg_ii t, mg_tp t, mg_tl t, mg_ta t, mg_at t, O18, P18, mg_br t, mg_nw t, mg_fs t, mg_bc t, mg_kr t, mg_rw t, mg_rc t) u from hh)
  obtain rfl := (show r1 = nI (sAll (mg_s t) (mg_nw t) (mg_br t)) from hr)
  refine r_callVi1 eX4_copy_21 lX4_170 (Or.inl ⟨_, _, _, rfl, rfl, rfl⟩) (s4_leastWithCopy (t := (mg_re t, mg_s t, mg_im t, mg_rd t, mg_ii t, mg_tp t, mg_tl t, mg_ta t, mg_at t, O18, P18, mg_br t, mg_nw t, mg_fs t, mg_bc t, mg_kr t, mg_rw t, mg_rc t)) (u := u) ⟨⟨hs, h0, h1⟩, hbr, hnw, hou18, hop18⟩ h11 (by omega)) (by omega) (Nat.le_of_ble_eq_true rfl) (fun r1 h1 hq => ?_)
  obtain ⟨X21, O21, P21, hh, hr, hX21, hXl21, hou21, hop21⟩ := hq
  have hX21 : sNear 1 (mg_s t) X21 := hX21
  obtain rfl := (show h1 = hA (mg_re t, X21, mg_im t, mg_rd t, mg_ii t, mg_tp t, mg_tl t, mg_ta t, mg_at t, O21, P21, mg_br t, mg_nw t, mg_fs t, (zor (zlw (sCopyV (mg_s t) (mg_nw t) (mg_br t)) (mg_s t 0) (sAll (mg_s t) (mg_nw t) (mg_br t)) (10 * mg_s t 0)).2), mg_kr t, mg_rw t, mg_rc t) u from hh)
  obtain rfl := (show r1 = nI ((zlw (sCopyV (mg_s t) (mg_nw t) (mg_br t)) (mg_s t 0) (sAll (mg_s t) (mg_nw t) (mg_br t)) (10 * mg_s t 0)).1) from hr)
  refine r_istore_n eX4_copy_24 rfl (by decide) ?_
  refine r_aload_n eX4_copy_25 rfl rfl ?_
  refine r_getf (v := .int ((zor (zlw (sCopyV (mg_s t) (mg_nw t) (mg_br t)) (mg_s t 0) (sAll (mg_s t) (mg_nw t) (mg_br t)) (10 * mg_s t 0)).2))) eX4_copy_26 fX4_167 rfl rfl ?_
  exact z_iret eX4_copy_29 rfl rfl ⟨_, rfl, X21, O21, P21, rfl, rfl, hX21, hXl21, hou21, hop21⟩
def zby2 (f : Nat → Bool) (n : Nat) : Nat → Bool
  | 0 => false
  | k + 1 => zby2 f n k || (decide (k % 10 < n) && f k)
theorem zby2_mono {f : Nat → Bool} {n : Nat} : ∀ {k j : Nat}, zby2 f n k = true → k ≤ j → zby2 f n j = true
  | k, 0, h, hj => by
    have : k = 0 := by omega
    subst this
    exact h
  | k, j + 1, h, hj => by
    by_cases e : k = j + 1
    · subst e; exact h
    · rw [zby2, zby2_mono (j := j) h (by omega)]; rfl
def sBy2 (S : Nat → Nat) (nw br mi k : Nat) : Bool := decide ((zlw (sCopyV (sAdd S (k / 10) (k % 10)) nw br) (S 0) 1000000 (10 * S 0)).1 ≤ mi)
theorem sCopyV_near {S X : Nat → Nat} (h : sNear 1 S X) (nw br k : Nat) : sCopyV X nw br k = sCopyV S nw br k := by
  unfold sCopyV
  rw [sAdd_same h]
set_option maxHeartbeats 1000000 in
set_option maxRecDepth 100000 in
theorem s4_by2_l {t : zMod} {u : zCls} (hm : mOk t) (h10 : mg_s t 1 ≤ 10) {mi : Nat} (hmi : mi < 2 ^ 31) : ∀ (k : Nat) (ii : Nat) (bb : Nat) (X : Nat → Nat) (O : Nat → Nat) (P : Nat → Nat) (bc9 : Int32) (hd : ii + k = 10 * mg_s t 0) (hbb : bb < 2) (hX : sNear 2 (mg_s t) X) (hXl : ∀ i, X i ≤ 1000) (hb : zby2 (sBy2 (mg_s t) (mg_nw t) (mg_br t) mi) (mg_s t 0) ii = decide (bb = 1)) (hO : ∀ i, O i ≤ 1000000) (hP : ∀ i, P i ≤ 1000000), Rq mX4_isByTwo 10 none 4 [.ref 0, .int (nI (mi)), .int (nI (bb)), .int (nI (ii))] [] (hA (mg_re t, X, mg_im t, mg_rd t, mg_ii t, mg_tp t, mg_tl t, mg_ta t, mg_at t, O, P, mg_br t, mg_nw t, mg_fs t, bc9, mg_kr t, mg_rw t, mg_rc t) u) (fun r h' => ∃ x, r = some x ∧ (∃ (X' O' P' : Nat → Nat) (b' : Int32), h' = hA (mg_re t, X', mg_im t, mg_rd t, mg_ii t, mg_tp t, mg_tl t, mg_ta t, mg_at t, O', P', mg_br t, mg_nw t, mg_fs t, b', mg_kr t, mg_rw t, mg_rc t) u ∧ x = nI (zby2 (sBy2 (mg_s t) (mg_nw t) (mg_br t) mi) (mg_s t 0) (10 * mg_s t 0)).toNat ∧ sNear 2 (mg_s t) X' ∧ (∀ i, X' i ≤ 1000) ∧ (∀ i, O' i ≤ 1000000) ∧ ∀ i, P' i ≤ 1000000)) := by
  intro k
  induction k with
  | zero =>
    intro ii bb X O P bc9 hd hbb hX hXl hb hO hP
    obtain ⟨⟨hs, h0, h1⟩, hbr, hnw, hou, hop⟩ := id hm
    have hX0 : X 0 = mg_s t 0 := hX 0 (by omega)
    have hX1 : X 1 = mg_s t 1 := hX 1 (by omega)
    refine r_iload_n eX4_isByTwo_4 rfl rfl ?_
    refine n_bipush 10 eX4_isByTwo_5 rfl ?_
    refine r_aload_n eX4_isByTwo_7 rfl rfl ?_
    refine r_getf (v := .ref 2) eX4_isByTwo_8 fX4_13 rfl rfl ?_
    refine n_iconst 0 eX4_isByTwo_11 rfl ?_
    refine n_iald (f := X) (j := 0) eX4_isByTwo_12 rfl rfl (by omega) (by decide) ?_
    refine z_top (y := nI (mg_s t 0)) (congrArg nI hX0) ?_
    refine n_mul eX4_isByTwo_13 ?_
    refine n_icmp_ge eX4_isByTwo_14 (by omega) (by omega) (fun hc14 => ?_) (fun hc14 => absurd hc14 (by omega))
    refine r_iload_n eX4_isByTwo_83 rfl rfl ?_
    refine z_iret eX4_isByTwo_84 rfl (by first | decide | exact (zb_bool hbb).1) ⟨_, rfl, X, O, P, bc9, rfl, congrArg nI ?_, hX, hXl, hO, hP⟩
    rw [show 10 * mg_s t 0 = ii by omega, hb]; rcases (show bb = 0 ∨ bb = 1 by omega) with rfl | rfl <;> rfl
  | succ k ih =>
    intro ii bb X O P bc9 hd hbb hX hXl hb hO hP
    obtain ⟨⟨hs, h0, h1⟩, hbr, hnw, hou, hop⟩ := id hm
    have hX0 : X 0 = mg_s t 0 := hX 0 (by omega)
    have hX1 : X 1 = mg_s t 1 := hX 1 (by omega)
    have hz := zlw_le (val := sCopyV (sAdd (mg_s t) (ii / 10) (ii % 10)) (mg_nw t) (mg_br t)) (n := mg_s t 0) (than := 1000000) (10 * mg_s t 0)
    refine r_iload_n eX4_isByTwo_4 rfl rfl ?_
    refine n_bipush 10 eX4_isByTwo_5 rfl ?_
    refine r_aload_n eX4_isByTwo_7 rfl rfl ?_
    refine r_getf (v := .ref 2) eX4_isByTwo_8 fX4_13 rfl rfl ?_
    refine n_iconst 0 eX4_isByTwo_11 rfl ?_
    refine n_iald (f := X) (j := 0) eX4_isByTwo_12 rfl rfl (by omega) (by decide) ?_
    refine z_top (y := nI (mg_s t 0)) (congrArg nI hX0) ?_
    refine n_mul eX4_isByTwo_13 ?_
    refine n_icmp_ge eX4_isByTwo_14 (by omega) (by omega) (fun hc14 => absurd hc14 (by omega)) (fun hc14 => ?_)
    refine r_iload_n eX4_isByTwo_17 rfl rfl ?_
    refine n_if_ne eX4_isByTwo_18 (by omega) (fun hc18 => ?_) (fun hc18 => ?_)
    · refine r_iload_n eX4_isByTwo_83 rfl rfl ?_
      refine z_iret eX4_isByTwo_84 rfl (by first | decide | exact (zb_bool hbb).1) ⟨_, rfl, X, O, P, bc9, rfl, congrArg nI ?_, hX, hXl, hO, hP⟩
      have hb1 : bb = 1 := by omega
      subst hb1
      rw [zby2_mono (k := ii) hb (by omega)]
      rfl
    · refine r_iload_n eX4_isByTwo_21 rfl rfl ?_
      refine n_bipush 10 eX4_isByTwo_22 rfl ?_
      refine n_rem eX4_isByTwo_24 (by omega) (by omega) (by omega) ?_
      refine r_aload_n eX4_isByTwo_25 rfl rfl ?_
      refine r_getf (v := .ref 2) eX4_isByTwo_26 fX4_13 rfl rfl ?_
      refine n_iconst 0 eX4_isByTwo_29 rfl ?_
      refine n_iald (f := X) (j := 0) eX4_isByTwo_30 rfl rfl (by omega) (by decide) ?_
      refine z_top (y := nI (mg_s t 0)) (congrArg nI hX0) ?_
      refine n_icmp_lt eX4_isByTwo_31 (by omega) (by omega) (fun hc31 => ?_) (fun hc31 => ?_)
      · refine r_aload_n eX4_isByTwo_37 rfl rfl ?_
        refine r_iload_n eX4_isByTwo_38 rfl rfl ?_
        refine n_bipush 10 eX4_isByTwo_39 rfl ?_
        refine n_div eX4_isByTwo_41 (by omega) (by omega) (by omega) ?_
        refine r_iload_n eX4_isByTwo_42 rfl rfl ?_
        refine n_bipush 10 eX4_isByTwo_43 rfl ?_
        refine n_rem eX4_isByTwo_45 (by omega) (by omega) (by omega) ?_
        refine r_callVv2 eX4_isByTwo_46 lX4_109 (Or.inl ⟨_, _, _, rfl, rfl, rfl⟩) (s4_addsKey (t := (mg_re t, X, mg_im t, mg_rd t, mg_ii t, mg_tp t, mg_tl t, mg_ta t, mg_at t, O, P, mg_br t, mg_nw t, mg_fs t, bc9, mg_kr t, mg_rw t, mg_rc t)) (u := u) (show X 1 ≤ 11 by omega)) (by omega) (Nat.le_of_ble_eq_true rfl) (fun h1 hq => ?_)
        obtain rfl := (show h1 = hA (mg_re t, (sAdd X (ii / 10) (ii % 10)), mg_im t, mg_rd t, mg_ii t, mg_tp t, mg_tl t, mg_ta t, mg_at t, O, P, mg_br t, mg_nw t, mg_fs t, bc9, mg_kr t, mg_rw t, mg_rc t) u from hq)
        refine r_aload_n eX4_isByTwo_49 rfl rfl ?_
        refine n_ldc 1000000 eX4_isByTwo_50 kX4_129 rfl ?_
        refine r_callVi1 eX4_isByTwo_52 lX4_170 (Or.inl ⟨_, _, _, rfl, rfl, rfl⟩) (s4_leastWithCopy (t := (mg_re t, (sAdd X (ii / 10) (ii % 10)), mg_im t, mg_rd t, mg_ii t, mg_tp t, mg_tl t, mg_ta t, mg_at t, O, P, mg_br t, mg_nw t, mg_fs t, bc9, mg_kr t, mg_rw t, mg_rc t)) (u := u) ⟨sAdd_ok (sNear_ok ⟨hs, h0, h1⟩ hX hXl) (by omega) (by omega) (by omega), hbr, hnw, hO, hP⟩ (show sAdd X (ii / 10) (ii % 10) 1 ≤ 11 by rw [sAdd_1]; omega) (show 1000000 ≤ 1000000 by omega)) (by omega) (Nat.le_of_ble_eq_true rfl) (fun r1 h1 hq => ?_)
        obtain ⟨X9, O9, P9, hh, hr, hX9, hXl9, hou9, hop9⟩ := hq
        obtain ⟨b9, hb9⟩ : ∃ b, b = (zor (zlw (sCopyV (sAdd X (ii / 10) (ii % 10)) (mg_nw t) (mg_br t)) ((sAdd X (ii / 10) (ii % 10)) 0) 1000000 (10 * (sAdd X (ii / 10) (ii % 10)) 0)).2) := ⟨_, rfl⟩
        obtain rfl := (show h1 = hA (mg_re t, X9, mg_im t, mg_rd t, mg_ii t, mg_tp t, mg_tl t, mg_ta t, mg_at t, O9, P9, mg_br t, mg_nw t, mg_fs t, b9, mg_kr t, mg_rw t, mg_rc t) u by rw [hb9]; exact hh)
        obtain rfl : r1 = nI ((zlw (sCopyV (sAdd (mg_s t) (ii / 10) (ii % 10)) (mg_nw t) (mg_br t)) (mg_s t 0) 1000000 (10 * mg_s t 0)).1) := by
          have e1 : sCopyV (sAdd X (ii / 10) (ii % 10)) (mg_nw t) (mg_br t) = sCopyV (sAdd (mg_s t) (ii / 10) (ii % 10)) (mg_nw t) (mg_br t) := funext fun k9 => sCopyV_near (sAdd_near hX) _ _ k9
          have e2 : (sAdd X (ii / 10) (ii % 10)) 0 = mg_s t 0 := by rw [sAdd_o (by omega) (by omega) (by omega)]; exact hX0
          rw [show r1 = nI (zlw (sCopyV (sAdd X (ii / 10) (ii % 10)) (mg_nw t) (mg_br t)) ((sAdd X (ii / 10) (ii % 10)) 0) 1000000 (10 * (sAdd X (ii / 10) (ii % 10)) 0)).1 from hr, e1, e2]
        have hX91 : X9 1 = mg_s t 1 + 1 := ((hX9 1 (fun z => absurd z.1 (by omega))).trans (sAdd_1 X (ii / 10) (ii % 10))).trans (by rw [hX1])
        refine r_iload_n eX4_isByTwo_55 rfl rfl ?_
        refine n_icmp_gt eX4_isByTwo_56 (by omega) (by omega) (fun hc56 => ?_) (fun hc56 => ?_)
        · refine n_iconst 0 eX4_isByTwo_63 rfl ?_
          refine r_istore_n eX4_isByTwo_64 rfl (by decide) ?_
          refine r_aload_n eX4_isByTwo_65 rfl rfl ?_
          refine r_aload_n eX4_isByTwo_66 rfl rfl ?_
          refine r_getf (v := .ref 2) eX4_isByTwo_67 fX4_13 rfl rfl ?_
          refine n_iconst 1 eX4_isByTwo_70 rfl ?_
          refine n_iald (f := X9) (j := 1) eX4_isByTwo_71 rfl rfl (by omega) (by decide) ?_
          refine z_top (y := nI (mg_s t 1 + 1)) (congrArg nI hX91) ?_
          refine n_iconst 1 eX4_isByTwo_72 rfl ?_
          refine n_sub eX4_isByTwo_73 (by omega) ?_
          refine r_callVv1 eX4_isByTwo_74 lX4_113 (Or.inl ⟨_, _, _, rfl, rfl, rfl⟩) (s4_takesAway (t := (mg_re t, X9, mg_im t, mg_rd t, mg_ii t, mg_tp t, mg_tl t, mg_ta t, mg_at t, O9, P9, mg_br t, mg_nw t, mg_fs t, b9, mg_kr t, mg_rw t, mg_rc t)) (u := u) (show X9 1 ≤ 12 by omega) (show mg_s t 1 + 1 - 1 < X9 1 by omega)) (by omega) (Nat.le_of_ble_eq_true rfl) (fun h1 hq => ?_)
          obtain rfl := (show h1 = hA (mg_re t, (sDrop X9 (mg_s t 1 + 1 - 1)), mg_im t, mg_rd t, mg_ii t, mg_tp t, mg_tl t, mg_ta t, mg_at t, O9, P9, mg_br t, mg_nw t, mg_fs t, b9, mg_kr t, mg_rw t, mg_rc t) u from hq)
          refine n_iinc (k := 1) eX4_isByTwo_77 rfl (by decide) rfl ?_
          refine r_goto eX4_isByTwo_80 ?_
          have hdec : sBy2 (mg_s t) (mg_nw t) (mg_br t) mi ii = false := decide_eq_false (by omega)
          have hnr : sNear 1 (sAdd (mg_s t) (ii / 10) (ii % 10)) X9 := fun i hi => by
            have q1 := sAdd_near (a := ii / 10) (b := ii % 10) hX i hi
            rw [sAdd_1] at hi
            refine (hX9 i ?_).trans q1
            show ¬ (40 + 2 * sAdd X (ii / 10) (ii % 10) 1 ≤ i ∧ i < 40 + 2 * sAdd X (ii / 10) (ii % 10) 1 + 2 * 1)
            rw [sAdd_1, hX1]
            exact hi
          exact ih (ii + 1) 0 (sDrop X9 (mg_s t 1 + 1 - 1)) O9 P9 b9 (by omega) (by omega) (sDrop_near hnr) (sDrop_le hXl9) (by rw [zby2, hb, (decide_eq_false (by omega) : decide (bb = 1) = false), hdec, decide_eq_true (show ii % 10 < mg_s t 0 by omega)]; rfl) hou9 hop9
        · refine n_iconst 1 eX4_isByTwo_59 rfl ?_
          refine r_goto eX4_isByTwo_60 ?_
          refine r_istore_n eX4_isByTwo_64 rfl (by decide) ?_
          refine r_aload_n eX4_isByTwo_65 rfl rfl ?_
          refine r_aload_n eX4_isByTwo_66 rfl rfl ?_
          refine r_getf (v := .ref 2) eX4_isByTwo_67 fX4_13 rfl rfl ?_
          refine n_iconst 1 eX4_isByTwo_70 rfl ?_
          refine n_iald (f := X9) (j := 1) eX4_isByTwo_71 rfl rfl (by omega) (by decide) ?_
          refine z_top (y := nI (mg_s t 1 + 1)) (congrArg nI hX91) ?_
          refine n_iconst 1 eX4_isByTwo_72 rfl ?_
          refine n_sub eX4_isByTwo_73 (by omega) ?_
          refine r_callVv1 eX4_isByTwo_74 lX4_113 (Or.inl ⟨_, _, _, rfl, rfl, rfl⟩) (s4_takesAway (t := (mg_re t, X9, mg_im t, mg_rd t, mg_ii t, mg_tp t, mg_tl t, mg_ta t, mg_at t, O9, P9, mg_br t, mg_nw t, mg_fs t, b9, mg_kr t, mg_rw t, mg_rc t)) (u := u) (show X9 1 ≤ 12 by omega) (show mg_s t 1 + 1 - 1 < X9 1 by omega)) (by omega) (Nat.le_of_ble_eq_true rfl) (fun h1 hq => ?_)
          obtain rfl := (show h1 = hA (mg_re t, (sDrop X9 (mg_s t 1 + 1 - 1)), mg_im t, mg_rd t, mg_ii t, mg_tp t, mg_tl t, mg_ta t, mg_at t, O9, P9, mg_br t, mg_nw t, mg_fs t, b9, mg_kr t, mg_rw t, mg_rc t) u from hq)
          refine n_iinc (k := 1) eX4_isByTwo_77 rfl (by decide) rfl ?_
          refine r_goto eX4_isByTwo_80 ?_
          have hdec : sBy2 (mg_s t) (mg_nw t) (mg_br t) mi ii = true := decide_eq_true (by omega)
          have hnr : sNear 1 (sAdd (mg_s t) (ii / 10) (ii % 10)) X9 := fun i hi => by
            have q1 := sAdd_near (a := ii / 10) (b := ii % 10) hX i hi
            rw [sAdd_1] at hi
            refine (hX9 i ?_).trans q1
            show ¬ (40 + 2 * sAdd X (ii / 10) (ii % 10) 1 ≤ i ∧ i < 40 + 2 * sAdd X (ii / 10) (ii % 10) 1 + 2 * 1)
            rw [sAdd_1, hX1]
            exact hi
          exact ih (ii + 1) 1 (sDrop X9 (mg_s t 1 + 1 - 1)) O9 P9 b9 (by omega) (by omega) (sDrop_near hnr) (sDrop_le hXl9) (by rw [zby2, hb, (decide_eq_false (by omega) : decide (bb = 1) = false), hdec, decide_eq_true (show ii % 10 < mg_s t 0 by omega)]; rfl) hou9 hop9
      · refine r_goto eX4_isByTwo_34 ?_
        refine n_iinc (k := 1) eX4_isByTwo_77 rfl (by decide) rfl ?_
        refine r_goto eX4_isByTwo_80 ?_
        exact ih (ii + 1) bb X O P bc9 (by omega) (by omega) hX hXl (by rw [zby2, hb, (decide_eq_false (by omega) : decide (ii % 10 < mg_s t 0) = false), Bool.false_and, Bool.or_false]) hO hP
set_option maxHeartbeats 1000000 in
set_option maxRecDepth 100000 in
theorem s4_isByTwo {t : zMod} {u : zCls} (hm : mOk t) (h10 : mg_s t 1 ≤ 10) {mi : Nat} (hmi : mi < 2 ^ 31) : Mi mX4_isByTwo 10 [.ref 0, .int (nI (mi))] (hA t u) (fun r h' => ∃ (X' O' P' : Nat → Nat) (b' : Int32), h' = hA (mg_re t, X', mg_im t, mg_rd t, mg_ii t, mg_tp t, mg_tl t, mg_ta t, mg_at t, O', P', mg_br t, mg_nw t, mg_fs t, b', mg_kr t, mg_rw t, mg_rc t) u ∧ r = nI (zby2 (sBy2 (mg_s t) (mg_nw t) (mg_br t) mi) (mg_s t 0) (10 * mg_s t 0)).toNat ∧ sNear 2 (mg_s t) X' ∧ (∀ i, X' i ≤ 1000) ∧ (∀ i, O' i ≤ 1000000) ∧ ∀ i, P' i ≤ 1000000) := by
  obtain ⟨⟨hs, h0, h1⟩, hbr, hnw, hou, hop⟩ := id hm
  refine Mi.of (by decide) rfl (Nat.le_of_ble_eq_true rfl) ?_
  refine n_iconst 0 eX4_isByTwo_0 rfl ?_
  refine r_istore_n eX4_isByTwo_1 rfl (by decide) ?_
  refine n_iconst 0 eX4_isByTwo_2 rfl ?_
  refine r_istore_n eX4_isByTwo_3 rfl (by decide) ?_
  refine z_h (h' := hA (mg_re t, mg_s t, mg_im t, mg_rd t, mg_ii t, mg_tp t, mg_tl t, mg_ta t, mg_at t, mg_ou t, mg_op t, mg_br t, mg_nw t, mg_fs t, mg_bc t, mg_kr t, mg_rw t, mg_rc t) u) rfl ?_
  exact s4_by2_l hm h10 hmi (10 * mg_s t 0) 0 0 (mg_s t) (mg_ou t) (mg_op t) (mg_bc t) (Nat.zero_add _) (by omega) (sNear_rf 2 _) hs rfl hou hop
/-- the fewest keys more -/
def sCps (S : Nat → Nat) (nw br mi : Nat) : Int32 :=
  if sAll S nw br < 1000000 ∧ sAll S nw br ≤ mi then 0
  else if (zlw (sCopyV S nw br) (S 0) 1000000 (10 * S 0)).1 < 1000000 ∧ (zlw (sCopyV S nw br) (S 0) 1000000 (10 * S 0)).1 ≤ mi then 1
  else if zby2 (sBy2 S nw br (if mi < 1000000 then mi else 999999)) (S 0) (10 * S 0) = true then 2 else -9
set_option maxHeartbeats 1000000 in
set_option maxRecDepth 100000 in
theorem s4_copies_b {t : zMod} {u : zCls} {x : Int32} (hx : x < 0) : Mi mX4_copies 12 [.ref 0, .int (x)] (hA t u) (fun r h' => r = (-4) ∧ h' = hA ((va_up (mg_re t) 4 (mg_re t 4 + 1)), mg_s t, mg_im t, mg_rd t, mg_ii t, mg_tp t, mg_tl t, mg_ta t, mg_at t, mg_ou t, mg_op t, mg_br t, mg_nw t, mg_fs t, mg_bc t, mg_kr t, mg_rw t, mg_rc t) u) := by
  refine Mi.of (by decide) rfl (Nat.le_of_ble_eq_true rfl) ?_
  refine r_iload_n eX4_copies_0 rfl rfl ?_
  refine r_if_ge eX4_copies_1 (fun hc1 => absurd hc1 (Int32.not_le.mpr hx)) (fun hc1 => ?_)
  refine r_aload_n eX4_copies_4 rfl rfl ?_
  refine r_bipush (v := (-4)) eX4_copies_5 rfl ?_
  refine r_callVi1 eX4_copies_7 lX4_52 (Or.inl ⟨_, _, _, rfl, rfl, rfl⟩) (s4_refuse (t := t) (u := u) (x := (-4)) (c := 4) (by decide) (by decide)) (by omega) (Nat.le_of_ble_eq_true rfl) (fun r1 h1 hq => ?_)
  obtain ⟨rfl, rfl⟩ := (show r1 = (-4) ∧ h1 = hA ((va_up (mg_re t) 4 ((mg_re t) 4 + 1)), mg_s t, mg_im t, mg_rd t, mg_ii t, mg_tp t, mg_tl t, mg_ta t, mg_at t, mg_ou t, mg_op t, mg_br t, mg_nw t, mg_fs t, mg_bc t, mg_kr t, mg_rw t, mg_rc t) u from hq)
  exact z_iret eX4_copies_10 rfl rfl ⟨_, rfl, rfl, rfl⟩
set_option maxHeartbeats 1000000 in
set_option maxRecDepth 100000 in
theorem s4_copies_k {t : zMod} {u : zCls} (hm : mOk t) (h10 : mg_s t 1 ≤ 10) {mi : Nat} (hmi : mi < 2 ^ 31) : Mi mX4_copies 12 [.ref 0, .int (nI (mi))] (hA t u) (fun r h' => ∃ (X' O' P' : Nat → Nat) (b' : Int32), h' = hA (mg_re t, X', mg_im t, mg_rd t, mg_ii t, mg_tp t, mg_tl t, mg_ta t, mg_at t, O', P', mg_br t, mg_nw t, mg_fs t, b', mg_kr t, mg_rw t, mg_rc t) u ∧ r = sCps (mg_s t) (mg_nw t) (mg_br t) mi ∧ sNear 3 (mg_s t) X' ∧ (∀ i, X' i ≤ 1000) ∧ (∀ i, O' i ≤ 1000000) ∧ ∀ i, P' i ≤ 1000000) := by
  obtain ⟨⟨hs, h0, h1⟩, hbr, hnw, hou, hop⟩ := id hm
  have h11 : mg_s t 1 ≤ 11 := by omega
  have hal := sAll_is (nw := mg_nw t) (br := mg_br t) ⟨hs, h0, h1⟩
  have hzl := zlw_le (val := sCopyV (mg_s t) (mg_nw t) (mg_br t)) (n := mg_s t 0) (than := 1000000) (10 * mg_s t 0)
  refine Mi.of (by decide) rfl (Nat.le_of_ble_eq_true rfl) ?_
  refine r_iload_n eX4_copies_0 rfl rfl ?_
  refine n_if_ge eX4_copies_1 (by first | omega | (have := Bool.toNat_lt (zby2 (sBy2 (mg_s t) (mg_nw t) (mg_br t) mi) (mg_s t 0) (10 * mg_s t 0)); omega) | (have := Bool.toNat_lt (zby2 (sBy2 (mg_s t) (mg_nw t) (mg_br t) 999999) (mg_s t 0) (10 * mg_s t 0)); omega)) ?_
  refine r_aload_n eX4_copies_11 rfl rfl ?_
  refine r_callVi0 eX4_copies_12 lX4_152 (Or.inl ⟨_, _, _, rfl, rfl, rfl⟩) (s4_allOut (t := t) (u := u) hm) (by omega) (Nat.le_of_ble_eq_true rfl) (fun r1 h1 hq => ?_)
  obtain ⟨O12, P12, hh, hr, hou12, hop12⟩ := hq
  obtain rfl := (show h1 = hA (mg_re t, mg_s t, mg_im t, mg_rd t, mg_ii t, mg_tp t, mg_tl t, mg_ta t, mg_at t, O12, P12, mg_br t, mg_nw t, mg_fs t, mg_bc t, mg_kr t, mg_rw t, mg_rc t) u from hh)
  obtain rfl := (show r1 = nI (sAll (mg_s t) (mg_nw t) (mg_br t)) from hr)
  refine r_istore_n eX4_copies_15 rfl (by decide) ?_
  refine r_iload_n eX4_copies_16 rfl rfl ?_
  refine n_ldc 1000000 eX4_copies_17 kX4_129 rfl ?_
  refine n_icmp_ge eX4_copies_19 (by first | omega | (have := Bool.toNat_lt (zby2 (sBy2 (mg_s t) (mg_nw t) (mg_br t) mi) (mg_s t 0) (10 * mg_s t 0)); omega) | (have := Bool.toNat_lt (zby2 (sBy2 (mg_s t) (mg_nw t) (mg_br t) 999999) (mg_s t 0) (10 * mg_s t 0)); omega)) (by first | omega | (have := Bool.toNat_lt (zby2 (sBy2 (mg_s t) (mg_nw t) (mg_br t) mi) (mg_s t 0) (10 * mg_s t 0)); omega) | (have := Bool.toNat_lt (zby2 (sBy2 (mg_s t) (mg_nw t) (mg_br t) 999999) (mg_s t 0) (10 * mg_s t 0)); omega)) (fun hc19 => ?_) (fun hc19 => ?_)
  · refine r_aload_n eX4_copies_29 rfl rfl ?_
    refine n_ldc 1000000 eX4_copies_30 kX4_129 rfl ?_
    refine r_callVi1 eX4_copies_32 lX4_170 (Or.inl ⟨_, _, _, rfl, rfl, rfl⟩) (s4_leastWithCopy (t := (mg_re t, mg_s t, mg_im t, mg_rd t, mg_ii t, mg_tp t, mg_tl t, mg_ta t, mg_at t, O12, P12, mg_br t, mg_nw t, mg_fs t, mg_bc t, mg_kr t, mg_rw t, mg_rc t)) (u := u) ⟨⟨hs, h0, h1⟩, hbr, hnw, hou12, hop12⟩ h11 (by omega)) (by omega) (Nat.le_of_ble_eq_true rfl) (fun r1 h1 hq => ?_)
    obtain ⟨X32, O32, P32, hh, hr, hX32, hXl32, hou32, hop32⟩ := hq
    have hX32 : sNear 1 (mg_s t) X32 := hX32
    obtain rfl := (show h1 = hA (mg_re t, X32, mg_im t, mg_rd t, mg_ii t, mg_tp t, mg_tl t, mg_ta t, mg_at t, O32, P32, mg_br t, mg_nw t, mg_fs t, (zor (zlw (sCopyV (mg_s t) (mg_nw t) (mg_br t)) (mg_s t 0) (1000000) (10 * mg_s t 0)).2), mg_kr t, mg_rw t, mg_rc t) u from hh)
    obtain rfl := (show r1 = nI ((zlw (sCopyV (mg_s t) (mg_nw t) (mg_br t)) (mg_s t 0) (1000000) (10 * mg_s t 0)).1) from hr)
    refine r_istore_n eX4_copies_35 rfl (by decide) ?_
    refine r_iload_n eX4_copies_36 rfl rfl ?_
    refine n_ldc 1000000 eX4_copies_37 kX4_129 rfl ?_
    refine n_icmp_ge eX4_copies_39 (by first | omega | (have := Bool.toNat_lt (zby2 (sBy2 (mg_s t) (mg_nw t) (mg_br t) mi) (mg_s t 0) (10 * mg_s t 0)); omega) | (have := Bool.toNat_lt (zby2 (sBy2 (mg_s t) (mg_nw t) (mg_br t) 999999) (mg_s t 0) (10 * mg_s t 0)); omega)) (by first | omega | (have := Bool.toNat_lt (zby2 (sBy2 (mg_s t) (mg_nw t) (mg_br t) mi) (mg_s t 0) (10 * mg_s t 0)); omega) | (have := Bool.toNat_lt (zby2 (sBy2 (mg_s t) (mg_nw t) (mg_br t) 999999) (mg_s t 0) (10 * mg_s t 0)); omega)) (fun hc39 => ?_) (fun hc39 => ?_)
    · refine r_aload_n eX4_copies_49 rfl rfl ?_
      refine r_iload_n eX4_copies_50 rfl rfl ?_
      refine n_ldc 1000000 eX4_copies_51 kX4_129 rfl ?_
      refine n_icmp_ge eX4_copies_53 (by first | omega | (have := Bool.toNat_lt (zby2 (sBy2 (mg_s t) (mg_nw t) (mg_br t) mi) (mg_s t 0) (10 * mg_s t 0)); omega) | (have := Bool.toNat_lt (zby2 (sBy2 (mg_s t) (mg_nw t) (mg_br t) 999999) (mg_s t 0) (10 * mg_s t 0)); omega)) (by first | omega | (have := Bool.toNat_lt (zby2 (sBy2 (mg_s t) (mg_nw t) (mg_br t) mi) (mg_s t 0) (10 * mg_s t 0)); omega) | (have := Bool.toNat_lt (zby2 (sBy2 (mg_s t) (mg_nw t) (mg_br t) 999999) (mg_s t 0) (10 * mg_s t 0)); omega)) (fun hc53 => ?_) (fun hc53 => ?_)
      · refine n_ldc 999999 eX4_copies_60 kX4_173 rfl ?_
        refine r_callVi1 eX4_copies_62 lX4_174 (Or.inl ⟨_, _, _, rfl, rfl, rfl⟩) (s4_isByTwo (t := (mg_re t, X32, mg_im t, mg_rd t, mg_ii t, mg_tp t, mg_tl t, mg_ta t, mg_at t, O32, P32, mg_br t, mg_nw t, mg_fs t, (zor (zlw (sCopyV (mg_s t) (mg_nw t) (mg_br t)) (mg_s t 0) (1000000) (10 * mg_s t 0)).2), mg_kr t, mg_rw t, mg_rc t)) (u := u) ⟨sNear_ok ⟨hs, h0, h1⟩ hX32 hXl32, hbr, hnw, hou32, hop32⟩ (show X32 1 ≤ 10 by rw [hX32 1 (by omega)]; exact h10) (by omega)) (by omega) (Nat.le_of_ble_eq_true rfl) (fun r1 h1 hq => ?_)
        obtain ⟨X9, O9, P9, b9, hh, hr, hX9, hXl9, hou9, hop9⟩ := hq
        obtain rfl := (show h1 = hA (mg_re t, X9, mg_im t, mg_rd t, mg_ii t, mg_tp t, mg_tl t, mg_ta t, mg_at t, O9, P9, mg_br t, mg_nw t, mg_fs t, b9, mg_kr t, mg_rw t, mg_rc t) u from hh)
        obtain rfl : r1 = nI ((zby2 (sBy2 (mg_s t) (mg_nw t) (mg_br t) (999999)) (mg_s t 0) (10 * mg_s t 0)).toNat) := by
          rw [hr]
          have e1 : sBy2 X32 (mg_nw t) (mg_br t) (999999) = sBy2 (mg_s t) (mg_nw t) (mg_br t) (999999) := funext fun k9 => by
            unfold sBy2
            rw [sAdd_same hX32, hX32 0 (by omega)]
          exact congrArg (fun q => nI (Bool.toNat q)) (show zby2 (sBy2 X32 (mg_nw t) (mg_br t) (999999)) (X32 0) (10 * X32 0) = _ by rw [e1, hX32 0 (by omega)])
        have hX99 : sNear 3 (mg_s t) X9 := fun i hi => by
          have e1 : X32 1 = mg_s t 1 := hX32 1 (by omega)
          refine (hX9 i (show ¬ (40 + 2 * X32 1 ≤ i ∧ i < 40 + 2 * X32 1 + 2 * 2) by omega)).trans (hX32 i (by omega))
        refine n_if_eq eX4_copies_65 (by first | omega | (have := Bool.toNat_lt (zby2 (sBy2 (mg_s t) (mg_nw t) (mg_br t) mi) (mg_s t 0) (10 * mg_s t 0)); omega) | (have := Bool.toNat_lt (zby2 (sBy2 (mg_s t) (mg_nw t) (mg_br t) 999999) (mg_s t 0) (10 * mg_s t 0)); omega)) (fun hc65 => ?_) (fun hc65 => ?_)
        · refine r_bipush (v := (-9)) eX4_copies_72 rfl ?_
          refine z_iret eX4_copies_74 rfl rfl ⟨_, rfl, X9, O9, P9, b9, rfl, ?_, hX99, hXl9, hou9, hop9⟩
          rw [sCps, if_neg (fun z => by omega), if_neg (fun z => by omega), if_neg (Nat.not_lt.mpr hc53), if_neg (by rw [zt0 hc65]; decide)]
        · refine n_iconst 2 eX4_copies_68 rfl ?_
          refine r_goto eX4_copies_69 ?_
          refine z_iret eX4_copies_74 rfl rfl ⟨_, rfl, X9, O9, P9, b9, rfl, ?_, hX99, hXl9, hou9, hop9⟩
          rw [sCps, if_neg (fun z => by omega), if_neg (fun z => by omega), if_neg (Nat.not_lt.mpr hc53), if_pos (zt1 hc65)]
          rfl
      · refine r_iload_n eX4_copies_56 rfl rfl ?_
        refine r_goto eX4_copies_57 ?_
        refine r_callVi1 eX4_copies_62 lX4_174 (Or.inl ⟨_, _, _, rfl, rfl, rfl⟩) (s4_isByTwo (t := (mg_re t, X32, mg_im t, mg_rd t, mg_ii t, mg_tp t, mg_tl t, mg_ta t, mg_at t, O32, P32, mg_br t, mg_nw t, mg_fs t, (zor (zlw (sCopyV (mg_s t) (mg_nw t) (mg_br t)) (mg_s t 0) (1000000) (10 * mg_s t 0)).2), mg_kr t, mg_rw t, mg_rc t)) (u := u) ⟨sNear_ok ⟨hs, h0, h1⟩ hX32 hXl32, hbr, hnw, hou32, hop32⟩ (show X32 1 ≤ 10 by rw [hX32 1 (by omega)]; exact h10) (by omega)) (by omega) (Nat.le_of_ble_eq_true rfl) (fun r1 h1 hq => ?_)
        obtain ⟨X9, O9, P9, b9, hh, hr, hX9, hXl9, hou9, hop9⟩ := hq
        obtain rfl := (show h1 = hA (mg_re t, X9, mg_im t, mg_rd t, mg_ii t, mg_tp t, mg_tl t, mg_ta t, mg_at t, O9, P9, mg_br t, mg_nw t, mg_fs t, b9, mg_kr t, mg_rw t, mg_rc t) u from hh)
        obtain rfl : r1 = nI ((zby2 (sBy2 (mg_s t) (mg_nw t) (mg_br t) (mi)) (mg_s t 0) (10 * mg_s t 0)).toNat) := by
          rw [hr]
          have e1 : sBy2 X32 (mg_nw t) (mg_br t) (mi) = sBy2 (mg_s t) (mg_nw t) (mg_br t) (mi) := funext fun k9 => by
            unfold sBy2
            rw [sAdd_same hX32, hX32 0 (by omega)]
          exact congrArg (fun q => nI (Bool.toNat q)) (show zby2 (sBy2 X32 (mg_nw t) (mg_br t) (mi)) (X32 0) (10 * X32 0) = _ by rw [e1, hX32 0 (by omega)])
        have hX99 : sNear 3 (mg_s t) X9 := fun i hi => by
          have e1 : X32 1 = mg_s t 1 := hX32 1 (by omega)
          refine (hX9 i (show ¬ (40 + 2 * X32 1 ≤ i ∧ i < 40 + 2 * X32 1 + 2 * 2) by omega)).trans (hX32 i (by omega))
        refine n_if_eq eX4_copies_65 (by first | omega | (have := Bool.toNat_lt (zby2 (sBy2 (mg_s t) (mg_nw t) (mg_br t) mi) (mg_s t 0) (10 * mg_s t 0)); omega) | (have := Bool.toNat_lt (zby2 (sBy2 (mg_s t) (mg_nw t) (mg_br t) 999999) (mg_s t 0) (10 * mg_s t 0)); omega)) (fun hc65 => ?_) (fun hc65 => ?_)
        · refine r_bipush (v := (-9)) eX4_copies_72 rfl ?_
          refine z_iret eX4_copies_74 rfl rfl ⟨_, rfl, X9, O9, P9, b9, rfl, ?_, hX99, hXl9, hou9, hop9⟩
          rw [sCps, if_neg (fun z => by omega), if_neg (fun z => by omega), if_pos hc53, if_neg (by rw [zt0 hc65]; decide)]
        · refine n_iconst 2 eX4_copies_68 rfl ?_
          refine r_goto eX4_copies_69 ?_
          refine z_iret eX4_copies_74 rfl rfl ⟨_, rfl, X9, O9, P9, b9, rfl, ?_, hX99, hXl9, hou9, hop9⟩
          rw [sCps, if_neg (fun z => by omega), if_neg (fun z => by omega), if_pos hc53, if_pos (zt1 hc65)]
          rfl
    · refine r_iload_n eX4_copies_42 rfl rfl ?_
      refine r_iload_n eX4_copies_43 rfl rfl ?_
      refine n_icmp_gt eX4_copies_44 (by first | omega | (have := Bool.toNat_lt (zby2 (sBy2 (mg_s t) (mg_nw t) (mg_br t) mi) (mg_s t 0) (10 * mg_s t 0)); omega) | (have := Bool.toNat_lt (zby2 (sBy2 (mg_s t) (mg_nw t) (mg_br t) 999999) (mg_s t 0) (10 * mg_s t 0)); omega)) (by first | omega | (have := Bool.toNat_lt (zby2 (sBy2 (mg_s t) (mg_nw t) (mg_br t) mi) (mg_s t 0) (10 * mg_s t 0)); omega) | (have := Bool.toNat_lt (zby2 (sBy2 (mg_s t) (mg_nw t) (mg_br t) 999999) (mg_s t 0) (10 * mg_s t 0)); omega)) (fun hc44 => ?_) (fun hc44 => ?_)
      · refine r_aload_n eX4_copies_49 rfl rfl ?_
        refine r_iload_n eX4_copies_50 rfl rfl ?_
        refine n_ldc 1000000 eX4_copies_51 kX4_129 rfl ?_
        refine n_icmp_ge eX4_copies_53 (by first | omega | (have := Bool.toNat_lt (zby2 (sBy2 (mg_s t) (mg_nw t) (mg_br t) mi) (mg_s t 0) (10 * mg_s t 0)); omega) | (have := Bool.toNat_lt (zby2 (sBy2 (mg_s t) (mg_nw t) (mg_br t) 999999) (mg_s t 0) (10 * mg_s t 0)); omega)) (by first | omega | (have := Bool.toNat_lt (zby2 (sBy2 (mg_s t) (mg_nw t) (mg_br t) mi) (mg_s t 0) (10 * mg_s t 0)); omega) | (have := Bool.toNat_lt (zby2 (sBy2 (mg_s t) (mg_nw t) (mg_br t) 999999) (mg_s t 0) (10 * mg_s t 0)); omega)) (fun hc53 => ?_) (fun hc53 => ?_)
        · refine n_ldc 999999 eX4_copies_60 kX4_173 rfl ?_
          refine r_callVi1 eX4_copies_62 lX4_174 (Or.inl ⟨_, _, _, rfl, rfl, rfl⟩) (s4_isByTwo (t := (mg_re t, X32, mg_im t, mg_rd t, mg_ii t, mg_tp t, mg_tl t, mg_ta t, mg_at t, O32, P32, mg_br t, mg_nw t, mg_fs t, (zor (zlw (sCopyV (mg_s t) (mg_nw t) (mg_br t)) (mg_s t 0) (1000000) (10 * mg_s t 0)).2), mg_kr t, mg_rw t, mg_rc t)) (u := u) ⟨sNear_ok ⟨hs, h0, h1⟩ hX32 hXl32, hbr, hnw, hou32, hop32⟩ (show X32 1 ≤ 10 by rw [hX32 1 (by omega)]; exact h10) (by omega)) (by omega) (Nat.le_of_ble_eq_true rfl) (fun r1 h1 hq => ?_)
          obtain ⟨X9, O9, P9, b9, hh, hr, hX9, hXl9, hou9, hop9⟩ := hq
          obtain rfl := (show h1 = hA (mg_re t, X9, mg_im t, mg_rd t, mg_ii t, mg_tp t, mg_tl t, mg_ta t, mg_at t, O9, P9, mg_br t, mg_nw t, mg_fs t, b9, mg_kr t, mg_rw t, mg_rc t) u from hh)
          obtain rfl : r1 = nI ((zby2 (sBy2 (mg_s t) (mg_nw t) (mg_br t) (999999)) (mg_s t 0) (10 * mg_s t 0)).toNat) := by
            rw [hr]
            have e1 : sBy2 X32 (mg_nw t) (mg_br t) (999999) = sBy2 (mg_s t) (mg_nw t) (mg_br t) (999999) := funext fun k9 => by
              unfold sBy2
              rw [sAdd_same hX32, hX32 0 (by omega)]
            exact congrArg (fun q => nI (Bool.toNat q)) (show zby2 (sBy2 X32 (mg_nw t) (mg_br t) (999999)) (X32 0) (10 * X32 0) = _ by rw [e1, hX32 0 (by omega)])
          have hX99 : sNear 3 (mg_s t) X9 := fun i hi => by
            have e1 : X32 1 = mg_s t 1 := hX32 1 (by omega)
            refine (hX9 i (show ¬ (40 + 2 * X32 1 ≤ i ∧ i < 40 + 2 * X32 1 + 2 * 2) by omega)).trans (hX32 i (by omega))
          refine n_if_eq eX4_copies_65 (by first | omega | (have := Bool.toNat_lt (zby2 (sBy2 (mg_s t) (mg_nw t) (mg_br t) mi) (mg_s t 0) (10 * mg_s t 0)); omega) | (have := Bool.toNat_lt (zby2 (sBy2 (mg_s t) (mg_nw t) (mg_br t) 999999) (mg_s t 0) (10 * mg_s t 0)); omega)) (fun hc65 => ?_) (fun hc65 => ?_)
          · refine r_bipush (v := (-9)) eX4_copies_72 rfl ?_
            refine z_iret eX4_copies_74 rfl rfl ⟨_, rfl, X9, O9, P9, b9, rfl, ?_, hX99, hXl9, hou9, hop9⟩
            rw [sCps, if_neg (fun z => by omega), if_neg (fun z => by omega), if_neg (Nat.not_lt.mpr hc53), if_neg (by rw [zt0 hc65]; decide)]
          · refine n_iconst 2 eX4_copies_68 rfl ?_
            refine r_goto eX4_copies_69 ?_
            refine z_iret eX4_copies_74 rfl rfl ⟨_, rfl, X9, O9, P9, b9, rfl, ?_, hX99, hXl9, hou9, hop9⟩
            rw [sCps, if_neg (fun z => by omega), if_neg (fun z => by omega), if_neg (Nat.not_lt.mpr hc53), if_pos (zt1 hc65)]
            rfl
        · refine r_iload_n eX4_copies_56 rfl rfl ?_
          refine r_goto eX4_copies_57 ?_
          refine r_callVi1 eX4_copies_62 lX4_174 (Or.inl ⟨_, _, _, rfl, rfl, rfl⟩) (s4_isByTwo (t := (mg_re t, X32, mg_im t, mg_rd t, mg_ii t, mg_tp t, mg_tl t, mg_ta t, mg_at t, O32, P32, mg_br t, mg_nw t, mg_fs t, (zor (zlw (sCopyV (mg_s t) (mg_nw t) (mg_br t)) (mg_s t 0) (1000000) (10 * mg_s t 0)).2), mg_kr t, mg_rw t, mg_rc t)) (u := u) ⟨sNear_ok ⟨hs, h0, h1⟩ hX32 hXl32, hbr, hnw, hou32, hop32⟩ (show X32 1 ≤ 10 by rw [hX32 1 (by omega)]; exact h10) (by omega)) (by omega) (Nat.le_of_ble_eq_true rfl) (fun r1 h1 hq => ?_)
          obtain ⟨X9, O9, P9, b9, hh, hr, hX9, hXl9, hou9, hop9⟩ := hq
          obtain rfl := (show h1 = hA (mg_re t, X9, mg_im t, mg_rd t, mg_ii t, mg_tp t, mg_tl t, mg_ta t, mg_at t, O9, P9, mg_br t, mg_nw t, mg_fs t, b9, mg_kr t, mg_rw t, mg_rc t) u from hh)
          obtain rfl : r1 = nI ((zby2 (sBy2 (mg_s t) (mg_nw t) (mg_br t) (mi)) (mg_s t 0) (10 * mg_s t 0)).toNat) := by
            rw [hr]
            have e1 : sBy2 X32 (mg_nw t) (mg_br t) (mi) = sBy2 (mg_s t) (mg_nw t) (mg_br t) (mi) := funext fun k9 => by
              unfold sBy2
              rw [sAdd_same hX32, hX32 0 (by omega)]
            exact congrArg (fun q => nI (Bool.toNat q)) (show zby2 (sBy2 X32 (mg_nw t) (mg_br t) (mi)) (X32 0) (10 * X32 0) = _ by rw [e1, hX32 0 (by omega)])
          have hX99 : sNear 3 (mg_s t) X9 := fun i hi => by
            have e1 : X32 1 = mg_s t 1 := hX32 1 (by omega)
            refine (hX9 i (show ¬ (40 + 2 * X32 1 ≤ i ∧ i < 40 + 2 * X32 1 + 2 * 2) by omega)).trans (hX32 i (by omega))
          refine n_if_eq eX4_copies_65 (by first | omega | (have := Bool.toNat_lt (zby2 (sBy2 (mg_s t) (mg_nw t) (mg_br t) mi) (mg_s t 0) (10 * mg_s t 0)); omega) | (have := Bool.toNat_lt (zby2 (sBy2 (mg_s t) (mg_nw t) (mg_br t) 999999) (mg_s t 0) (10 * mg_s t 0)); omega)) (fun hc65 => ?_) (fun hc65 => ?_)
          · refine r_bipush (v := (-9)) eX4_copies_72 rfl ?_
            refine z_iret eX4_copies_74 rfl rfl ⟨_, rfl, X9, O9, P9, b9, rfl, ?_, hX99, hXl9, hou9, hop9⟩
            rw [sCps, if_neg (fun z => by omega), if_neg (fun z => by omega), if_pos hc53, if_neg (by rw [zt0 hc65]; decide)]
          · refine n_iconst 2 eX4_copies_68 rfl ?_
            refine r_goto eX4_copies_69 ?_
            refine z_iret eX4_copies_74 rfl rfl ⟨_, rfl, X9, O9, P9, b9, rfl, ?_, hX99, hXl9, hou9, hop9⟩
            rw [sCps, if_neg (fun z => by omega), if_neg (fun z => by omega), if_pos hc53, if_pos (zt1 hc65)]
            rfl
      · refine n_iconst 1 eX4_copies_47 rfl ?_
        refine z_iret eX4_copies_48 rfl rfl ⟨_, rfl, X32, O32, P32, _, rfl, ?_, fun i hi => hX32 i (by omega), hXl32, hou32, hop32⟩
        rw [sCps, if_neg (fun z => by omega), if_pos ⟨hc39, hc44⟩]
        rfl
  · refine r_iload_n eX4_copies_22 rfl rfl ?_
    refine r_iload_n eX4_copies_23 rfl rfl ?_
    refine n_icmp_gt eX4_copies_24 (by first | omega | (have := Bool.toNat_lt (zby2 (sBy2 (mg_s t) (mg_nw t) (mg_br t) mi) (mg_s t 0) (10 * mg_s t 0)); omega) | (have := Bool.toNat_lt (zby2 (sBy2 (mg_s t) (mg_nw t) (mg_br t) 999999) (mg_s t 0) (10 * mg_s t 0)); omega)) (by first | omega | (have := Bool.toNat_lt (zby2 (sBy2 (mg_s t) (mg_nw t) (mg_br t) mi) (mg_s t 0) (10 * mg_s t 0)); omega) | (have := Bool.toNat_lt (zby2 (sBy2 (mg_s t) (mg_nw t) (mg_br t) 999999) (mg_s t 0) (10 * mg_s t 0)); omega)) (fun hc24 => ?_) (fun hc24 => ?_)
    · refine r_aload_n eX4_copies_29 rfl rfl ?_
      refine n_ldc 1000000 eX4_copies_30 kX4_129 rfl ?_
      refine r_callVi1 eX4_copies_32 lX4_170 (Or.inl ⟨_, _, _, rfl, rfl, rfl⟩) (s4_leastWithCopy (t := (mg_re t, mg_s t, mg_im t, mg_rd t, mg_ii t, mg_tp t, mg_tl t, mg_ta t, mg_at t, O12, P12, mg_br t, mg_nw t, mg_fs t, mg_bc t, mg_kr t, mg_rw t, mg_rc t)) (u := u) ⟨⟨hs, h0, h1⟩, hbr, hnw, hou12, hop12⟩ h11 (by omega)) (by omega) (Nat.le_of_ble_eq_true rfl) (fun r1 h1 hq => ?_)
      obtain ⟨X32, O32, P32, hh, hr, hX32, hXl32, hou32, hop32⟩ := hq
      have hX32 : sNear 1 (mg_s t) X32 := hX32
      obtain rfl := (show h1 = hA (mg_re t, X32, mg_im t, mg_rd t, mg_ii t, mg_tp t, mg_tl t, mg_ta t, mg_at t, O32, P32, mg_br t, mg_nw t, mg_fs t, (zor (zlw (sCopyV (mg_s t) (mg_nw t) (mg_br t)) (mg_s t 0) (1000000) (10 * mg_s t 0)).2), mg_kr t, mg_rw t, mg_rc t) u from hh)
      obtain rfl := (show r1 = nI ((zlw (sCopyV (mg_s t) (mg_nw t) (mg_br t)) (mg_s t 0) (1000000) (10 * mg_s t 0)).1) from hr)
      refine r_istore_n eX4_copies_35 rfl (by decide) ?_
      refine r_iload_n eX4_copies_36 rfl rfl ?_
      refine n_ldc 1000000 eX4_copies_37 kX4_129 rfl ?_
      refine n_icmp_ge eX4_copies_39 (by first | omega | (have := Bool.toNat_lt (zby2 (sBy2 (mg_s t) (mg_nw t) (mg_br t) mi) (mg_s t 0) (10 * mg_s t 0)); omega) | (have := Bool.toNat_lt (zby2 (sBy2 (mg_s t) (mg_nw t) (mg_br t) 999999) (mg_s t 0) (10 * mg_s t 0)); omega)) (by first | omega | (have := Bool.toNat_lt (zby2 (sBy2 (mg_s t) (mg_nw t) (mg_br t) mi) (mg_s t 0) (10 * mg_s t 0)); omega) | (have := Bool.toNat_lt (zby2 (sBy2 (mg_s t) (mg_nw t) (mg_br t) 999999) (mg_s t 0) (10 * mg_s t 0)); omega)) (fun hc39 => ?_) (fun hc39 => ?_)
      · refine r_aload_n eX4_copies_49 rfl rfl ?_
        refine r_iload_n eX4_copies_50 rfl rfl ?_
        refine n_ldc 1000000 eX4_copies_51 kX4_129 rfl ?_
        refine n_icmp_ge eX4_copies_53 (by first | omega | (have := Bool.toNat_lt (zby2 (sBy2 (mg_s t) (mg_nw t) (mg_br t) mi) (mg_s t 0) (10 * mg_s t 0)); omega) | (have := Bool.toNat_lt (zby2 (sBy2 (mg_s t) (mg_nw t) (mg_br t) 999999) (mg_s t 0) (10 * mg_s t 0)); omega)) (by first | omega | (have := Bool.toNat_lt (zby2 (sBy2 (mg_s t) (mg_nw t) (mg_br t) mi) (mg_s t 0) (10 * mg_s t 0)); omega) | (have := Bool.toNat_lt (zby2 (sBy2 (mg_s t) (mg_nw t) (mg_br t) 999999) (mg_s t 0) (10 * mg_s t 0)); omega)) (fun hc53 => ?_) (fun hc53 => ?_)
        · refine n_ldc 999999 eX4_copies_60 kX4_173 rfl ?_
          refine r_callVi1 eX4_copies_62 lX4_174 (Or.inl ⟨_, _, _, rfl, rfl, rfl⟩) (s4_isByTwo (t := (mg_re t, X32, mg_im t, mg_rd t, mg_ii t, mg_tp t, mg_tl t, mg_ta t, mg_at t, O32, P32, mg_br t, mg_nw t, mg_fs t, (zor (zlw (sCopyV (mg_s t) (mg_nw t) (mg_br t)) (mg_s t 0) (1000000) (10 * mg_s t 0)).2), mg_kr t, mg_rw t, mg_rc t)) (u := u) ⟨sNear_ok ⟨hs, h0, h1⟩ hX32 hXl32, hbr, hnw, hou32, hop32⟩ (show X32 1 ≤ 10 by rw [hX32 1 (by omega)]; exact h10) (by omega)) (by omega) (Nat.le_of_ble_eq_true rfl) (fun r1 h1 hq => ?_)
          obtain ⟨X9, O9, P9, b9, hh, hr, hX9, hXl9, hou9, hop9⟩ := hq
          obtain rfl := (show h1 = hA (mg_re t, X9, mg_im t, mg_rd t, mg_ii t, mg_tp t, mg_tl t, mg_ta t, mg_at t, O9, P9, mg_br t, mg_nw t, mg_fs t, b9, mg_kr t, mg_rw t, mg_rc t) u from hh)
          obtain rfl : r1 = nI ((zby2 (sBy2 (mg_s t) (mg_nw t) (mg_br t) (999999)) (mg_s t 0) (10 * mg_s t 0)).toNat) := by
            rw [hr]
            have e1 : sBy2 X32 (mg_nw t) (mg_br t) (999999) = sBy2 (mg_s t) (mg_nw t) (mg_br t) (999999) := funext fun k9 => by
              unfold sBy2
              rw [sAdd_same hX32, hX32 0 (by omega)]
            exact congrArg (fun q => nI (Bool.toNat q)) (show zby2 (sBy2 X32 (mg_nw t) (mg_br t) (999999)) (X32 0) (10 * X32 0) = _ by rw [e1, hX32 0 (by omega)])
          have hX99 : sNear 3 (mg_s t) X9 := fun i hi => by
            have e1 : X32 1 = mg_s t 1 := hX32 1 (by omega)
            refine (hX9 i (show ¬ (40 + 2 * X32 1 ≤ i ∧ i < 40 + 2 * X32 1 + 2 * 2) by omega)).trans (hX32 i (by omega))
          refine n_if_eq eX4_copies_65 (by first | omega | (have := Bool.toNat_lt (zby2 (sBy2 (mg_s t) (mg_nw t) (mg_br t) mi) (mg_s t 0) (10 * mg_s t 0)); omega) | (have := Bool.toNat_lt (zby2 (sBy2 (mg_s t) (mg_nw t) (mg_br t) 999999) (mg_s t 0) (10 * mg_s t 0)); omega)) (fun hc65 => ?_) (fun hc65 => ?_)
          · refine r_bipush (v := (-9)) eX4_copies_72 rfl ?_
            refine z_iret eX4_copies_74 rfl rfl ⟨_, rfl, X9, O9, P9, b9, rfl, ?_, hX99, hXl9, hou9, hop9⟩
            rw [sCps, if_neg (fun z => by omega), if_neg (fun z => by omega), if_neg (Nat.not_lt.mpr hc53), if_neg (by rw [zt0 hc65]; decide)]
          · refine n_iconst 2 eX4_copies_68 rfl ?_
            refine r_goto eX4_copies_69 ?_
            refine z_iret eX4_copies_74 rfl rfl ⟨_, rfl, X9, O9, P9, b9, rfl, ?_, hX99, hXl9, hou9, hop9⟩
            rw [sCps, if_neg (fun z => by omega), if_neg (fun z => by omega), if_neg (Nat.not_lt.mpr hc53), if_pos (zt1 hc65)]
            rfl
        · refine r_iload_n eX4_copies_56 rfl rfl ?_
          refine r_goto eX4_copies_57 ?_
          refine r_callVi1 eX4_copies_62 lX4_174 (Or.inl ⟨_, _, _, rfl, rfl, rfl⟩) (s4_isByTwo (t := (mg_re t, X32, mg_im t, mg_rd t, mg_ii t, mg_tp t, mg_tl t, mg_ta t, mg_at t, O32, P32, mg_br t, mg_nw t, mg_fs t, (zor (zlw (sCopyV (mg_s t) (mg_nw t) (mg_br t)) (mg_s t 0) (1000000) (10 * mg_s t 0)).2), mg_kr t, mg_rw t, mg_rc t)) (u := u) ⟨sNear_ok ⟨hs, h0, h1⟩ hX32 hXl32, hbr, hnw, hou32, hop32⟩ (show X32 1 ≤ 10 by rw [hX32 1 (by omega)]; exact h10) (by omega)) (by omega) (Nat.le_of_ble_eq_true rfl) (fun r1 h1 hq => ?_)
          obtain ⟨X9, O9, P9, b9, hh, hr, hX9, hXl9, hou9, hop9⟩ := hq
          obtain rfl := (show h1 = hA (mg_re t, X9, mg_im t, mg_rd t, mg_ii t, mg_tp t, mg_tl t, mg_ta t, mg_at t, O9, P9, mg_br t, mg_nw t, mg_fs t, b9, mg_kr t, mg_rw t, mg_rc t) u from hh)
          obtain rfl : r1 = nI ((zby2 (sBy2 (mg_s t) (mg_nw t) (mg_br t) (mi)) (mg_s t 0) (10 * mg_s t 0)).toNat) := by
            rw [hr]
            have e1 : sBy2 X32 (mg_nw t) (mg_br t) (mi) = sBy2 (mg_s t) (mg_nw t) (mg_br t) (mi) := funext fun k9 => by
              unfold sBy2
              rw [sAdd_same hX32, hX32 0 (by omega)]
            exact congrArg (fun q => nI (Bool.toNat q)) (show zby2 (sBy2 X32 (mg_nw t) (mg_br t) (mi)) (X32 0) (10 * X32 0) = _ by rw [e1, hX32 0 (by omega)])
          have hX99 : sNear 3 (mg_s t) X9 := fun i hi => by
            have e1 : X32 1 = mg_s t 1 := hX32 1 (by omega)
            refine (hX9 i (show ¬ (40 + 2 * X32 1 ≤ i ∧ i < 40 + 2 * X32 1 + 2 * 2) by omega)).trans (hX32 i (by omega))
          refine n_if_eq eX4_copies_65 (by first | omega | (have := Bool.toNat_lt (zby2 (sBy2 (mg_s t) (mg_nw t) (mg_br t) mi) (mg_s t 0) (10 * mg_s t 0)); omega) | (have := Bool.toNat_lt (zby2 (sBy2 (mg_s t) (mg_nw t) (mg_br t) 999999) (mg_s t 0) (10 * mg_s t 0)); omega)) (fun hc65 => ?_) (fun hc65 => ?_)
          · refine r_bipush (v := (-9)) eX4_copies_72 rfl ?_
            refine z_iret eX4_copies_74 rfl rfl ⟨_, rfl, X9, O9, P9, b9, rfl, ?_, hX99, hXl9, hou9, hop9⟩
            rw [sCps, if_neg (fun z => by omega), if_neg (fun z => by omega), if_pos hc53, if_neg (by rw [zt0 hc65]; decide)]
          · refine n_iconst 2 eX4_copies_68 rfl ?_
            refine r_goto eX4_copies_69 ?_
            refine z_iret eX4_copies_74 rfl rfl ⟨_, rfl, X9, O9, P9, b9, rfl, ?_, hX99, hXl9, hou9, hop9⟩
            rw [sCps, if_neg (fun z => by omega), if_neg (fun z => by omega), if_pos hc53, if_pos (zt1 hc65)]
            rfl
      · refine r_iload_n eX4_copies_42 rfl rfl ?_
        refine r_iload_n eX4_copies_43 rfl rfl ?_
        refine n_icmp_gt eX4_copies_44 (by first | omega | (have := Bool.toNat_lt (zby2 (sBy2 (mg_s t) (mg_nw t) (mg_br t) mi) (mg_s t 0) (10 * mg_s t 0)); omega) | (have := Bool.toNat_lt (zby2 (sBy2 (mg_s t) (mg_nw t) (mg_br t) 999999) (mg_s t 0) (10 * mg_s t 0)); omega)) (by first | omega | (have := Bool.toNat_lt (zby2 (sBy2 (mg_s t) (mg_nw t) (mg_br t) mi) (mg_s t 0) (10 * mg_s t 0)); omega) | (have := Bool.toNat_lt (zby2 (sBy2 (mg_s t) (mg_nw t) (mg_br t) 999999) (mg_s t 0) (10 * mg_s t 0)); omega)) (fun hc44 => ?_) (fun hc44 => ?_)
        · refine r_aload_n eX4_copies_49 rfl rfl ?_
          refine r_iload_n eX4_copies_50 rfl rfl ?_
          refine n_ldc 1000000 eX4_copies_51 kX4_129 rfl ?_
          refine n_icmp_ge eX4_copies_53 (by first | omega | (have := Bool.toNat_lt (zby2 (sBy2 (mg_s t) (mg_nw t) (mg_br t) mi) (mg_s t 0) (10 * mg_s t 0)); omega) | (have := Bool.toNat_lt (zby2 (sBy2 (mg_s t) (mg_nw t) (mg_br t) 999999) (mg_s t 0) (10 * mg_s t 0)); omega)) (by first | omega | (have := Bool.toNat_lt (zby2 (sBy2 (mg_s t) (mg_nw t) (mg_br t) mi) (mg_s t 0) (10 * mg_s t 0)); omega) | (have := Bool.toNat_lt (zby2 (sBy2 (mg_s t) (mg_nw t) (mg_br t) 999999) (mg_s t 0) (10 * mg_s t 0)); omega)) (fun hc53 => ?_) (fun hc53 => ?_)
          · refine n_ldc 999999 eX4_copies_60 kX4_173 rfl ?_
            refine r_callVi1 eX4_copies_62 lX4_174 (Or.inl ⟨_, _, _, rfl, rfl, rfl⟩) (s4_isByTwo (t := (mg_re t, X32, mg_im t, mg_rd t, mg_ii t, mg_tp t, mg_tl t, mg_ta t, mg_at t, O32, P32, mg_br t, mg_nw t, mg_fs t, (zor (zlw (sCopyV (mg_s t) (mg_nw t) (mg_br t)) (mg_s t 0) (1000000) (10 * mg_s t 0)).2), mg_kr t, mg_rw t, mg_rc t)) (u := u) ⟨sNear_ok ⟨hs, h0, h1⟩ hX32 hXl32, hbr, hnw, hou32, hop32⟩ (show X32 1 ≤ 10 by rw [hX32 1 (by omega)]; exact h10) (by omega)) (by omega) (Nat.le_of_ble_eq_true rfl) (fun r1 h1 hq => ?_)
            obtain ⟨X9, O9, P9, b9, hh, hr, hX9, hXl9, hou9, hop9⟩ := hq
            obtain rfl := (show h1 = hA (mg_re t, X9, mg_im t, mg_rd t, mg_ii t, mg_tp t, mg_tl t, mg_ta t, mg_at t, O9, P9, mg_br t, mg_nw t, mg_fs t, b9, mg_kr t, mg_rw t, mg_rc t) u from hh)
            obtain rfl : r1 = nI ((zby2 (sBy2 (mg_s t) (mg_nw t) (mg_br t) (999999)) (mg_s t 0) (10 * mg_s t 0)).toNat) := by
              rw [hr]
              have e1 : sBy2 X32 (mg_nw t) (mg_br t) (999999) = sBy2 (mg_s t) (mg_nw t) (mg_br t) (999999) := funext fun k9 => by
                unfold sBy2
                rw [sAdd_same hX32, hX32 0 (by omega)]
              exact congrArg (fun q => nI (Bool.toNat q)) (show zby2 (sBy2 X32 (mg_nw t) (mg_br t) (999999)) (X32 0) (10 * X32 0) = _ by rw [e1, hX32 0 (by omega)])
            have hX99 : sNear 3 (mg_s t) X9 := fun i hi => by
              have e1 : X32 1 = mg_s t 1 := hX32 1 (by omega)
              refine (hX9 i (show ¬ (40 + 2 * X32 1 ≤ i ∧ i < 40 + 2 * X32 1 + 2 * 2) by omega)).trans (hX32 i (by omega))
            refine n_if_eq eX4_copies_65 (by first | omega | (have := Bool.toNat_lt (zby2 (sBy2 (mg_s t) (mg_nw t) (mg_br t) mi) (mg_s t 0) (10 * mg_s t 0)); omega) | (have := Bool.toNat_lt (zby2 (sBy2 (mg_s t) (mg_nw t) (mg_br t) 999999) (mg_s t 0) (10 * mg_s t 0)); omega)) (fun hc65 => ?_) (fun hc65 => ?_)
            · refine r_bipush (v := (-9)) eX4_copies_72 rfl ?_
              refine z_iret eX4_copies_74 rfl rfl ⟨_, rfl, X9, O9, P9, b9, rfl, ?_, hX99, hXl9, hou9, hop9⟩
              rw [sCps, if_neg (fun z => by omega), if_neg (fun z => by omega), if_neg (Nat.not_lt.mpr hc53), if_neg (by rw [zt0 hc65]; decide)]
            · refine n_iconst 2 eX4_copies_68 rfl ?_
              refine r_goto eX4_copies_69 ?_
              refine z_iret eX4_copies_74 rfl rfl ⟨_, rfl, X9, O9, P9, b9, rfl, ?_, hX99, hXl9, hou9, hop9⟩
              rw [sCps, if_neg (fun z => by omega), if_neg (fun z => by omega), if_neg (Nat.not_lt.mpr hc53), if_pos (zt1 hc65)]
              rfl
          · refine r_iload_n eX4_copies_56 rfl rfl ?_
            refine r_goto eX4_copies_57 ?_
            refine r_callVi1 eX4_copies_62 lX4_174 (Or.inl ⟨_, _, _, rfl, rfl, rfl⟩) (s4_isByTwo (t := (mg_re t, X32, mg_im t, mg_rd t, mg_ii t, mg_tp t, mg_tl t, mg_ta t, mg_at t, O32, P32, mg_br t, mg_nw t, mg_fs t, (zor (zlw (sCopyV (mg_s t) (mg_nw t) (mg_br t)) (mg_s t 0) (1000000) (10 * mg_s t 0)).2), mg_kr t, mg_rw t, mg_rc t)) (u := u) ⟨sNear_ok ⟨hs, h0, h1⟩ hX32 hXl32, hbr, hnw, hou32, hop32⟩ (show X32 1 ≤ 10 by rw [hX32 1 (by omega)]; exact h10) (by omega)) (by omega) (Nat.le_of_ble_eq_true rfl) (fun r1 h1 hq => ?_)
            obtain ⟨X9, O9, P9, b9, hh, hr, hX9, hXl9, hou9, hop9⟩ := hq
            obtain rfl := (show h1 = hA (mg_re t, X9, mg_im t, mg_rd t, mg_ii t, mg_tp t, mg_tl t, mg_ta t, mg_at t, O9, P9, mg_br t, mg_nw t, mg_fs t, b9, mg_kr t, mg_rw t, mg_rc t) u from hh)
            obtain rfl : r1 = nI ((zby2 (sBy2 (mg_s t) (mg_nw t) (mg_br t) (mi)) (mg_s t 0) (10 * mg_s t 0)).toNat) := by
              rw [hr]
              have e1 : sBy2 X32 (mg_nw t) (mg_br t) (mi) = sBy2 (mg_s t) (mg_nw t) (mg_br t) (mi) := funext fun k9 => by
                unfold sBy2
                rw [sAdd_same hX32, hX32 0 (by omega)]
              exact congrArg (fun q => nI (Bool.toNat q)) (show zby2 (sBy2 X32 (mg_nw t) (mg_br t) (mi)) (X32 0) (10 * X32 0) = _ by rw [e1, hX32 0 (by omega)])
            have hX99 : sNear 3 (mg_s t) X9 := fun i hi => by
              have e1 : X32 1 = mg_s t 1 := hX32 1 (by omega)
              refine (hX9 i (show ¬ (40 + 2 * X32 1 ≤ i ∧ i < 40 + 2 * X32 1 + 2 * 2) by omega)).trans (hX32 i (by omega))
            refine n_if_eq eX4_copies_65 (by first | omega | (have := Bool.toNat_lt (zby2 (sBy2 (mg_s t) (mg_nw t) (mg_br t) mi) (mg_s t 0) (10 * mg_s t 0)); omega) | (have := Bool.toNat_lt (zby2 (sBy2 (mg_s t) (mg_nw t) (mg_br t) 999999) (mg_s t 0) (10 * mg_s t 0)); omega)) (fun hc65 => ?_) (fun hc65 => ?_)
            · refine r_bipush (v := (-9)) eX4_copies_72 rfl ?_
              refine z_iret eX4_copies_74 rfl rfl ⟨_, rfl, X9, O9, P9, b9, rfl, ?_, hX99, hXl9, hou9, hop9⟩
              rw [sCps, if_neg (fun z => by omega), if_neg (fun z => by omega), if_pos hc53, if_neg (by rw [zt0 hc65]; decide)]
            · refine n_iconst 2 eX4_copies_68 rfl ?_
              refine r_goto eX4_copies_69 ?_
              refine z_iret eX4_copies_74 rfl rfl ⟨_, rfl, X9, O9, P9, b9, rfl, ?_, hX99, hXl9, hou9, hop9⟩
              rw [sCps, if_neg (fun z => by omega), if_neg (fun z => by omega), if_pos hc53, if_pos (zt1 hc65)]
              rfl
        · refine n_iconst 1 eX4_copies_47 rfl ?_
          refine z_iret eX4_copies_48 rfl rfl ⟨_, rfl, X32, O32, P32, _, rfl, ?_, fun i hi => hX32 i (by omega), hXl32, hou32, hop32⟩
          rw [sCps, if_neg (fun z => by omega), if_pos ⟨hc39, hc44⟩]
          rfl
    · refine n_iconst 0 eX4_copies_27 rfl ?_
      refine z_iret eX4_copies_28 rfl rfl ⟨_, rfl, mg_s t, O12, P12, mg_bc t, rfl, ?_, sNear_rf 3 _, hs, hou12, hop12⟩
      rw [sCps, if_pos ⟨hc19, hc24⟩]
      rfl
