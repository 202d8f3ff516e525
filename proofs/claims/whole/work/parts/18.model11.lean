/-! THE REFERENCE: rings -/
def zmask (F : Nat → Nat) : Nat → Nat
  | 0 => 0
  | k + 1 => zmask F k ||| 1 * 2 ^ F k
theorem zmask_lt {F : Nat → Nat} {n : Nat} : ∀ {m : Nat}, (∀ k, k < m → F k < n) → zmask F m < 2 ^ n
  | 0, _ => Nat.two_pow_pos n
  | m + 1, h => by
    rw [zmask, Nat.one_mul]
    exact Nat.or_lt_two_pow (zmask_lt (fun k hk => h k (by omega))) (Nat.pow_lt_pow_right (by omega) (h m (by omega)))
theorem zmask_bit {F : Nat → Nat} {i : Nat} : ∀ {m : Nat}, (zmask F m).testBit i = true ↔ ∃ k, k < m ∧ F k = i
  | 0 => by
    rw [zmask, Nat.zero_testBit]
    exact ⟨(fun h => absurd h (by decide)), (fun ⟨k, hk, _⟩ => absurd hk (by omega))⟩
  | m + 1 => by
    rw [zmask, zor_bit, Bool.or_eq_true, decide_eq_true_iff, zmask_bit (m := m)]
    constructor
    · rintro (⟨k, h1, h2⟩ | h)
      · exact ⟨k, by omega, h2⟩
      · exact ⟨m, by omega, h.symm⟩
    · rintro ⟨k, h1, h2⟩
      by_cases e : k = m
      · subst e; exact Or.inr h2.symm
      · exact Or.inl ⟨k, by omega, h2⟩
def zpi (D H : Nat → Nat) (m p : Nat) : Nat := match zfind (fun k => decide (H k = p)) m with
  | some k => D k
  | none => p
/-- round a ring until one is met again -/
def zorb (pi : Nat → Nat) : Nat → Nat → Nat → Nat
  | 0, _, seen => seen
  | f + 1, at_, seen => if seen.testBit at_ = true then seen else zorb pi f (pi at_) (seen ||| 1 * 2 ^ at_)
def zrgs (pi : Nat → Nat) (n : Nat) : Nat → Nat × Nat
  | 0 => (0, 0)
  | p + 1 => if (zrgs pi n p).2.testBit p = true then zrgs pi n p else ((zrgs pi n p).1 + 1, zorb pi (n + 1) p (zrgs pi n p).2)
def zrings (D H : Nat → Nat) (m n : Nat) : Int32 := if m = n ∧ zmask D m = 2 ^ n - 1 ∧ zmask H m = 2 ^ n - 1 then nI (zrgs (zpi D H m) n n).1 else -9
def tRings (T : zTown) : Int32 := zrings (tg_door T) (tg_held T) (tg_keys T) (tg_people T)
theorem zfind_is {f : Nat → Bool} : ∀ {n : Nat}, (∃ k, k < n ∧ f k = true) → ∃ k, k < n ∧ f k = true ∧ (∀ j, j < k → f j = false) ∧ zfind f n = some k
  | 0, ⟨k, hk, _⟩ => by omega
  | n + 1, ⟨k, hk, hf⟩ => by
    by_cases h : ∃ k, k < n ∧ f k = true
    · obtain ⟨j, h1, h2, h3, h4⟩ := zfind_is h
      exact ⟨j, by omega, h2, h3, by rw [zfind, h4]⟩
    · have hn : ∀ i, i < n → f i = false := fun i hi => by
        cases hfi : f i with
        | false => rfl
        | true => exact absurd ⟨i, hi, hfi⟩ h
      have e : k = n := by
        rcases Nat.lt_or_ge k n with q | q
        · exact absurd ⟨k, q, hf⟩ h
        · omega
      subst e
      exact ⟨k, by omega, hf, hn, zfind_some hn hf (by omega)⟩
def tKy (S : Nat → Nat) : Prop := ∀ k, k < S 1 → S (40 + 2 * k) < S 0 ∧ S (40 + 2 * k + 1) < S 0
set_option maxHeartbeats 1000000 in
set_option maxRecDepth 100000 in
theorem s4_heldBy_l {t : zMod} {u : zCls} (hs : ∀ i, mg_s t i ≤ 1000) (h1 : mg_s t 1 ≤ 12) {p k1 : Nat} (hp : p < 7) (hk1 : k1 < mg_s t 1) (hH : mg_s t (40 + 2 * k1 + 1) = p) (hno : ∀ j, j < k1 → ¬ mg_s t (40 + 2 * j + 1) = p) : ∀ (k : Nat) (k0 : Nat) (hd : k0 + k = k1), Rq mX4_heldBy 2 none 2 [.ref 0, .int (nI (p)), .int (nI (k0))] [] (hA t u) (fun r h' => ∃ x, r = some x ∧ (x = nI (mg_s t (40 + 2 * k1)) ∧ h' = hA t u)) := by
  intro k
  induction k with
  | zero =>
    intro k0 hd
    have e0 : k0 = k1 := by omega
    subst e0
    refine r_aload_n eX4_heldBy_2 rfl rfl ?_
    refine r_iload_n eX4_heldBy_3 rfl rfl ?_
    refine r_callVi1 eX4_heldBy_4 lX4_106 (Or.inl ⟨_, _, _, rfl, rfl, rfl⟩) (s4_held (t := t) (u := u) (by omega)) (by omega) (Nat.le_of_ble_eq_true rfl) (fun r1 h1 hq => ?_)
    obtain ⟨rfl, rfl⟩ := (show r1 = nI ((mg_s t) (40 + 2 * k0 + 1)) ∧ h1 = hA t u from hq)
    refine r_iload_n eX4_heldBy_7 rfl rfl ?_
    refine n_icmp_eq eX4_heldBy_8 (by first | omega | exact zlt (hs _) | exact hou _ | exact hop _) (by first | omega | exact zlt (hs _) | exact hou _ | exact hop _) (fun hc8 => ?_) (fun hc8 => absurd hc8 (fun z => z hH))
    refine r_aload_n eX4_heldBy_17 rfl rfl ?_
    refine r_iload_n eX4_heldBy_18 rfl rfl ?_
    refine r_callVi1 eX4_heldBy_19 lX4_120 (Or.inl ⟨_, _, _, rfl, rfl, rfl⟩) (s4_door (t := t) (u := u) (by omega)) (by omega) (Nat.le_of_ble_eq_true rfl) (fun r1 h1 hq => ?_)
    obtain ⟨rfl, rfl⟩ := (show r1 = nI ((mg_s t) (40 + 2 * k0)) ∧ h1 = hA t u from hq)
    exact z_iret eX4_heldBy_22 rfl rfl ⟨_, rfl, rfl, rfl⟩
  | succ k ih =>
    intro k0 hd
    have hn9 := hno k0 (by omega)
    refine r_aload_n eX4_heldBy_2 rfl rfl ?_
    refine r_iload_n eX4_heldBy_3 rfl rfl ?_
    refine r_callVi1 eX4_heldBy_4 lX4_106 (Or.inl ⟨_, _, _, rfl, rfl, rfl⟩) (s4_held (t := t) (u := u) (by omega)) (by omega) (Nat.le_of_ble_eq_true rfl) (fun r1 h1 hq => ?_)
    obtain ⟨rfl, rfl⟩ := (show r1 = nI ((mg_s t) (40 + 2 * k0 + 1)) ∧ h1 = hA t u from hq)
    refine r_iload_n eX4_heldBy_7 rfl rfl ?_
    refine n_icmp_eq eX4_heldBy_8 (by first | omega | exact zlt (hs _) | exact hou _ | exact hop _) (by first | omega | exact zlt (hs _) | exact hou _ | exact hop _) (fun hc8 => absurd hc8 hn9) (fun hc8 => ?_)
    refine n_iinc (k := 1) eX4_heldBy_11 rfl (by decide) rfl ?_
    refine r_goto eX4_heldBy_14 ?_
    exact ih (k0 + 1) (by omega)
set_option maxHeartbeats 1000000 in
set_option maxRecDepth 100000 in
theorem s4_heldBy {t : zMod} {u : zCls} (hm : mOk t) {p : Nat} (hp : p < mg_s t 0) (hm1 : zmask (fun k => mg_s t (40 + 2 * k + 1)) (mg_s t 1) = 2 ^ mg_s t 0 - 1) : Mi mX4_heldBy 2 [.ref 0, .int (nI (p))] (hA t u) (fun r h' => r = nI (zpi (fun k => mg_s t (40 + 2 * k)) (fun k => mg_s t (40 + 2 * k + 1)) (mg_s t 1) p) ∧ h' = hA t u) := by
  obtain ⟨⟨hs, h0, h1⟩, hbr, hnw, hou, hop⟩ := id hm
  have hex : ∃ k, k < mg_s t 1 ∧ mg_s t (40 + 2 * k + 1) = p := zmask_bit.mp (by rw [hm1, Nat.testBit_two_pow_sub_one]; exact decide_eq_true hp)
  obtain ⟨k1, q1, q2, q3, q4⟩ := zfind_is (f := fun k => decide (mg_s t (40 + 2 * k + 1) = p)) (n := mg_s t 1) (by obtain ⟨k, g1, g2⟩ := hex; exact ⟨k, g1, decide_eq_true g2⟩)
  have e9 : zpi (fun k => mg_s t (40 + 2 * k)) (fun k => mg_s t (40 + 2 * k + 1)) (mg_s t 1) p = mg_s t (40 + 2 * k1) := by unfold zpi; rw [q4]
  rw [e9]
  refine Mi.of (by decide) rfl (Nat.le_of_ble_eq_true rfl) ?_
  refine n_iconst 0 eX4_heldBy_0 rfl ?_
  refine r_istore_n eX4_heldBy_1 rfl (by decide) ?_
  exact s4_heldBy_l hs h1 (by omega) q1 (of_decide_eq_true q2) (fun j hj => of_decide_eq_false (q3 j hj)) k1 0 (Nat.zero_add _)
theorem zpi_lt {D H : Nat → Nat} {m n p : Nat} (h : ∀ k, k < m → D k < n) (hp : p < n) : zpi D H m p < n := by
  unfold zpi
  split
  · rename_i k hk
    obtain ⟨h1, -⟩ : k < m ∧ True := by
      have : ∀ {n k : Nat}, zfind (fun k => decide (H k = p)) n = some k → k < n := by
        intro n
        induction n with
        | zero => intro k h; cases h
        | succ n ih =>
          intro k h
          rw [zfind] at h
          cases hz : zfind (fun k => decide (H k = p)) n with
          | some o =>
            rw [hz] at h
            cases h
            have := ih hz
            omega
          | none =>
            rw [hz] at h
            dsimp only at h
            split at h
            · cases h; omega
            · cases h
      exact ⟨this hk, trivial⟩
    exact h k h1
  · exact hp
set_option maxHeartbeats 1000000 in
set_option maxRecDepth 100000 in
theorem s4_rings_i {t : zMod} {u : zCls} (hm : mOk t) (hk : tKy (mg_s t)) (hm1 : zmask (fun k => mg_s t (40 + 2 * k + 1)) (mg_s t 1) = 2 ^ mg_s t 0 - 1) {do_ ho n p : Nat} {Q : Option Int32 → List zC → Prop} : ∀ (f at_ seen : Nat) (hf : zleft seen (mg_s t 0) ≤ f) (hat : at_ < mg_s t 0) (hse : seen < 128) (kk : ∀ a9 : Nat, Rq mX4_ringsNow 6 none 146 [.ref 0, .int (nI do_), .int (nI ho), .int (nI n), .int (nI (zorb (zpi (fun k => mg_s t (40 + 2 * k)) (fun k => mg_s t (40 + 2 * k + 1)) (mg_s t 1)) (f + 1) at_ seen)), .int (nI p), .int (nI a9)] [] (hA t u) Q), Rq mX4_ringsNow 6 none 116 [.ref 0, .int (nI do_), .int (nI ho), .int (nI n), .int (nI seen), .int (nI p), .int (nI at_)] [] (hA t u) Q := by
  intro f
  induction f with
  | zero =>
    intro at_ seen hf hat hse kk
    obtain ⟨⟨hs, h0, h1⟩, hbr, hnw, hou, hop⟩ := id hm
    have hdl : ∀ k, k < mg_s t 1 → mg_s t (40 + 2 * k) < mg_s t 0 := fun k q => (hk k q).1
    have hp7 := zpow7 (p := at_) (by omega)
    have hbt := zleft_0 (Nat.le_zero.mp hf) at_ hat
    have hb1 : seen / 2 ^ at_ &&& 1 = 1 := by rw [zbit, hbt]; rfl
    refine r_iload eX4_ringsNow_116 rfl ?_
    refine r_iload eX4_ringsNow_118 rfl ?_
    refine n_shr eX4_ringsNow_120 (by first | omega | exact zlt (hs _) | (have := zb2 seen at_; omega)) (by first | omega | exact zlt (hs _) | (have := zb2 seen at_; omega)) ?_
    refine n_iconst 1 eX4_ringsNow_121 rfl ?_
    refine n_and eX4_ringsNow_122 ?_
    refine n_if_ne eX4_ringsNow_123 (by first | omega | exact zlt (hs _) | (have := zb2 seen at_; omega)) (fun hc123 => ?_) (fun hc123 => absurd hc123 (by omega))
    have e := kk at_
    rw [zorb, if_pos hbt] at e
    exact e
  | succ f ih =>
    intro at_ seen hf hat hse kk
    obtain ⟨⟨hs, h0, h1⟩, hbr, hnw, hou, hop⟩ := id hm
    have hdl : ∀ k, k < mg_s t 1 → mg_s t (40 + 2 * k) < mg_s t 0 := fun k q => (hk k q).1
    have hp7 := zpow7 (p := at_) (by omega)
    refine r_iload eX4_ringsNow_116 rfl ?_
    refine r_iload eX4_ringsNow_118 rfl ?_
    refine n_shr eX4_ringsNow_120 (by first | omega | exact zlt (hs _) | (have := zb2 seen at_; omega)) (by first | omega | exact zlt (hs _) | (have := zb2 seen at_; omega)) ?_
    refine n_iconst 1 eX4_ringsNow_121 rfl ?_
    refine n_and eX4_ringsNow_122 ?_
    refine n_if_ne eX4_ringsNow_123 (by first | omega | exact zlt (hs _) | (have := zb2 seen at_; omega)) (fun hc123 => ?_) (fun hc123 => ?_)
    · have e := kk at_
      rw [zorb, if_pos (zb1' hc123)] at e
      exact e
    · refine r_iload eX4_ringsNow_126 rfl ?_
      refine n_iconst 1 eX4_ringsNow_128 rfl ?_
      refine r_iload eX4_ringsNow_129 rfl ?_
      refine n_shl eX4_ringsNow_131 (by first | omega | exact zlt (hs _) | (have := zb2 seen at_; omega)) (by first | omega | exact zlt (hs _) | (have := zb2 seen at_; omega)) ?_
      refine n_or eX4_ringsNow_132 ?_
      refine r_istore eX4_ringsNow_133 (by decide) ?_
      refine r_aload_n eX4_ringsNow_135 rfl rfl ?_
      refine r_iload eX4_ringsNow_136 rfl ?_
      refine r_callVi1 eX4_ringsNow_138 lX4_177 (Or.inl ⟨_, _, _, rfl, rfl, rfl⟩) (s4_heldBy (t := t) (u := u) hm hat hm1) (by omega) (Nat.le_of_ble_eq_true rfl) (fun r1 h1 hq => ?_)
      obtain ⟨rfl, rfl⟩ := (show r1 = nI (zpi (fun k => mg_s t (40 + 2 * k)) (fun k => mg_s t (40 + 2 * k + 1)) (mg_s t 1) at_) ∧ h1 = hA t u from hq)
      refine r_istore eX4_ringsNow_141 (by decide) ?_
      refine r_goto eX4_ringsNow_143 ?_
      have hbf := zb0' hc123
      refine ih _ _ (by have := zleft_or (n := mg_s t 0) hbf; rw [if_pos hat] at this; omega) (zpi_lt hdl hat) (zor_lt hse (by omega)) (fun a9 => ?_)
      have e := kk a9
      rw [zorb, if_neg (by rw [hbf]; decide)] at e
      exact e
theorem zorb_lt {pi : Nat → Nat} (h : ∀ p, p < 7 → pi p < 7) : ∀ {f a s : Nat}, a < 7 → s < 128 → zorb pi f a s < 128
  | 0, _, _, _, hs => hs
  | f + 1, a, s, ha, hs => by
    rw [zorb]
    split
    · exact hs
    · exact zorb_lt h (h a ha) (zor_lt hs ha)
theorem zpi_7 {D H : Nat → Nat} {m p : Nat} (h : ∀ k, k < m → D k < 7) (hp : p < 7) : zpi D H m p < 7 := zpi_lt h hp
theorem zrgs_lt {pi : Nat → Nat} {n : Nat} (h : ∀ p, p < 7 → pi p < 7) : ∀ {p : Nat}, p ≤ 7 → (zrgs pi n p).2 < 128 ∧ (zrgs pi n p).1 ≤ p
  | 0, _ => ⟨by show 0 < 128; omega, Nat.le_refl _⟩
  | p + 1, hp => by
    have ih := zrgs_lt (n := n) h (p := p) (by omega)
    rw [zrgs]
    split
    · exact ⟨ih.1, by omega⟩
    · exact ⟨zorb_lt h (by omega) ih.1, by dsimp only; omega⟩
set_option maxHeartbeats 1000000 in
set_option maxRecDepth 100000 in
theorem s4_rings_o {t : zMod} {u : zCls} (hm : mOk t) (hk : tKy (mg_s t)) (hm1 : zmask (fun k => mg_s t (40 + 2 * k + 1)) (mg_s t 1) = 2 ^ mg_s t 0 - 1) {do_ ho : Nat} : ∀ (k p n seen : Nat) (v6 : Value) (hd : p + k = mg_s t 0) (hz : (zrgs (zpi (fun k => mg_s t (40 + 2 * k)) (fun k => mg_s t (40 + 2 * k + 1)) (mg_s t 1)) (mg_s t 0) p) = (n, seen)), Rq mX4_ringsNow 6 none 84 [.ref 0, .int (nI do_), .int (nI ho), .int (nI n), .int (nI seen), .int (nI p), v6] [] (hA t u) (fun r h' => ∃ x, r = some x ∧ (x = nI (zrgs (zpi (fun k => mg_s t (40 + 2 * k)) (fun k => mg_s t (40 + 2 * k + 1)) (mg_s t 1)) (mg_s t 0) (mg_s t 0)).1 ∧ h' = hA t u)) := by
  intro k
  induction k with
  | zero =>
    intro p n seen v6 hd hz
    obtain ⟨⟨hs, h0, h1⟩, hbr, hnw, hou, hop⟩ := id hm
    have hdl : ∀ k, k < mg_s t 1 → mg_s t (40 + 2 * k) < mg_s t 0 := fun k q => (hk k q).1
    have hrl := zrgs_lt (n := mg_s t 0) (fun p hp => zpi_7 (H := (fun k => mg_s t (40 + 2 * k + 1))) (fun k hk => by have := hdl k hk; show mg_s t (40 + 2 * k) < 7; omega) hp) (p := p) (by omega)
    rw [hz] at hrl
    dsimp only at hrl
    refine r_iload eX4_ringsNow_84 rfl ?_
    refine r_aload_n eX4_ringsNow_86 rfl rfl ?_
    refine r_getf (v := .ref 2) eX4_ringsNow_87 fX4_13 rfl rfl ?_
    refine n_iconst 0 eX4_ringsNow_90 rfl ?_
    refine n_iald (f := mg_s t) (j := 0) eX4_ringsNow_91 rfl rfl (by first | omega | exact zlt (hs _) | (have := zb2 seen p; omega)) (by decide) ?_
    refine n_icmp_ge eX4_ringsNow_92 (by first | omega | exact zlt (hs _) | (have := zb2 seen p; omega)) (by first | omega | exact zlt (hs _) | (have := zb2 seen p; omega)) (fun hc92 => ?_) (fun hc92 => absurd hc92 (by omega))
    refine r_iload_n eX4_ringsNow_152 rfl rfl ?_
    have e0 : mg_s t 0 = p := by omega
    exact z_iret eX4_ringsNow_153 rfl rfl ⟨_, rfl, congrArg nI (by rw [show (zrgs (zpi (fun k => mg_s t (40 + 2 * k)) (fun k => mg_s t (40 + 2 * k + 1)) (mg_s t 1)) (mg_s t 0) (mg_s t 0)) = (zrgs (zpi (fun k => mg_s t (40 + 2 * k)) (fun k => mg_s t (40 + 2 * k + 1)) (mg_s t 1)) (mg_s t 0) p) from congrArg _ e0, hz]), rfl⟩
  | succ k ih =>
    intro p n seen v6 hd hz
    obtain ⟨⟨hs, h0, h1⟩, hbr, hnw, hou, hop⟩ := id hm
    have hdl : ∀ k, k < mg_s t 1 → mg_s t (40 + 2 * k) < mg_s t 0 := fun k q => (hk k q).1
    have hrl := zrgs_lt (n := mg_s t 0) (fun p hp => zpi_7 (H := (fun k => mg_s t (40 + 2 * k + 1))) (fun k hk => by have := hdl k hk; show mg_s t (40 + 2 * k) < 7; omega) hp) (p := p) (by omega)
    rw [hz] at hrl
    dsimp only at hrl
    have hp7 := zpow7 (p := p) (by omega)
    refine r_iload eX4_ringsNow_84 rfl ?_
    refine r_aload_n eX4_ringsNow_86 rfl rfl ?_
    refine r_getf (v := .ref 2) eX4_ringsNow_87 fX4_13 rfl rfl ?_
    refine n_iconst 0 eX4_ringsNow_90 rfl ?_
    refine n_iald (f := mg_s t) (j := 0) eX4_ringsNow_91 rfl rfl (by first | omega | exact zlt (hs _) | (have := zb2 seen p; omega)) (by decide) ?_
    refine n_icmp_ge eX4_ringsNow_92 (by first | omega | exact zlt (hs _) | (have := zb2 seen p; omega)) (by first | omega | exact zlt (hs _) | (have := zb2 seen p; omega)) (fun hc92 => absurd hc92 (by omega)) (fun hc92 => ?_)
    refine r_iload eX4_ringsNow_95 rfl ?_
    refine r_iload eX4_ringsNow_97 rfl ?_
    refine n_shr eX4_ringsNow_99 (by first | omega | exact zlt (hs _) | (have := zb2 seen p; omega)) (by first | omega | exact zlt (hs _) | (have := zb2 seen p; omega)) ?_
    refine n_iconst 1 eX4_ringsNow_100 rfl ?_
    refine n_and eX4_ringsNow_101 ?_
    refine n_iconst 1 eX4_ringsNow_102 rfl ?_
    refine n_icmp_ne eX4_ringsNow_103 (by first | omega | exact zlt (hs _) | (have := zb2 seen p; omega)) (by first | omega | exact zlt (hs _) | (have := zb2 seen p; omega)) (fun hc103 => ?_) (fun hc103 => ?_)
    · refine n_iinc (k := 1) eX4_ringsNow_109 rfl (by decide) rfl ?_
      refine r_iload eX4_ringsNow_112 rfl ?_
      refine r_istore eX4_ringsNow_114 (by decide) ?_
      refine s4_rings_i hm hk hm1 (mg_s t 0) p seen (zleft_le _ _) (by omega) hrl.1 (fun a9 => ?_)
      refine n_iinc (k := 1) eX4_ringsNow_146 rfl (by decide) rfl ?_
      refine r_goto eX4_ringsNow_149 ?_
      exact ih (p + 1) (n + 1) _ _ (by omega) (by rw [zrgs, hz, if_neg (by rw [zb0 hc103]; decide)])
    · refine r_goto eX4_ringsNow_106 ?_
      refine n_iinc (k := 1) eX4_ringsNow_146 rfl (by decide) rfl ?_
      refine r_goto eX4_ringsNow_149 ?_
      exact ih (p + 1) n seen v6 (by omega) (by rw [zrgs, hz, if_pos (zb1 hc103)])
set_option maxHeartbeats 1000000 in
set_option maxRecDepth 100000 in
theorem s4_rings_l {t : zMod} {u : zCls} (hm : mOk t) (hk : tKy (mg_s t)) : ∀ (k : Nat) (kx : Nat) (v4 : Value) (v5 : Value) (v6 : Value) (hd : kx + k = mg_s t 1), Rq mX4_ringsNow 6 none 6 [.ref 0, .int (nI (zmask (fun k => mg_s t (40 + 2 * k)) kx)), .int (nI (zmask (fun k => mg_s t (40 + 2 * k + 1)) kx)), .int (nI (kx)), v4, v5, v6] [] (hA t u) (fun r h' => ∃ x, r = some x ∧ (x = zrings (fun k => mg_s t (40 + 2 * k)) (fun k => mg_s t (40 + 2 * k + 1)) (mg_s t 1) (mg_s t 0) ∧ h' = hA t u)) := by
  intro k
  induction k with
  | zero =>
    intro kx v4 v5 v6 hd
    obtain ⟨⟨hs, h0, h1⟩, hbr, hnw, hou, hop⟩ := id hm
    have hdl : ∀ k, k < mg_s t 1 → mg_s t (40 + 2 * k) < mg_s t 0 := fun k q => (hk k q).1
    have e0 : kx = mg_s t 1 := by omega
    have hl1 := zmask_lt (m := kx) (fun k q => (hk k (by omega)).1)
    have hl2 := zmask_lt (m := kx) (fun k q => (hk k (by omega)).2)
    have hp77 : 2 ^ mg_s t 0 ≤ 2 ^ 7 := Nat.pow_le_pow_right (by omega) h0
    refine r_iload_n eX4_ringsNow_6 rfl rfl ?_
    refine r_aload_n eX4_ringsNow_7 rfl rfl ?_
    refine r_getf (v := .ref 2) eX4_ringsNow_8 fX4_13 rfl rfl ?_
    refine n_iconst 1 eX4_ringsNow_11 rfl ?_
    refine n_iald (f := mg_s t) (j := 1) eX4_ringsNow_12 rfl rfl (by omega) (by decide) ?_
    refine n_icmp_ge eX4_ringsNow_13 (by omega) (by omega) (fun hc13 => ?_) (fun hc13 => absurd hc13 (by omega))
    refine r_aload_n eX4_ringsNow_42 rfl rfl ?_
    refine r_getf (v := .ref 2) eX4_ringsNow_43 fX4_13 rfl rfl ?_
    refine n_iconst 1 eX4_ringsNow_46 rfl ?_
    refine n_iald (f := mg_s t) (j := 1) eX4_ringsNow_47 rfl rfl (by omega) (by decide) ?_
    refine r_aload_n eX4_ringsNow_48 rfl rfl ?_
    refine r_getf (v := .ref 2) eX4_ringsNow_49 fX4_13 rfl rfl ?_
    refine n_iconst 0 eX4_ringsNow_52 rfl ?_
    refine n_iald (f := mg_s t) (j := 0) eX4_ringsNow_53 rfl rfl (by omega) (by decide) ?_
    refine n_icmp_ne eX4_ringsNow_54 (by omega) (by omega) (fun hc54 => ?_) (fun hc54 => ?_)
    · refine r_bipush (v := (-9)) eX4_ringsNow_73 rfl ?_
      refine z_iret eX4_ringsNow_75 rfl rfl ⟨_, rfl, ?_, rfl⟩
      rw [zrings, if_neg (by rintro ⟨g1, g2, g3⟩; rw [← e0] at g2 g3; omega)]
    · refine r_iload_n eX4_ringsNow_57 rfl rfl ?_
      refine r_aload_n eX4_ringsNow_58 rfl rfl ?_
      refine r_callVi0 eX4_ringsNow_59 lX4_117 (Or.inl ⟨_, _, _, rfl, rfl, rfl⟩) (s4_everybody (t := t) (u := u) h0) (by omega) (Nat.le_of_ble_eq_true rfl) (fun r1 h1 hq => ?_)
      obtain ⟨rfl, rfl⟩ := (show r1 = nI (2 ^ mg_s t 0 - 1) ∧ h1 = hA t u from hq)
      refine n_icmp_ne eX4_ringsNow_62 (by omega) (by omega) (fun hc62 => ?_) (fun hc62 => ?_)
      · refine r_bipush (v := (-9)) eX4_ringsNow_73 rfl ?_
        refine z_iret eX4_ringsNow_75 rfl rfl ⟨_, rfl, ?_, rfl⟩
        rw [zrings, if_neg (by rintro ⟨g1, g2, g3⟩; rw [← e0] at g2 g3; omega)]
      · refine r_iload_n eX4_ringsNow_65 rfl rfl ?_
        refine r_aload_n eX4_ringsNow_66 rfl rfl ?_
        refine r_callVi0 eX4_ringsNow_67 lX4_117 (Or.inl ⟨_, _, _, rfl, rfl, rfl⟩) (s4_everybody (t := t) (u := u) h0) (by omega) (Nat.le_of_ble_eq_true rfl) (fun r1 h1 hq => ?_)
        obtain ⟨rfl, rfl⟩ := (show r1 = nI (2 ^ mg_s t 0 - 1) ∧ h1 = hA t u from hq)
        refine n_icmp_eq eX4_ringsNow_70 (by omega) (by omega) (fun hc70 => ?_) (fun hc70 => ?_)
        · refine n_iconst 0 eX4_ringsNow_76 rfl ?_
          refine r_istore_n eX4_ringsNow_77 rfl (by decide) ?_
          refine n_iconst 0 eX4_ringsNow_78 rfl ?_
          refine r_istore eX4_ringsNow_79 (by decide) ?_
          refine n_iconst 0 eX4_ringsNow_81 rfl ?_
          refine r_istore eX4_ringsNow_82 (by decide) ?_
          refine Rq.mono (s4_rings_o hm hk (by rw [← e0]; exact hc70) (mg_s t 0) 0 0 0 v6 (Nat.zero_add _) rfl) (fun r h' hq => ?_)
          obtain ⟨x, rfl, rfl, rfl⟩ := hq
          exact ⟨_, rfl, by rw [zrings, if_pos ⟨hc54, by rw [← e0]; exact hc62, by rw [← e0]; exact hc70⟩], rfl⟩
        · refine r_bipush (v := (-9)) eX4_ringsNow_73 rfl ?_
          refine z_iret eX4_ringsNow_75 rfl rfl ⟨_, rfl, ?_, rfl⟩
          rw [zrings, if_neg (by rintro ⟨g1, g2, g3⟩; rw [← e0] at g2 g3; omega)]
  | succ k ih =>
    intro kx v4 v5 v6 hd
    obtain ⟨⟨hs, h0, h1⟩, hbr, hnw, hou, hop⟩ := id hm
    have hdl : ∀ k, k < mg_s t 1 → mg_s t (40 + 2 * k) < mg_s t 0 := fun k q => (hk k q).1
    have hkx := hk kx (by omega)
    have hp71 := zpow7 (p := mg_s t (40 + 2 * kx)) (by omega)
    have hp72 := zpow7 (p := mg_s t (40 + 2 * kx + 1)) (by omega)
    refine r_iload_n eX4_ringsNow_6 rfl rfl ?_
    refine r_aload_n eX4_ringsNow_7 rfl rfl ?_
    refine r_getf (v := .ref 2) eX4_ringsNow_8 fX4_13 rfl rfl ?_
    refine n_iconst 1 eX4_ringsNow_11 rfl ?_
    refine n_iald (f := mg_s t) (j := 1) eX4_ringsNow_12 rfl rfl (by first | omega | exact zlt (hs _) | exact hou _ | exact hop _) (by decide) ?_
    refine n_icmp_ge eX4_ringsNow_13 (by first | omega | exact zlt (hs _) | exact hou _ | exact hop _) (by first | omega | exact zlt (hs _) | exact hou _ | exact hop _) (fun hc13 => absurd hc13 (by omega)) (fun hc13 => ?_)
    refine r_iload_n eX4_ringsNow_16 rfl rfl ?_
    refine n_iconst 1 eX4_ringsNow_17 rfl ?_
    refine r_aload_n eX4_ringsNow_18 rfl rfl ?_
    refine r_iload_n eX4_ringsNow_19 rfl rfl ?_
    refine r_callVi1 eX4_ringsNow_20 lX4_120 (Or.inl ⟨_, _, _, rfl, rfl, rfl⟩) (s4_door (t := t) (u := u) (by omega)) (by omega) (Nat.le_of_ble_eq_true rfl) (fun r1 h1 hq => ?_)
    obtain ⟨rfl, rfl⟩ := (show r1 = nI ((mg_s t) (40 + 2 * kx)) ∧ h1 = hA t u from hq)
    refine n_shl eX4_ringsNow_23 (by first | omega | exact zlt (hs _) | exact hou _ | exact hop _) (by first | omega | exact zlt (hs _) | exact hou _ | exact hop _) ?_
    refine n_or eX4_ringsNow_24 ?_
    refine r_istore_n eX4_ringsNow_25 rfl (by decide) ?_
    refine r_iload_n eX4_ringsNow_26 rfl rfl ?_
    refine n_iconst 1 eX4_ringsNow_27 rfl ?_
    refine r_aload_n eX4_ringsNow_28 rfl rfl ?_
    refine r_iload_n eX4_ringsNow_29 rfl rfl ?_
    refine r_callVi1 eX4_ringsNow_30 lX4_106 (Or.inl ⟨_, _, _, rfl, rfl, rfl⟩) (s4_held (t := t) (u := u) (by omega)) (by omega) (Nat.le_of_ble_eq_true rfl) (fun r1 h1 hq => ?_)
    obtain ⟨rfl, rfl⟩ := (show r1 = nI ((mg_s t) (40 + 2 * kx + 1)) ∧ h1 = hA t u from hq)
    refine n_shl eX4_ringsNow_33 (by first | omega | exact zlt (hs _) | exact hou _ | exact hop _) (by first | omega | exact zlt (hs _) | exact hou _ | exact hop _) ?_
    refine n_or eX4_ringsNow_34 ?_
    refine r_istore_n eX4_ringsNow_35 rfl (by decide) ?_
    refine n_iinc (k := 1) eX4_ringsNow_36 rfl (by decide) rfl ?_
    refine r_goto eX4_ringsNow_39 ?_
    exact ih (kx + 1) v4 v5 v6 (by omega)
set_option maxHeartbeats 1000000 in
set_option maxRecDepth 100000 in
theorem s4_ringsNow {t : zMod} {u : zCls} (hm : mOk t) (hk : tKy (mg_s t)) : Mi mX4_ringsNow 6 [.ref 0] (hA t u) (fun r h' => r = zrings (fun k => mg_s t (40 + 2 * k)) (fun k => mg_s t (40 + 2 * k + 1)) (mg_s t 1) (mg_s t 0) ∧ h' = hA t u) := by
  refine Mi.of (by decide) rfl (Nat.le_of_ble_eq_true rfl) ?_
  refine n_iconst 0 eX4_ringsNow_0 rfl ?_
  refine r_istore_n eX4_ringsNow_1 rfl (by decide) ?_
  refine n_iconst 0 eX4_ringsNow_2 rfl ?_
  refine r_istore_n eX4_ringsNow_3 rfl (by decide) ?_
  refine n_iconst 0 eX4_ringsNow_4 rfl ?_
  refine r_istore_n eX4_ringsNow_5 rfl (by decide) ?_
  exact s4_rings_l hm hk (mg_s t 1) 0 (.retAddr 0) (.retAddr 0) (.retAddr 0) (Nat.zero_add _)
set_option maxHeartbeats 1000000 in
set_option maxRecDepth 100000 in
theorem s4_rings {t : zMod} {u : zCls} (hm : mOk t) (hk : tKy (mg_s t)) : Mi mX4_rings 8 [.ref 0] (hA t u) (fun r h' => r = zrings (fun k => mg_s t (40 + 2 * k)) (fun k => mg_s t (40 + 2 * k + 1)) (mg_s t 1) (mg_s t 0) ∧ h' = hA t u) := by
  refine Mi.of (by decide) rfl (Nat.le_of_ble_eq_true rfl) ?_
  refine r_aload_n eX4_rings_0 rfl rfl ?_
  refine r_callVi0 eX4_rings_1 lX4_180 (Or.inl ⟨_, _, _, rfl, rfl, rfl⟩) (s4_ringsNow (t := t) (u := u) hm hk) (by omega) (Nat.le_of_ble_eq_true rfl) (fun r1 h1 hq => ?_)
  obtain ⟨rfl, rfl⟩ := (show r1 = zrings (fun k => mg_s t (40 + 2 * k)) (fun k => mg_s t (40 + 2 * k + 1)) (mg_s t 1) (mg_s t 0) ∧ h1 = hA t u from hq)
  exact z_iret eX4_rings_4 rfl rfl ⟨_, rfl, rfl, rfl⟩
