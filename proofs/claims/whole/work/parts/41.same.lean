/-! BOTH SIDES: the same answers -/
theorem sFew_t {S : Nat → Nat} {X : zTown} (h : zTo S X) : sFew S 0 = tFew (sTw S) := by
  unfold sFew tFew
  refine zlea_cong fun s hs => ⟨rfl, ?_⟩
  have e : sAll (va_up S 2 s) 1 0 = tAll (tWt (sTw S) s) 1 0 := (tAll_eq (tWt_ok h.2.2.2.1 hs) (tWt_eqS h.2.1)).symm
  rw [e]
theorem sSoo_t {S : Nat → Nat} {X : zTown} (h : zTo S X) (c : Nat) : zsoo c (fun s => sAll (va_up S 2 s) 0 0) (2 ^ S 0) = tSoo (sTw S) c :=
  zsoo_cong fun s hs => (tAll_eq (tWt_ok h.2.2.2.1 hs) (tWt_eqS h.2.1)).symm
theorem sBrk_t (S : Nat → Nat) : sBrk S 0 = tBrk (sTw S) := rfl
/-! swap -/
theorem tSw_eqS {S : Nat → Nat} {a b : Nat} (h0 : S 0 ≤ 7) (hab : ¬ a = b) : tEq (tSw (sTw S) a b) (sTw (sSw S a b)) := by
  refine sTw_of (sSw_o (by omega) (by omega)) (sSw_o (by omega) (by omega)) (sSw_o (by omega) (by omega)) (sSw_o (by omega) (by omega)) (sSw_o (by omega) (by omega)) (fun p hp => ?_) (fun k hk => ?_)
  · have hp2 : p < S 0 := hp
    exact ⟨sSw_o (by omega) (by omega), sSw_o (by omega) (by omega), sSw_o (by omega) (by omega), sSw_o (by omega) (by omega), sSw_o (by omega) (by omega)⟩
  · refine ⟨sSw_o (by omega) (by omega), ?_⟩
    show sSw S a b (40 + 2 * k + 1) = va_up (va_up (fun k => S (40 + 2 * k + 1)) a (S (40 + 2 * b + 1))) b (S (40 + 2 * a + 1)) k
    by_cases e1 : k = b
    · rw [e1, zu_s, sSw_b]
    · by_cases e2 : k = a
      · rw [e2, zu_n hab, zu_s, sSw_a hab]
      · rw [zu_n e1, zu_n e2, sSw_o (by omega) (by omega)]
theorem sSf_t {S : Nat → Nat} {a b : Nat} (h0 : S 0 ≤ 7) (hab : ¬ a = b) : sSf S a b = tSf (sTw S) a b := by
  have e : sRg (sSw S a b) = tRings (tSw (sTw S) a b) := (tRings_eq (tSw_eqS h0 hab)).symm
  unfold sSf tSf
  rw [e]
  rfl
theorem zsa_cong {f g : Nat → Nat → Bool} {m : Nat} (h : ∀ a b, a < b → f a b = g a b) : ∀ a, zsa f m a = zsa g m a
  | 0 => rfl
  | a + 1 => by
    have e : zfind (fun b => decide (a < b) && f a b) m = zfind (fun b => decide (a < b) && g a b) m := zfind_cong fun b _ => by
      by_cases hab : a < b
      · rw [h a b hab]
      · rw [decide_eq_false hab]; rfl
    rw [zsa, zsa, zsa_cong h a, e]
theorem sSwap_t {S : Nat → Nat} (h0 : S 0 ≤ 7) : zsa (sSf S) (S 1) (S 1) = zsa (tSf (sTw S)) (tg_keys (sTw S)) (tg_keys (sTw S)) := zsa_cong (fun a b hab => sSf_t h0 (by omega)) _
/-! seeds -/
theorem tDraw_eqS {S : Nat → Nat} {z : Int32} (h0 : S 0 ≤ 7) : tEq (tDraw (sTw S) z) (sTw (sDraw S z (S 0))) := by
  refine tWk_eqS h0 (fun i hi => ?_) (fun p hp => ⟨?_, ?_, ?_, ?_, ?_⟩) (fun k hk => ⟨?_, ?_⟩)
  · unfold sDraw; rw [if_neg (by omega)]
  · unfold sDraw; rw [if_neg (by omega)]
  · unfold sDraw
    rw [if_pos (by omega), show (5 + 5 * p + 1 - 6) / 5 + 1 = p + 1 by omega]
  · unfold sDraw; rw [if_neg (by omega)]
  · unfold sDraw; rw [if_neg (by omega)]
  · unfold sDraw; rw [if_neg (by omega)]
  · unfold sDraw; rw [if_neg (by omega)]
  · unfold sDraw; rw [if_neg (by omega)]
theorem sSeed_t {S : Nat → Nat} {X : zTown} (h : zTo S X) : sSeedV S 0 0 = tSeedV (sTw S) := by
  funext z
  have e : sAll (sDraw S z (S 0)) 0 0 = tAll (tDraw (sTw S) z) 0 0 := (tAll_eq (tDraw_ok h.2.2.2.1 z) (tDraw_eqS h.2.1)).symm
  unfold sSeedV tSeedV
  rw [e]
/-! gone -/
set_option maxRecDepth 1000000 in
theorem zandn : ∀ x, x < 128 → ∀ y, y < 128 → nI x &&& (nI y ^^^ (-1)) = nI (x ^^^ (x &&& y)) := by decide +kernel
theorem sGone_t {S : Nat → Nat} {X : zTown} {v : Nat} (h : zTo S X) (hv : v < S 1) : nI (zbs (fun p => decide (¬ tO (sTw S) 0 0 p = 1000000)) (tg_people (sTw S))) &&& (nI (zbs (fun p => decide (¬ tO (tDrop (sTw S) v) 0 0 p = 1000000)) (tg_people (sTw S))) ^^^ (-1)) = nI (zbs (fun p => decide (sO (sDrop S v) 0 0 p = 1000000)) ((sDrop S v) 0)) &&& (nI (zbs (fun p => decide (sO S 0 0 p = 1000000)) (S 0)) ^^^ (-1)) := by
  have h7 := h.2.1
  have hb : ∀ f, zbs f (S 0) < 128 := fun f => Nat.lt_of_lt_of_le (zbs_lt f (S 0)) (Nat.pow_le_pow_right (by omega) h7 : 2 ^ S 0 ≤ 2 ^ 7)
  have e0 : sDrop S v 0 = S 0 := by unfold sDrop; rw [if_neg (by omega), if_neg (by omega)]
  have e1 : ∀ p, p < S 0 → sO (sDrop S v) 0 0 p = tO (tDrop (sTw S) v) 0 0 p := fun p hp => (tO_eq (tDrop_ok h.2.2.2.1) (tDrop_eqS h7 hv) (show p < tg_people (tDrop (sTw S) v) from hp)).1.symm
  have ep : tg_people (sTw S) = S 0 := rfl
  rw [e0, ep, zandn _ (hb _) _ (hb _), zandn _ (hb _) _ (hb _)]
  congr 1
  apply Nat.eq_of_testBit_eq
  intro i
  rw [Nat.testBit_xor, Nat.testBit_and, Nat.testBit_xor, Nat.testBit_and, zbs_bit, zbs_bit, zbs_bit, zbs_bit]
  by_cases hi : i < S 0
  · rw [e1 i hi]
    have e2 : sO S 0 0 i = tO (sTw S) 0 0 i := rfl
    rw [e2]
    by_cases a1 : tO (sTw S) 0 0 i = 1000000 <;> by_cases a2 : tO (tDrop (sTw S) v) 0 0 i = 1000000 <;> simp [hi, a1, a2]
  · simp [hi]
/-! copies -/
theorem sCopy_val {S : Nat → Nat} {X : zTown} (h : zTo S X) (k : Nat) : sCopyV S 0 0 k = tAll (tAdd (sTw S) (k / 10) (k % 10)) 0 0 := (tAll_eq (tAdd_ok h.2.2.2.1 (show S 1 ≤ 11 from Nat.le_trans h.2.2.1 (by decide))) (tAdd_eqS h.2.1 (Nat.le_trans h.2.2.1 (by decide)))).symm
theorem tAddB_iff {T : zTown} {j : Nat} : tAddB T j = true ↔ (j / 7 < tg_people T ∧ j % 7 < tg_people T ∧ ¬ j / 7 = j % 7 ∧ tHd T (j % 7) (j / 7) = false) := decide_eq_true_iff
theorem tUse {T : zTown} {j : Nat} (hT : tOk T) (h : ¬ tAddB T j = true) (hd : j / 7 < tg_people T) (hp : j % 7 < tg_people T) : j / 7 = j % 7 ∨ tHd T (j % 7) (j / 7) = true := by
  by_cases e : j / 7 = j % 7
  · exact Or.inl e
  · right
    cases hh : tHd T (j % 7) (j / 7) with
    | true => rfl
    | false => exact absurd (tAddB_iff.mpr ⟨hd, hp, e, hh⟩) h
theorem zlw_skip {val : Nat → Nat} {n than k : Nat} (h : ¬ k % 10 < n) : zlw val n than (k + 1) = zlw val n than k := by rw [zlw, if_neg (fun z => h z.1)]
theorem zlw_go {val : Nat → Nat} {n than k : Nat} (h : k % 10 < n) : zlw val n than (k + 1) = if val k < (zlw val n than k).1 then (val k, some k) else zlw val n than k := by
  rw [zlw]
  by_cases e : val k < (zlw val n than k).1
  · rw [if_pos ⟨h, e⟩, if_pos e]
  · rw [if_neg (fun z => e z.2), if_neg e]
def zkk (n j : Nat) : Nat := if j / 7 < n then 10 * (j / 7) + j % 7 else 10 * n
theorem zcw_is {T : zTown} (hT : tOk T) : ∀ j, zcw T j = zlw (fun k => tAll (tAdd T (k / 10) (k % 10)) 0 0) (tg_people T) (tAll T 0 0) (zkk (tg_people T) j)
  | 0 => by
    have e : zkk (tg_people T) 0 = 0 := by unfold zkk; split <;> omega
    rw [e]; rfl
  | j + 1 => by
    have ih := zcw_is hT j
    have h7 := hT.1
    have hle := zlw_le (val := fun k => tAll (tAdd T (k / 10) (k % 10)) 0 0) (n := tg_people T) (than := tAll T 0 0) (zkk (tg_people T) j)
    rw [zcw, ih]
    by_cases hd : j / 7 < tg_people T
    · have e1 : zkk (tg_people T) j = 10 * (j / 7) + j % 7 := if_pos hd
      rw [e1] at hle ⊢
      have k1 : (10 * (j / 7) + j % 7) / 10 = j / 7 := by omega
      have k2 : (10 * (j / 7) + j % 7) % 10 = j % 7 := by omega
      have e2 : zlw (fun k => tAll (tAdd T (k / 10) (k % 10)) 0 0) (tg_people T) (tAll T 0 0) (zkk (tg_people T) (j + 1)) = zlw (fun k => tAll (tAdd T (k / 10) (k % 10)) 0 0) (tg_people T) (tAll T 0 0) (10 * (j / 7) + j % 7 + 1) := by
        by_cases h6 : j % 7 < 6
        · have e3 : zkk (tg_people T) (j + 1) = 10 * (j / 7) + j % 7 + 1 := by
            unfold zkk
            rw [if_pos (by omega)]
            omega
          rw [e3]
        · have e3 : zkk (tg_people T) (j + 1) = 10 * (j / 7) + j % 7 + 1 + 1 + 1 + 1 := by
            unfold zkk
            split <;> omega
          rw [e3, zlw_skip (by omega), zlw_skip (by omega), zlw_skip (by omega)]
      rw [e2]
      by_cases hp : j % 7 < tg_people T
      · rw [zlw_go (by rw [k2]; exact hp)]
        rw [k1, k2]
        by_cases ha : tAddB T j = true
        · by_cases hv : tAll (tAdd T (j / 7) (j % 7)) 0 0 < (zlw (fun k => tAll (tAdd T (k / 10) (k % 10)) 0 0) (tg_people T) (tAll T 0 0) (10 * (j / 7) + j % 7)).1
          · rw [if_pos ⟨ha, hv⟩, if_pos hv]
          · rw [if_neg (fun z => hv z.2), if_neg hv]
        · have hs := tAll_same (nw := 0) (br := 0) hT (tUse hT ha hd hp)
          rw [if_neg (fun z => ha z.1), if_neg (by omega)]
      · rw [zlw_skip (by rw [k2]; exact hp), if_neg (fun z => hp (tAddB_iff.mp z.1).2.1)]
    · have e1 : zkk (tg_people T) j = 10 * tg_people T := if_neg hd
      have e2 : zkk (tg_people T) (j + 1) = 10 * tg_people T := if_neg (by omega)
      rw [e1, e2, if_neg (fun z => hd (tAddB_iff.mp z.1).1)]
theorem zlw_cong {val val' : Nat → Nat} {n than : Nat} (h : ∀ k, val k = val' k) : ∀ k, zlw val n than k = zlw val' n than k
  | 0 => rfl
  | k + 1 => by rw [zlw, zlw, zlw_cong h k, h k]
theorem sCopy_t {S : Nat → Nat} {X : zTown} (h : zTo S X) : zlw (sCopyV S 0 0) (S 0) (sAll S 0 0) (10 * S 0) = zcw (sTw S) 49 := by
  have h7 := h.2.1
  rw [zcw_is h.2.2.2.1, zlw_cong (sCopy_val h)]
  have e : zkk (tg_people (sTw S)) 49 = 10 * S 0 := if_neg (show ¬ 49 / 7 < S 0 by omega)
  rw [e]
  rfl
theorem zlw_iff {val : Nat → Nat} {n than b : Nat} : ∀ {K : Nat}, ((zlw val n than K).1 < b ↔ than < b ∨ ∃ k, k < K ∧ k % 10 < n ∧ val k < b)
  | 0 => ⟨Or.inl, fun z => z.elim id (fun ⟨k, hk, _⟩ => absurd hk (by omega))⟩
  | K + 1 => by
    have ih := zlw_iff (val := val) (n := n) (than := than) (b := b) (K := K)
    by_cases hk : K % 10 < n
    · rw [zlw_go hk]
      by_cases hv : val K < (zlw val n than K).1
      · rw [if_pos hv]
        constructor
        · intro z
          exact Or.inr ⟨K, by omega, hk, z⟩
        · rintro (z | ⟨k, h1, h2, h3⟩)
          · have := ih.mpr (Or.inl z)
            show val K < b
            omega
          · show val K < b
            by_cases e : k = K
            · rw [← e]; exact h3
            · have := ih.mpr (Or.inr ⟨k, by omega, h2, h3⟩)
              omega
      · rw [if_neg hv, ih]
        constructor
        · rintro (z | ⟨k, h1, h2, h3⟩)
          · exact Or.inl z
          · exact Or.inr ⟨k, by omega, h2, h3⟩
        · rintro (z | ⟨k, h1, h2, h3⟩)
          · exact Or.inl z
          · by_cases e : k = K
            · subst e
              exact ih.mp (by omega)
            · exact Or.inr ⟨k, by omega, h2, h3⟩
    · rw [zlw_skip hk, ih]
      constructor
      · rintro (z | ⟨k, h1, h2, h3⟩)
        · exact Or.inl z
        · exact Or.inr ⟨k, by omega, h2, h3⟩
      · rintro (z | ⟨k, h1, h2, h3⟩)
        · exact Or.inl z
        · have e : ¬ k = K := fun e => hk (e ▸ h2)
          exact Or.inr ⟨k, by omega, h2, h3⟩
theorem zany_iff {F : Nat → Bool} : ∀ {lo k : Nat}, (zany F lo k = true ↔ ∃ j, lo ≤ j ∧ j < lo + k ∧ F j = true)
  | lo, 0 => ⟨fun z => (by cases z), fun ⟨j, h1, h2, _⟩ => absurd h1 (by omega)⟩
  | lo, k + 1 => by
    rw [zany, Bool.or_eq_true, zany_iff (lo := lo + 1) (k := k)]
    constructor
    · rintro (z | ⟨j, h1, h2, h3⟩)
      · exact ⟨lo, by omega, by omega, z⟩
      · exact ⟨j, by omega, by omega, h3⟩
    · rintro ⟨j, h1, h2, h3⟩
      by_cases e : j = lo
      · subst e; exact Or.inl h3
      · exact Or.inr ⟨j, by omega, by omega, h3⟩
theorem zby2_iff {f : Nat → Bool} {n : Nat} : ∀ {K : Nat}, (zby2 f n K = true ↔ ∃ k, k < K ∧ k % 10 < n ∧ f k = true)
  | 0 => ⟨fun z => (by cases z), fun ⟨k, h, _⟩ => absurd h (by omega)⟩
  | K + 1 => by
    rw [zby2, Bool.or_eq_true, zby2_iff (K := K), Bool.and_eq_true, decide_eq_true_iff]
    constructor
    · rintro (⟨k, h1, h2, h3⟩ | ⟨h1, h2⟩)
      · exact ⟨k, by omega, h2, h3⟩
      · exact ⟨K, by omega, h1, h2⟩
    · rintro ⟨k, h1, h2, h3⟩
      by_cases e : k = K
      · subst e; exact Or.inr ⟨h2, h3⟩
      · exact Or.inl ⟨k, by omega, h2, h3⟩
theorem tHd_mono {T : zTown} {d0 p0 p d : Nat} (h : tHd T p d = true) : tHd (tAdd T d0 p0) p d = true := by
  by_cases e : p = p0 ∧ d = d0
  · obtain ⟨rfl, rfl⟩ := e
    rw [tHd_add]
    have h2 : (!(d == p) && zhold (tg_door T) (tg_held T) (tg_keys T) p d) = true := h
    rw [Bool.and_eq_true] at h2
    rw [h2.1, h2.2]
    rfl
  · rw [tHd_add2 e]; exact h
theorem tHd_add3 (T : zTown) (d1 p1 d2 p2 p d : Nat) : tHd (tAdd (tAdd T d1 p1) d2 p2) p d = (!(d == p) && ((zhold (tg_door T) (tg_held T) (tg_keys T) p d || (p1 == p && d1 == d)) || (p2 == p && d2 == d))) := by
  rw [tHd_add]
  have e : zhold (tg_door (tAdd T d1 p1)) (tg_held (tAdd T d1 p1)) (tg_keys (tAdd T d1 p1)) p d = (zhold (tg_door T) (tg_held T) (tg_keys T) p d || (p1 == p && d1 == d)) := zhold_add
  rw [e]
theorem tAll_swap {T : zTown} {d1 p1 d2 p2 nw br : Nat} (hT : tOk T) (hk : tg_keys T ≤ 10) : tAll (tAdd (tAdd T d1 p1) d2 p2) nw br = tAll (tAdd (tAdd T d2 p2) d1 p1) nw br := by
  have hT2 : tOk (tAdd (tAdd T d2 p2) d1 p1) := tAdd_ok (tAdd_ok hT (by omega)) (show tg_keys T + 1 ≤ 11 by omega)
  refine tAll_hd (T := tAdd (tAdd T d2 p2) d1 p1) (D := tg_door (tAdd (tAdd T d1 p1) d2 p2)) (H := tg_held (tAdd (tAdd T d1 p1) d2 p2)) (k := tg_keys (tAdd (tAdd T d1 p1) d2 p2)) hT2 (fun p d _ _ => ?_)
  show tHd (tAdd (tAdd T d2 p2) d1 p1) p d = tHd (tAdd (tAdd T d1 p1) d2 p2) p d
  rw [tHd_add3, tHd_add3, Bool.or_right_comm]
theorem sCps_t {S : Nat → Nat} {X : zTown} {mi : Nat} (h : zTo S X) : sCps S 0 0 mi = (if tOne (sTw S) mi = true then 0 else if zany (tF1 (sTw S) mi) 0 49 = true then 1 else if zany (tF2 (sTw S) mi) 0 49 = true then 2 else -9) := by
  have h7 := h.2.1
  have h10 := h.2.2.1
  have hT := h.2.2.2.1
  have ep : tg_people (sTw S) = S 0 := rfl
  have ek : tg_keys (sTw S) = S 1 := rfl
  -- the bound that is to be kept below
  have hb : ∃ b, b ≤ 1000000 ∧ (∀ v, (v < 1000000 ∧ v ≤ mi) ↔ v < b) ∧ ∀ v, v ≤ (if mi < 1000000 then mi else 999999) ↔ v < b := by
    by_cases hm : mi < 1000000
    · exact ⟨mi + 1, by omega, fun v => by omega, fun v => by rw [if_pos hm]; omega⟩
    · exact ⟨1000000, by omega, fun v => by omega, fun v => by rw [if_neg hm]; omega⟩
  obtain ⟨b, hb1, hb2, hb3⟩ := hb
  have hone : ∀ T : zTown, tOne T mi = true ↔ tAll T 0 0 < b := fun T => by
    unfold tOne
    rw [decide_eq_true_iff]
    exact hb2 _
  have hv1 : ∀ k, sCopyV S 0 0 k = tAll (tAdd (sTw S) (k / 10) (k % 10)) 0 0 := sCopy_val h
  have c1 : (sAll S 0 0 < 1000000 ∧ sAll S 0 0 ≤ mi) ↔ tOne (sTw S) mi = true := by
    rw [hb2, hone]
    exact Iff.rfl
  unfold sCps
  by_cases g1 : tOne (sTw S) mi = true
  · rw [if_pos (c1.mpr g1), if_pos g1]
  · rw [if_neg (fun z => g1 (c1.mp z)), if_neg g1]
    have g1' : ¬ tAll (sTw S) 0 0 < b := fun z => g1 ((hone _).mpr z)
    have c2 : ((zlw (sCopyV S 0 0) (S 0) 1000000 (10 * S 0)).1 < 1000000 ∧ (zlw (sCopyV S 0 0) (S 0) 1000000 (10 * S 0)).1 ≤ mi) ↔ zany (tF1 (sTw S) mi) 0 49 = true := by
      rw [hb2, zlw_iff, zany_iff]
      constructor
      · rintro (z | ⟨k, k1, k2, k3⟩)
        · omega
        · rw [hv1] at k3
          have j1 : (7 * (k / 10) + k % 10) / 7 = k / 10 := by omega
          have j2 : (7 * (k / 10) + k % 10) % 7 = k % 10 := by omega
          by_cases ha : tAddB (sTw S) (7 * (k / 10) + k % 10) = true
          · refine ⟨7 * (k / 10) + k % 10, Nat.zero_le _, by omega, ?_⟩
            unfold tF1
            rw [ha, j1, j2, (hone _).mpr k3]
            rfl
          · have hu := tUse hT ha (by rw [j1, ep]; omega) (by rw [j2, ep]; omega)
            rw [j1, j2] at hu
            rw [tAll_same hT hu] at k3
            exact absurd k3 g1'
      · rintro ⟨j, j1, j2, j3⟩
        unfold tF1 at j3
        rw [Bool.and_eq_true] at j3
        obtain ⟨a1, a2, a3, a4⟩ := tAddB_iff.mp j3.1
        rw [ep] at a1 a2
        refine Or.inr ⟨10 * (j / 7) + j % 7, by omega, by omega, ?_⟩
        rw [hv1, show (10 * (j / 7) + j % 7) / 10 = j / 7 by omega, show (10 * (j / 7) + j % 7) % 10 = j % 7 by omega]
        exact (hone _).mp j3.2
    by_cases g2 : zany (tF1 (sTw S) mi) 0 49 = true
    · rw [if_pos (c2.mpr g2), if_pos g2]
    · rw [if_neg (fun z => g2 (c2.mp z)), if_neg g2]
      -- no key alone helps
      have g2' : ∀ d p, d < S 0 → p < S 0 → ¬ tAll (tAdd (sTw S) d p) 0 0 < b := fun d p hd hp z => by
        refine g2 (c2.mp ?_)
        rw [hb2, zlw_iff]
        refine Or.inr ⟨10 * d + p, by omega, by omega, ?_⟩
        rw [hv1, show (10 * d + p) / 10 = d by omega, show (10 * d + p) % 10 = p by omega]
        exact z
      have hv2 : ∀ d p, d < S 0 → p < S 0 → ∀ k, sCopyV (sAdd S d p) 0 0 k = tAll (tAdd (tAdd (sTw S) d p) (k / 10) (k % 10)) 0 0 := fun d p hd hp k => by
        have hT1 : tOk (tAdd (sTw S) d p) := tAdd_ok hT (show S 1 ≤ 11 by omega)
        have e1 : tEq (tAdd (sTw S) d p) (sTw (sAdd S d p)) := tAdd_eqS h7 (by omega)
        have hT2 : tOk (tAdd (tAdd (sTw S) d p) (k / 10) (k % 10)) := tAdd_ok hT1 (show S 1 + 1 ≤ 11 by omega)
        have s0 : sAdd S d p 0 = S 0 := sAdd_o (by omega) (by omega) (by omega)
        have s1 : sAdd S d p 1 = S 1 + 1 := sAdd_1 _ _ _
        exact (tAll_eq hT2 ((tAdd_eqT e1).trans (tAdd_eqS (by rw [s0]; exact h7) (by rw [s1]; omega)))).symm
      have c3 : zby2 (sBy2 S 0 0 (if mi < 1000000 then mi else 999999)) (S 0) (10 * S 0) = true ↔ zany (tF2 (sTw S) mi) 0 49 = true := by
        rw [zby2_iff, zany_iff]
        constructor
        · rintro ⟨k, k1, k2, k3⟩
          unfold sBy2 at k3
          rw [decide_eq_true_iff, hb3, zlw_iff] at k3
          rcases k3 with z | ⟨q, q1, q2, q3⟩
          · omega
          rw [hv2 _ _ (by omega) k2] at q3
          generalize hd1 : k / 10 = d1 at *
          generalize hp1 : k % 10 = p1 at *
          generalize hd2 : q / 10 = d2 at *
          generalize hp2 : q % 10 = p2 at *
          have l1 : d1 < S 0 := by omega
          have l2 : d2 < S 0 := by omega
          have m1 : (7 * d1 + p1) / 7 = d1 := by omega
          have m2 : (7 * d1 + p1) % 7 = p1 := by omega
          have m3 : (7 * d2 + p2) / 7 = d2 := by omega
          have m4 : (7 * d2 + p2) % 7 = p2 := by omega
          have hT1 : tOk (tAdd (sTw S) d1 p1) := tAdd_ok hT (show S 1 ≤ 11 by omega)
          have hT2 : tOk (tAdd (sTw S) d2 p2) := tAdd_ok hT (show S 1 ≤ 11 by omega)
          have a1 : tAddB (sTw S) (7 * d1 + p1) = true := by
            refine Classical.byContradiction fun ha => ?_
            have hu := tUse hT ha (by rw [m1]; exact l1) (by rw [m2]; exact k2)
            rw [m1, m2] at hu
            rw [tAll_swap hT h10, tAll_same hT2 (hu.imp id tHd_mono)] at q3
            exact g2' d2 p2 l2 q2 q3
          have a2 : tAddB (tAdd (sTw S) d1 p1) (7 * d2 + p2) = true := by
            refine Classical.byContradiction fun ha => ?_
            have hu := tUse hT1 ha (by rw [m3]; exact l2) (by rw [m4]; exact q2)
            rw [m3, m4] at hu
            rw [tAll_same hT1 hu] at q3
            exact g2' d1 p1 l1 k2 q3
          obtain ⟨b1, b2, b3, b4⟩ := tAddB_iff.mp a1
          obtain ⟨e1, e2, e3, e4⟩ := tAddB_iff.mp a2
          rw [m1, m2] at b3 b4
          rw [m3, m4] at e3 e4
          have hne : ¬ (p2 = p1 ∧ d2 = d1) := fun z => by
            rw [z.1, z.2, tHd_add1 b3] at e4
            cases e4
          rcases Nat.lt_trichotomy (7 * d1 + p1) (7 * d2 + p2) with z | z | z
          · refine ⟨7 * d1 + p1, Nat.zero_le _, by omega, ?_⟩
            unfold tF2
            rw [a1, m1, m2, Bool.true_and, zany_iff]
            refine ⟨7 * d2 + p2, by omega, by omega, ?_⟩
            unfold tF1
            rw [a2, m3, m4, (hone _).mpr q3]
            rfl
          · exact absurd (by omega) hne
          · refine ⟨7 * d2 + p2, Nat.zero_le _, by omega, ?_⟩
            have f1 : tAddB (sTw S) (7 * d2 + p2) = true := tAddB_iff.mpr (by
              rw [m3, m4]
              exact ⟨l2, q2, e3, by rw [← tHd_add2 hne]; exact e4⟩)
            have f2 : tAddB (tAdd (sTw S) d2 p2) (7 * d1 + p1) = true := tAddB_iff.mpr (by
              rw [m1, m2]
              exact ⟨l1, k2, b3, by rw [tHd_add2 (fun y => hne ⟨y.1.symm, y.2.symm⟩)]; exact b4⟩)
            unfold tF2
            rw [f1, m3, m4, Bool.true_and, zany_iff]
            refine ⟨7 * d1 + p1, by omega, by omega, ?_⟩
            unfold tF1
            rw [f2, m1, m2, (hone _).mpr (by rw [tAll_swap hT h10]; exact q3)]
            rfl
        · rintro ⟨j, j1, j2, j3⟩
          unfold tF2 at j3
          rw [Bool.and_eq_true, zany_iff] at j3
          obtain ⟨a0, i, i1, i2, i3⟩ := j3
          unfold tF1 at i3
          rw [Bool.and_eq_true] at i3
          obtain ⟨b1, b2, b3, b4⟩ := tAddB_iff.mp a0
          obtain ⟨e1, e2, e3, e4⟩ := tAddB_iff.mp i3.1
          have b1' : j / 7 < S 0 := b1
          have b2' : j % 7 < S 0 := b2
          have e1' : i / 7 < S 0 := e1
          have e2' : i % 7 < S 0 := e2
          have w1 : (10 * (j / 7) + j % 7) / 10 = j / 7 := by omega
          have w2 : (10 * (j / 7) + j % 7) % 10 = j % 7 := by omega
          refine ⟨10 * (j / 7) + j % 7, by omega, by omega, ?_⟩
          unfold sBy2
          rw [decide_eq_true_iff, hb3, zlw_iff, w1, w2]
          refine Or.inr ⟨10 * (i / 7) + i % 7, by omega, by omega, ?_⟩
          rw [hv2 _ _ b1' b2', show (10 * (i / 7) + i % 7) / 10 = i / 7 by omega, show (10 * (i / 7) + i % 7) % 10 = i % 7 by omega]
          exact (hone _).mp i3.2
      by_cases g3 : zany (tF2 (sTw S) mi) 0 49 = true
      · rw [if_pos (c3.mpr g3), if_pos g3]
      · rw [if_neg (fun z => g3 (c3.mp z)), if_neg g3]
