/-! BOTH SIDES: a text told -/
theorem sPer_o {S : Nat → Nat} {x : zN5} {i : Nat} (h0 : ¬ i = 0) (h : i < 5 + 5 * S 0 ∨ 5 + 5 * S 0 + 4 < i) : sPer S x i = S i := by
  unfold sPer
  rw [zu_n h0, zu_n (by omega), zu_n (by omega), zu_n (by omega), zu_n (by omega), zu_n (by omega)]
theorem tPer_eqS {S : Nat → Nat} {x : zN5} (h0 : S 0 < 7) : tEq (tPer (sTw S) x) (sTw (sPer S x)) := by
  refine sTw_of zu_s (sPer_o (by omega) (by omega)) (sPer_o (by omega) (by omega)) (sPer_o (by omega) (by omega)) (sPer_o (by omega) (by omega)) (fun p hp => ?_) (fun k hk => ⟨sPer_o (by omega) (by omega), sPer_o (by omega) (by omega)⟩)
  have hp2 : p < S 0 + 1 := hp
  show sPer S x (5 + 5 * p + 0) = va_up (fun p => S (5 + 5 * p + 0)) (S 0) x.1 p ∧ sPer S x (5 + 5 * p + 1) = va_up (fun p => S (5 + 5 * p + 1)) (S 0) x.2.1 p ∧ sPer S x (5 + 5 * p + 2) = va_up (fun p => S (5 + 5 * p + 2)) (S 0) x.2.2.1 p ∧ sPer S x (5 + 5 * p + 3) = va_up (fun p => S (5 + 5 * p + 3)) (S 0) x.2.2.2.1 p ∧ sPer S x (5 + 5 * p + 4) = va_up (fun p => S (5 + 5 * p + 4)) (S 0) x.2.2.2.2 p
  by_cases e : p = S 0
  · rw [e, zu_s, zu_s, zu_s, zu_s, zu_s]
    unfold sPer
    refine ⟨?_, ?_, ?_, ?_, ?_⟩
    · rw [zu_n (by omega), zu_n (by omega), zu_n (by omega), zu_n (by omega), zu_n (by omega), zu_s]
    · rw [zu_n (by omega), zu_n (by omega), zu_n (by omega), zu_n (by omega), zu_s]
    · rw [zu_n (by omega), zu_n (by omega), zu_n (by omega), zu_s]
    · rw [zu_n (by omega), zu_n (by omega), zu_s]
    · rw [zu_n (by omega), zu_s]
  · rw [zu_n e, zu_n e, zu_n e, zu_n e, zu_n e]
    exact ⟨sPer_o (by omega) (by omega), sPer_o (by omega) (by omega), sPer_o (by omega) (by omega), sPer_o (by omega) (by omega), sPer_o (by omega) (by omega)⟩
theorem tPer_eqT {T X : zTown} {x : zN5} (he : tEq T X) : tEq (tPer T x) (tPer X x) := by
  obtain ⟨b1, b2, b3, b4, b5, b6, b7⟩ := he
  refine ⟨congrArg (· + 1) b1, b2, b3, b4, b5, fun p hp => ?_, b7⟩
  have hp2 : p < tg_people T + 1 := hp
  show va_up (tg_kind T) (tg_people T) x.1 p = va_up (tg_kind X) (tg_people X) x.1 p ∧ va_up (tg_wakes T) (tg_people T) x.2.1 p = va_up (tg_wakes X) (tg_people X) x.2.1 p ∧ va_up (tg_takes T) (tg_people T) x.2.2.1 p = va_up (tg_takes X) (tg_people X) x.2.2.1 p ∧ va_up (tg_due T) (tg_people T) x.2.2.2.1 p = va_up (tg_due X) (tg_people X) x.2.2.2.1 p ∧ va_up (tg_cost T) (tg_people T) x.2.2.2.2 p = va_up (tg_cost X) (tg_people X) x.2.2.2.2 p
  rw [← b1]
  by_cases e : p = tg_people T
  · rw [e, zu_s, zu_s, zu_s, zu_s, zu_s, zu_s, zu_s, zu_s, zu_s, zu_s]
    exact ⟨rfl, rfl, rfl, rfl, rfl⟩
  · rw [zu_n e, zu_n e, zu_n e, zu_n e, zu_n e, zu_n e, zu_n e, zu_n e, zu_n e, zu_n e]
    exact b6 p (by omega)
theorem tRng_eqS {S : Nat → Nat} {v : Nat} (h0 : S 0 ≤ 7) : tEq (tRng (sTw S) v) (sTw (va_up S 4 v)) :=
  sTw_of (zu_n (by omega)) (zu_n (by omega)) (zu_n (by omega)) (zu_n (by omega)) zu_s (fun p hp => ⟨zu_n (by omega), zu_n (by omega), zu_n (by omega), zu_n (by omega), zu_n (by omega)⟩) (fun k hk => ⟨zu_n (by omega), zu_n (by omega)⟩)
theorem tRng_eqT {T X : zTown} {v : Nat} (he : tEq T X) : tEq (tRng T v) (tRng X v) := ⟨he.1, he.2.1, he.2.2.1, he.2.2.2.1, rfl, he.2.2.2.2.2.1, he.2.2.2.2.2.2⟩
theorem tTell_S {S : Nat → Nat} {c : Nat} {x : zN5} (h0 : S 0 ≤ 7) (h1 : S 1 ≤ 10) : (sTell c x S = none ∧ tTell c x (sTw S) = none) ∨ ∃ S' T', sTell c x S = some S' ∧ tTell c x (sTw S) = some T' ∧ tEq T' (sTw S') := by
  have ep : tg_people (sTw S) = S 0 := rfl
  have ek : tg_keys (sTw S) = S 1 := rfl
  unfold sTell tTell
  rw [ep, ek]
  by_cases c1 : c = 112
  · rw [if_pos c1, if_pos c1]
    by_cases g : S 0 = 7
    · rw [if_pos g, if_pos g]; exact Or.inl ⟨rfl, rfl⟩
    · rw [if_neg g, if_neg g]; exact Or.inr ⟨_, _, rfl, rfl, tPer_eqS (by omega)⟩
  · rw [if_neg c1, if_neg c1]
    by_cases c2 : c = 107
    · rw [if_pos c2, if_pos c2]
      by_cases g : x.1 < S 0 ∧ x.2.1 < S 0 ∧ ¬ S 1 = 10
      · rw [if_pos g, if_pos g]
        exact Or.inr ⟨_, _, rfl, rfl, tAdd_eqS h0 (by omega)⟩
      · rw [if_neg g, if_neg g]; exact Or.inl ⟨rfl, rfl⟩
    · rw [if_neg c2, if_neg c2]
      by_cases c3 : c = 119
      · rw [if_pos c3, if_pos c3]
        by_cases g : x.1 < S 0
        · rw [if_pos g, if_pos g]
          exact Or.inr ⟨_, _, rfl, rfl, tWt_eqS h0⟩
        · rw [if_neg g, if_neg g]; exact Or.inl ⟨rfl, rfl⟩
      · rw [if_neg c3, if_neg c3]
        by_cases c4 : c = 115
        · rw [if_pos c4, if_pos c4]
          exact Or.inr ⟨_, _, rfl, rfl, tPace_eqS h0⟩
        · rw [if_neg c4, if_neg c4]
          exact Or.inr ⟨_, _, rfl, rfl, tRng_eqS h0⟩
theorem tTell_T {T X : zTown} {c : Nat} {x : zN5} (he : tEq T X) : (tTell c x T = none ∧ tTell c x X = none) ∨ ∃ T' X', tTell c x T = some T' ∧ tTell c x X = some X' ∧ tEq T' X' := by
  have e1 := he.1
  have e2 := he.2.1
  unfold tTell
  rw [← e1, ← e2]
  by_cases c1 : c = 112
  · rw [if_pos c1, if_pos c1]
    by_cases g : tg_people T = 7
    · rw [if_pos g, if_pos g]; exact Or.inl ⟨rfl, rfl⟩
    · rw [if_neg g, if_neg g]; exact Or.inr ⟨_, _, rfl, rfl, tPer_eqT he⟩
  · rw [if_neg c1, if_neg c1]
    by_cases c2 : c = 107
    · rw [if_pos c2, if_pos c2]
      by_cases g : x.1 < tg_people T ∧ x.2.1 < tg_people T ∧ ¬ tg_keys T = 10
      · rw [if_pos g, if_pos g]
        exact Or.inr ⟨_, _, rfl, rfl, tAdd_eqT he⟩
      · rw [if_neg g, if_neg g]; exact Or.inl ⟨rfl, rfl⟩
    · rw [if_neg c2, if_neg c2]
      by_cases c3 : c = 119
      · rw [if_pos c3, if_pos c3]
        by_cases g : x.1 < tg_people T
        · rw [if_pos g, if_pos g]
          refine Or.inr ⟨_, _, rfl, rfl, ?_⟩
          have h9 := tWt_eqT (v := tg_watch T ^^^ 1 * 2 ^ x.1) he
          have e3 := he.2.2.1
          show tEq (tWt T (tg_watch T ^^^ 1 * 2 ^ x.1)) (tWt X (tg_watch X ^^^ 1 * 2 ^ x.1))
          rw [← e3]
          exact h9
        · rw [if_neg g, if_neg g]; exact Or.inl ⟨rfl, rfl⟩
      · rw [if_neg c3, if_neg c3]
        by_cases c4 : c = 115
        · rw [if_pos c4, if_pos c4]
          exact Or.inr ⟨_, _, rfl, rfl, tPace_eqT he⟩
        · rw [if_neg c4, if_neg c4]
          exact Or.inr ⟨_, _, rfl, rfl, tRng_eqT he⟩
theorem zTell_rel {S : Nat → Nat} {T : zTown} {c : Nat} {x : zN5} (h : zTo S T) (hx : zxOk c x) : (sTell c x S = none ∧ tTell c x T = none) ∨ ∃ S' T', sTell c x S = some S' ∧ tTell c x T = some T' ∧ zTo S' T' := by
  obtain ⟨a1, a2, a3, a4, a5, a6⟩ := h
  rcases tTell_S (c := c) (x := x) a2 a3 with ⟨q1, q2⟩ | ⟨S', T0, q1, q2, q3⟩
  · rcases tTell_T (c := c) (x := x) a6 with ⟨r1, r2⟩ | ⟨T1, X1, r1, r2, r3⟩
    · exact Or.inl ⟨q1, r2⟩
    · rw [q2] at r1; cases r1
  · rcases tTell_T (c := c) (x := x) a6 with ⟨r1, r2⟩ | ⟨T1, X1, r1, r2, r3⟩
    · rw [q2] at r1; cases r1
    · rw [q2] at r1
      cases r1
      have h1 := tTell_ok ⟨a4, a3, a5⟩ hx q2
      have hw : S 2 < 128 := Nat.lt_of_lt_of_le a4.2.2.2.1 (Nat.pow_le_pow_right (by omega) a2 : 2 ^ S 0 ≤ 2 ^ 7)
      have h2 := sTell_ok ⟨a1, a2, a3, hw⟩ ⟨hx.1, hx.2.1, hx.2.2.1, hx.2.2.2.1, hx.2.2.2.2.1⟩ q1
      exact Or.inr ⟨S', X1, q1, r2, zTo_of h2.1 h1.1 h1.2.2 h1.2.1 q3 r3⟩
section Told
variable {σ : Type} {tell : Nat → zN5 → σ → Option σ} {f : Nat → Nat} {n k a m : Nat} {s s' : σ} {x : zN5}
theorem pT_e (h : ¬ a < n) : pT tell f n (k + 1) a m s = (a, some (m, s)) := by rw [pT, if_neg h]
theorem pT_n (h : a < n) (hx : (pSt f n a).2 = none) : pT tell f n (k + 1) a m s = (a, none) := by rw [pT, if_pos h, hx]
theorem pT_t (h : a < n) (hx : (pSt f n a).2 = some x) (ht : tell (f a) x s = none) : pT tell f n (k + 1) a m s = (a, none) := by
  rw [pT, if_pos h, hx]
  dsimp only
  rw [ht]
theorem pT_s (h : a < n) (hx : (pSt f n a).2 = some x) (ht : tell (f a) x s = some s') : pT tell f n (k + 1) a m s = pT tell f n k (pSt f n a).1 (m + 1) s' := by
  rw [pT, if_pos h, hx]
  dsimp only
  rw [ht]
end Told
theorem pT_rel {f : Nat → Nat} {n : Nat} : ∀ (k a m : Nat) (S : Nat → Nat) (T : zTown), zTo S T → (∃ e, pT sTell f n k a m S = (e, none) ∧ pT tTell f n k a m T = (e, none)) ∨ ∃ e c S' T', pT sTell f n k a m S = (e, some (c, S')) ∧ pT tTell f n k a m T = (e, some (c, T')) ∧ zTo S' T'
  | 0, a, m, S, T, h => Or.inr ⟨a, m, S, T, rfl, rfl, h⟩
  | k + 1, a, m, S, T, h => by
    by_cases ha : a < n
    · cases hx : (pSt f n a).2 with
      | none => exact Or.inl ⟨a, pT_n ha hx, pT_n ha hx⟩
      | some x =>
        rcases zTell_rel h (pSt_val hx) with ⟨q1, q2⟩ | ⟨S', T', q1, q2, q3⟩
        · exact Or.inl ⟨a, pT_t ha hx q1, pT_t ha hx q2⟩
        · rw [pT_s ha hx q1, pT_s ha hx q2]
          exact pT_rel k _ _ _ _ q3
    · exact Or.inr ⟨a, m, S, T, pT_e ha, pT_e ha, h⟩
theorem pT_le {σ : Type} {tell : Nat → zN5 → σ → Option σ} {f : Nat → Nat} {n : Nat} : ∀ (k a m : Nat) (s : σ), a ≤ n → (pT tell f n k a m s).1 ≤ n ∧ ∀ c s', (pT tell f n k a m s).2 = some (c, s') → c + a ≤ m + n
  | 0, a, m, s, h => ⟨h, fun c s' z => by cases z; omega⟩
  | k + 1, a, m, s, h => by
    by_cases ha : a < n
    · cases hx : (pSt f n a).2 with
      | none => rw [pT_n ha hx]; exact ⟨h, fun c s' z => by cases z⟩
      | some x =>
        have hlt := pSt_lt hx
        cases ht : tell (f a) x s with
        | none => rw [pT_t ha hx ht]; exact ⟨h, fun c s' z => by cases z⟩
        | some s2 =>
          rw [pT_s ha hx ht]
          obtain ⟨i1, i2⟩ := pT_le (tell := tell) (f := f) (n := n) k (pSt f n a).1 (m + 1) s2 hlt.2.2
          exact ⟨i1, fun c s' z => by have := i2 c s' z; omega⟩
    · rw [pT_e ha]; exact ⟨h, fun c s' z => by cases z; omega⟩
theorem pAl_cnt {σ : Type} {tell : Nat → zN5 → σ → Option σ} {f : Nat → Nat} {n : Nat} : ∀ (k a c : Nat) (s : σ) (m e c' : Nat) (s' : σ), (pAl f n k a).2 = some m → a < n → pT tell f n k a c s = (e, some (c', s')) → c' = c + m
  | 0, a, c, s, m, e, c', s', h, _, _ => by cases h
  | k + 1, a, c, s, m, e, c', s', h, ha, hp => by
    cases hx : (pSt f n a).2 with
    | none => rw [pT_n ha hx] at hp; cases hp
    | some x =>
      cases ht : tell (f a) x s with
      | none => rw [pT_t ha hx ht] at hp; cases hp
      | some s2 =>
        rw [pT_s ha hx ht] at hp
        rw [pAl, hx] at h
        dsimp only at h
        by_cases he : (pSt f n a).1 < n
        · rw [if_pos he] at h
          cases hm : (pAl f n k (pSt f n a).1).2 with
          | none => rw [hm] at h; cases h
          | some m2 =>
            rw [hm] at h
            have h2 : m2 + 1 = m := Option.some.inj h
            have := pAl_cnt k _ (c + 1) s2 m2 e c' s' hm he hp
            omega
        · rw [if_neg he] at h
          have h2 : 1 = m := Option.some.inj h
          cases k with
          | zero =>
            have h3 : c + 1 = c' := by
              have := congrArg Prod.snd hp
              have h4 : some (c + 1, s2) = some (c', s') := this
              exact congrArg Prod.fst (Option.some.inj h4)
            omega
          | succ k =>
            rw [pT_e he] at hp
            have h3 : c + 1 = c' := by
              have := congrArg Prod.snd hp
              have h4 : some (c + 1, s2) = some (c', s') := this
              exact congrArg Prod.fst (Option.some.inj h4)
            omega
theorem zTo_cp {S S2 : Nat → Nat} {X : zTown} (h : zTo S X) (hs : ∀ i, S2 i ≤ 1000) : zTo (zcp S S2 64) X := by
  have a2 := h.2.1
  have a3 := h.2.2.1
  refine h.row (fun i => ?_) (sTw_eq a2 (fun i hi => zcp_lt (by omega)) (fun p k hp hk => zcp_lt (by omega)) (fun k hk => ⟨zcp_lt (by omega), zcp_lt (by omega)⟩))
  unfold zcp
  split
  · exact h.1 i
  · exact hs i
theorem zRead_rel {f : Nat → Nat} {n : Nat} {S D : Nat → Nat} {X : zTown} (h : zTo S X) (hD : ∀ i, D i ≤ 1000) (hn : n ≤ 80) : (sRead f n S D).1 = (tRead f n X).1 ∧ (((tRead f n X).1 < 0 ∧ (sRead f n S D).2 = S) ∨ (0 ≤ (tRead f n X).1 ∧ zTo (sRead f n S D).2 (tRead f n X).2)) := by
  have hle := pAl_le (f := f) (n := n) (n + 1) 0 (Nat.zero_le _)
  cases hA : pAl f n (n + 1) 0 with
  | mk a o =>
    rw [hA] at hle
    dsimp only at hle
    cases o with
    | none =>
      have e1 : sRead f n S D = ((-1000) - nI a, S) := by unfold sRead; rw [hA]
      have e2 : tRead f n X = ((-1000) - nI a, X) := by unfold tRead; rw [hA]
      rw [e1, e2]
      exact ⟨rfl, Or.inl ⟨zneg1 a (by omega), rfl⟩⟩
    | some m =>
      have h0 : 0 < n := by
        cases hx : (pSt f n 0).2 with
        | none => rw [pAl, hx] at hA; cases hA
        | some x => exact (pSt_lt hx).1
      rcases pT_rel (f := f) (n := n) (n + 1) 0 0 _ _ (zTo_cp h hD) with ⟨e, q1, q2⟩ | ⟨e, c, S', T', q1, q2, q3⟩
      · have e1 : sRead f n S D = ((-2000) - nI e, S) := by unfold sRead; rw [hA]; dsimp only; rw [q1]
        have e2 : tRead f n X = ((-2000) - nI e, X) := by unfold tRead; rw [hA]; dsimp only; rw [q2]
        have h9 := (pT_le (tell := tTell) (f := f) (n := n) (n + 1) 0 0 X (Nat.zero_le _)).1
        rw [q2] at h9
        dsimp only at h9
        rw [e1, e2]
        exact ⟨rfl, Or.inl ⟨zneg2 e (by omega), rfl⟩⟩
      · have e1 : sRead f n S D = (nI m, zcp S' S 64) := by unfold sRead; rw [hA]; dsimp only; rw [q1]
        have e2 : tRead f n X = (nI c, T') := by unfold tRead; rw [hA]; dsimp only; rw [q2]
        have hc := pAl_cnt (tell := tTell) (n + 1) 0 0 X m e c T' (by rw [hA]) h0 q2
        have h9 := (pT_le (tell := tTell) (f := f) (n := n) (n + 1) 0 0 X (Nat.zero_le _)).2 c T' (by rw [q2])
        rw [e1, e2]
        refine ⟨congrArg nI (by omega), Or.inr ⟨nI_pos' (by omega), zTo_cp q3 h.1⟩⟩
