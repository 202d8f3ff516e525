/-! LETTERS READ AS STATEMENTS, for both sides -/
theorem zupd_s {f : Nat → Int32} {k : Nat} {v : Int32} : upd f k v k = v := if_pos rfl
theorem zupd_n {f : Nat → Int32} {k j : Nat} {v : Int32} (h : j ≠ k) : upd f k v j = f j := if_neg h
theorem zupd_2 (f : Nat → Int32) (k : Nat) (a b : Int32) : upd (upd f k a) k b = upd f k b := by
  funext i
  unfold upd
  split <;> rfl
def zdg (f : Nat → Nat) (n a : Nat) : Bool := decide (a < n ∧ 48 ≤ f a ∧ f a ≤ 57)
def nR (f : Nat → Nat) (n : Nat) : Nat → Nat → Nat → Nat × Nat
  | 0, a, v => (a, v)
  | k + 1, a, v => if zdg f n a = true then nR f n k (a + 1) (10 * v + f a - 48) else (a, v)
def nE (f : Nat → Nat) (n k a : Nat) : Nat := (nR f n k a 0).1
def nV (f : Nat → Nat) (n k a : Nat) : Nat := (nR f n k a 0).2
def nB (f : Nat → Nat) (n a : Nat) : Nat := if zdg f n a = true then 1 else 0
def pB (f : Nat → Nat) (n c a : Nat) : Nat := if a < n ∧ f a = c then 1 else 0
def pE (f : Nat → Nat) (n c a : Nat) : Nat := if a < n ∧ f a = c then a + 1 else a
def zkd (c : Nat) : Option Nat := if c = 112 then some 0 else if c = 113 then some 1 else if c = 115 then some 2 else if c = 116 then some 3 else if c = 98 then some 4 else if c = 104 then some 5 else none
def kO (f : Nat → Nat) (n a : Nat) : Option Nat := if a < n then zkd (f a) else none
def kB (f : Nat → Nat) (n a : Nat) : Nat := (kO f n a).isSome.toNat
def kE (f : Nat → Nat) (n a : Nat) : Nat := if (kO f n a).isSome = true then a + 1 else a
def kV (f : Nat → Nat) (n a : Nat) : Nat := (kO f n a).getD 0
abbrev zN5 : Type := Nat × Nat × Nat × Nat × Nat
abbrev zPR : Type := Nat × Option zN5
def pS (f : Nat → Nat) (n c a : Nat) (K : Nat → zPR) : zPR := if pB f n c a = 0 then (pE f n c a, none) else K (pE f n c a)
def pN (f : Nat → Nat) (n k a : Nat) (K : Nat → Nat → zPR) : zPR := if nB f n a = 0 then (nE f n k a, none) else K (nE f n k a) (nV f n k a)
def pK (f : Nat → Nat) (n a : Nat) (K : Nat → Nat → zPR) : zPR := if kB f n a = 0 then (kE f n a, none) else K (kE f n a) (kV f n a)
def pP (f : Nat → Nat) (n a : Nat) : zPR := pK f n a fun a1 x0 => pN f n 2 a1 fun a2 x1 => pS f n 44 a2 fun a3 => pN f n 1 a3 fun a4 x2 => pS f n 44 a4 fun a5 => pN f n 3 a5 fun a6 x3 => pS f n 44 a6 fun a7 => pN f n 1 a7 fun a8 x4 => pS f n 59 a8 fun a9 => (a9, some (x0, x1, x2, x3, x4))
def pKy (f : Nat → Nat) (n a : Nat) : zPR := pN f n 1 a fun a1 x0 => pN f n 1 a1 fun a2 x1 => pS f n 59 a2 fun a3 => (a3, some (x0, x1, 0, 0, 0))
def pW (f : Nat → Nat) (n a : Nat) : zPR := pN f n 1 a fun a1 x0 => pS f n 59 a1 fun a2 => (a2, some (x0, 0, 0, 0, 0))
def pO (f : Nat → Nat) (n a : Nat) : zPR := pS f n 59 a fun a1 => (a1, some (0, 0, 0, 0, 0))
/-- one STATEMENT at a: where it ends or can't go on, and its numbers -/
def pSt (f : Nat → Nat) (n a : Nat) : zPR :=
  if a < n then
    if f a = 112 then pP f n (a + 1)
    else if f a = 107 then pKy f n (a + 1)
    else if f a = 119 ∨ f a = 115 then pW f n (a + 1)
    else if f a = 114 ∨ f a = 111 then pO f n (a + 1)
    else (a, none)
  else (a, none)
def pAl (f : Nat → Nat) (n : Nat) : Nat → Nat → Nat × Option Nat
  | 0, a => (a, none)
  | k + 1, a => match (pSt f n a).2 with
    | none => ((pSt f n a).1, none)
    | some _ => if (pSt f n a).1 < n then ((pAl f n k (pSt f n a).1).1, (pAl f n k (pSt f n a).1).2.map (· + 1)) else ((pSt f n a).1, some 1)
def pT {σ : Type} (tell : Nat → zN5 → σ → Option σ) (f : Nat → Nat) (n : Nat) : Nat → Nat → Nat → σ → Nat × Option (Nat × σ)
  | 0, a, m, s => (a, some (m, s))
  | k + 1, a, m, s => if a < n then match (pSt f n a).2 with
      | none => (a, none)
      | some x => match tell (f a) x s with
        | none => (a, none)
        | some s' => pT tell f n k (pSt f n a).1 (m + 1) s'
    else (a, some (m, s))
theorem nR_ok {f : Nat → Nat} {n : Nat} : ∀ {k a v : Nat}, a ≤ n → a ≤ (nR f n k a v).1 ∧ (nR f n k a v).1 ≤ n
  | 0, a, v, h => ⟨Nat.le_refl _, h⟩
  | k + 1, a, v, h => by
    rw [nR]
    split
    · rename_i hd
      have := of_decide_eq_true hd
      have ih := nR_ok (f := f) (n := n) (k := k) (a := a + 1) (v := 10 * v + f a - 48) (by omega)
      omega
    · exact ⟨Nat.le_refl _, h⟩
theorem nR_lt {f : Nat → Nat} {n : Nat} : ∀ {k a v m : Nat}, v < m → (nR f n k a v).2 < m * 10 ^ k
  | 0, a, v, m, h => by rw [nR]; omega
  | k + 1, a, v, m, h => by
    rw [nR]
    split
    · rename_i hd
      have := of_decide_eq_true hd
      have ih := nR_lt (f := f) (n := n) (k := k) (a := a + 1) (v := 10 * v + f a - 48) (m := m * 10) (by omega)
      rw [Nat.pow_succ, Nat.mul_comm (10 ^ k) 10, ← Nat.mul_assoc]
      exact ih
    · exact Nat.lt_of_lt_of_le h (Nat.le_mul_of_pos_right _ (Nat.pow_pos (by omega)))
theorem nV_lt (f : Nat → Nat) (n k a : Nat) : nV f n k a < 10 ^ k := by
  have := nR_lt (f := f) (n := n) (k := k) (a := a) (v := 0) (m := 1) (by omega)
  unfold nV
  omega
theorem nE_ok {f : Nat → Nat} {n k a : Nat} (h : a ≤ n) : a ≤ nE f n k a ∧ nE f n k a ≤ n := nR_ok h
theorem pE_ok {f : Nat → Nat} {n c a : Nat} (h : a ≤ n) : a ≤ pE f n c a ∧ pE f n c a ≤ n := by
  unfold pE
  split <;> omega
theorem kE_ok {f : Nat → Nat} {n a : Nat} (h : a ≤ n) : a ≤ kE f n a ∧ kE f n a ≤ n := by
  unfold kE
  split
  · rename_i hh
    unfold kO at hh
    split at hh
    · omega
    · cases hh
  · exact ⟨Nat.le_refl _, h⟩
theorem pS_n {f : Nat → Nat} {n c a : Nat} {K : Nat → zPR} (h : pB f n c a = 0) : pS f n c a K = (pE f n c a, none) := if_pos h
theorem pS_y {f : Nat → Nat} {n c a : Nat} {K : Nat → zPR} (h : 0 < pB f n c a) : pS f n c a K = K (pE f n c a) := if_neg (by omega)
theorem pN_n {f : Nat → Nat} {n k a : Nat} {K : Nat → Nat → zPR} (h : nB f n a = 0) : pN f n k a K = (nE f n k a, none) := if_pos h
theorem pN_y {f : Nat → Nat} {n k a : Nat} {K : Nat → Nat → zPR} (h : 0 < nB f n a) : pN f n k a K = K (nE f n k a) (nV f n k a) := if_neg (by omega)
theorem pK_n {f : Nat → Nat} {n a : Nat} {K : Nat → Nat → zPR} (h : kB f n a = 0) : pK f n a K = (kE f n a, none) := if_pos h
theorem pK_y {f : Nat → Nat} {n a : Nat} {K : Nat → Nat → zPR} (h : 0 < kB f n a) : pK f n a K = K (kE f n a) (kV f n a) := if_neg (by omega)
def pGd (n a : Nat) (r : zPR) : Prop := a ≤ r.1 ∧ r.1 ≤ n
theorem pS_ok {f : Nat → Nat} {n c a a0 : Nat} {K : Nat → zPR} (h0 : a0 ≤ a) (h : a ≤ n) (hK : ∀ a', a0 ≤ a' → a' ≤ n → pGd n a0 (K a')) : pGd n a0 (pS f n c a K) := by
  have h1 := pE_ok (f := f) (c := c) h
  unfold pS
  split
  · exact ⟨by show a0 ≤ pE f n c a; omega, h1.2⟩
  · exact hK _ (by omega) h1.2
theorem pN_ok {f : Nat → Nat} {n k a a0 : Nat} {K : Nat → Nat → zPR} (h0 : a0 ≤ a) (h : a ≤ n) (hK : ∀ a' v, a0 ≤ a' → a' ≤ n → pGd n a0 (K a' v)) : pGd n a0 (pN f n k a K) := by
  have h1 := nE_ok (f := f) (k := k) h
  unfold pN
  split
  · exact ⟨by show a0 ≤ nE f n k a; omega, h1.2⟩
  · exact hK _ _ (by omega) h1.2
theorem pK_ok {f : Nat → Nat} {n a a0 : Nat} {K : Nat → Nat → zPR} (h0 : a0 ≤ a) (h : a ≤ n) (hK : ∀ a' v, a0 ≤ a' → a' ≤ n → pGd n a0 (K a' v)) : pGd n a0 (pK f n a K) := by
  have h1 := kE_ok (f := f) h
  unfold pK
  split
  · exact ⟨by show a0 ≤ kE f n a; omega, h1.2⟩
  · exact hK _ _ (by omega) h1.2
theorem pO_ok {f : Nat → Nat} {n a a0 : Nat} (h0 : a0 ≤ a) (h : a ≤ n) : pGd n a0 (pO f n a) := pS_ok h0 h fun _ g1 g2 => ⟨g1, g2⟩
theorem pW_ok {f : Nat → Nat} {n a a0 : Nat} (h0 : a0 ≤ a) (h : a ≤ n) : pGd n a0 (pW f n a) := pN_ok h0 h fun _ _ g1 g2 => pS_ok g1 g2 fun _ g1 g2 => ⟨g1, g2⟩
theorem pKy_ok {f : Nat → Nat} {n a a0 : Nat} (h0 : a0 ≤ a) (h : a ≤ n) : pGd n a0 (pKy f n a) := pN_ok h0 h fun _ _ g1 g2 => pN_ok g1 g2 fun _ _ g1 g2 => pS_ok g1 g2 fun _ g1 g2 => ⟨g1, g2⟩
theorem pP_ok {f : Nat → Nat} {n a a0 : Nat} (h0 : a0 ≤ a) (h : a ≤ n) : pGd n a0 (pP f n a) := pK_ok h0 h fun _ _ g1 g2 => pN_ok g1 g2 fun _ _ g1 g2 => pS_ok g1 g2 fun _ g1 g2 => pN_ok g1 g2 fun _ _ g1 g2 => pS_ok g1 g2 fun _ g1 g2 => pN_ok g1 g2 fun _ _ g1 g2 => pS_ok g1 g2 fun _ g1 g2 => pN_ok g1 g2 fun _ _ g1 g2 => pS_ok g1 g2 fun _ g1 g2 => ⟨g1, g2⟩
theorem pSt_ok {f : Nat → Nat} {n a : Nat} (h : a ≤ n) : a ≤ (pSt f n a).1 ∧ (pSt f n a).1 ≤ n := by
  unfold pSt
  split
  · split
    · have := pP_ok (f := f) (a0 := a) (a := a + 1) (n := n) (by omega) (by omega); exact this
    · split
      · have := pKy_ok (f := f) (a0 := a) (a := a + 1) (n := n) (by omega) (by omega); exact this
      · split
        · have := pW_ok (f := f) (a0 := a) (a := a + 1) (n := n) (by omega) (by omega); exact this
        · split
          · have := pO_ok (f := f) (a0 := a) (a := a + 1) (n := n) (by omega) (by omega); exact this
          · exact ⟨Nat.le_refl _, h⟩
  · exact ⟨Nat.le_refl _, h⟩
theorem pSt_lt {f : Nat → Nat} {n a : Nat} {x : zN5} (h : (pSt f n a).2 = some x) : a < n ∧ a < (pSt f n a).1 ∧ (pSt f n a).1 ≤ n := by
  unfold pSt at h ⊢
  by_cases ha : a < n
  · rw [if_pos ha] at h ⊢
    refine ⟨ha, ?_⟩
    split at h
    · rename_i h1
      rw [if_pos h1]
      have := pP_ok (f := f) (a0 := a + 1) (a := a + 1) (n := n) (Nat.le_refl _) ha
      exact ⟨Nat.lt_of_lt_of_le (Nat.lt_succ_self a) this.1, this.2⟩
    · rename_i h1
      rw [if_neg h1]
      split at h
      · rename_i h2
        rw [if_pos h2]
        have := pKy_ok (f := f) (a0 := a + 1) (a := a + 1) (n := n) (Nat.le_refl _) ha
        exact ⟨Nat.lt_of_lt_of_le (Nat.lt_succ_self a) this.1, this.2⟩
      · rename_i h2
        rw [if_neg h2]
        split at h
        · rename_i h3
          rw [if_pos h3]
          have := pW_ok (f := f) (a0 := a + 1) (a := a + 1) (n := n) (Nat.le_refl _) ha
          exact ⟨Nat.lt_of_lt_of_le (Nat.lt_succ_self a) this.1, this.2⟩
        · rename_i h3
          rw [if_neg h3]
          split at h
          · rename_i h4
            rw [if_pos h4]
            have := pO_ok (f := f) (a0 := a + 1) (a := a + 1) (n := n) (Nat.le_refl _) ha
            exact ⟨Nat.lt_of_lt_of_le (Nat.lt_succ_self a) this.1, this.2⟩
          · cases h
  · rw [if_neg ha] at h
    cases h
theorem pS_some {f : Nat → Nat} {n c a : Nat} {K : Nat → zPR} {x : zN5} (h : (pS f n c a K).2 = some x) : (K (pE f n c a)).2 = some x := by
  unfold pS at h
  split at h
  · cases h
  · exact h
theorem pN_some {f : Nat → Nat} {n k a : Nat} {K : Nat → Nat → zPR} {x : zN5} (h : (pN f n k a K).2 = some x) : (K (nE f n k a) (nV f n k a)).2 = some x := by
  unfold pN at h
  split at h
  · cases h
  · exact h
theorem pK_some {f : Nat → Nat} {n a : Nat} {K : Nat → Nat → zPR} {x : zN5} (h : (pK f n a K).2 = some x) : (K (kE f n a) (kV f n a)).2 = some x := by
  unfold pK at h
  split at h
  · cases h
  · exact h
theorem kV_le (f : Nat → Nat) (n a : Nat) : kV f n a ≤ 5 := by
  unfold kV kO zkd
  repeat' split
  all_goals first | decide | exact Nat.zero_le _
theorem pSt_val {f : Nat → Nat} {n a : Nat} {x : zN5} (h : (pSt f n a).2 = some x) : x.1 ≤ 9 ∧ x.2.1 ≤ 99 ∧ x.2.2.1 ≤ 9 ∧ x.2.2.2.1 ≤ 999 ∧ x.2.2.2.2 ≤ 9 ∧ (f a = 112 → x.1 ≤ 5) := by
  unfold pSt at h
  split at h
  · split at h
    · have h2 := pS_some (pN_some (pS_some (pN_some (pS_some (pN_some (pS_some (pN_some (pK_some h))))))))
      cases h2
      have e0 := kV_le f n (a + 1)
      exact ⟨by show kV f n (a + 1) ≤ 9; omega, Nat.le_of_lt_succ (nV_lt f n 2 _), Nat.le_of_lt_succ (nV_lt f n 1 _), Nat.le_of_lt_succ (nV_lt f n 3 _), Nat.le_of_lt_succ (nV_lt f n 1 _), fun _ => e0⟩
    · rename_i hp
      split at h
      · have h2 := pS_some (pN_some (pN_some h))
        cases h2
        exact ⟨Nat.le_of_lt_succ (nV_lt f n 1 _), Nat.le_trans (Nat.le_of_lt_succ (nV_lt f n 1 _)) (by decide), Nat.zero_le _, Nat.zero_le _, Nat.zero_le _, fun z => absurd z hp⟩
      · split at h
        · have h2 := pS_some (pN_some h)
          cases h2
          exact ⟨Nat.le_of_lt_succ (nV_lt f n 1 _), Nat.zero_le _, Nat.zero_le _, Nat.zero_le _, Nat.zero_le _, fun z => absurd z hp⟩
        · split at h
          · have h2 := pS_some h
            cases h2
            exact ⟨Nat.zero_le _, Nat.zero_le _, Nat.zero_le _, Nat.zero_le _, Nat.zero_le _, fun z => absurd z hp⟩
          · cases h
  · cases h
/-! what a STATEMENT tells, in the reference's row -/
def sPer (S : Nat → Nat) (x : zN5) : Nat → Nat := va_up (va_up (va_up (va_up (va_up (va_up S (5 + 5 * S 0 + 0) x.1) (5 + 5 * S 0 + 1) x.2.1) (5 + 5 * S 0 + 2) x.2.2.1) (5 + 5 * S 0 + 3) x.2.2.2.1) (5 + 5 * S 0 + 4) x.2.2.2.2) 0 (S 0 + 1)
def sKey (S : Nat → Nat) (x : zN5) : Nat → Nat := va_up (va_up (va_up S (40 + 2 * S 1) x.1) (40 + 2 * S 1 + 1) x.2.1) 1 (S 1 + 1)
def sTell (c : Nat) (x : zN5) (S : Nat → Nat) : Option (Nat → Nat) :=
  if c = 112 then if S 0 = 7 then none else some (sPer S x)
  else if c = 107 then if x.1 < S 0 ∧ x.2.1 < S 0 ∧ ¬ S 1 = 10 then some (sKey S x) else none
  else if c = 119 then if x.1 < S 0 then some (va_up S 2 (S 2 ^^^ 1 * 2 ^ x.1)) else none
  else if c = 115 then some (va_up S 3 x.1)
  else some (va_up S 4 (if c = 114 then 1 else 0))
/-- a row that is read into -/
def sRd (S : Nat → Nat) : Prop := (∀ i, S i ≤ 1000) ∧ S 0 ≤ 7 ∧ S 1 ≤ 10 ∧ S 2 < 128
theorem sTell_ok {c : Nat} {x : zN5} {S S' : Nat → Nat} (h : sRd S) (hx : x.1 ≤ 9 ∧ x.2.1 ≤ 99 ∧ x.2.2.1 ≤ 9 ∧ x.2.2.2.1 ≤ 999 ∧ x.2.2.2.2 ≤ 9) (he : sTell c x S = some S') : sRd S' := by
  obtain ⟨h1, h2, h3, h4⟩ := h
  obtain ⟨x1, x2, x3, x4, x5⟩ := hx
  unfold sTell at he
  split at he
  · split at he
    · cases he
    · cases he
      refine ⟨fun i => ?_, ?_, ?_, ?_⟩
      · unfold sPer va_up
        have := h1 i
        repeat' split
        all_goals omega
      · unfold sPer
        rw [zu_s]; omega
      · unfold sPer
        rw [zu_n (by omega), zu_n (by omega), zu_n (by omega), zu_n (by omega), zu_n (by omega), zu_n (by omega)]; exact h3
      · unfold sPer
        rw [zu_n (by omega), zu_n (by omega), zu_n (by omega), zu_n (by omega), zu_n (by omega), zu_n (by omega)]; exact h4
  · split at he
    · split at he
      · cases he
        refine ⟨fun i => ?_, ?_, ?_, ?_⟩
        · unfold sKey va_up
          have := h1 i
          repeat' split
          all_goals omega
        · unfold sKey
          rw [zu_n (by omega), zu_n (by omega), zu_n (by omega)]; exact h2
        · unfold sKey
          rw [zu_s]; omega
        · unfold sKey
          rw [zu_n (by omega), zu_n (by omega), zu_n (by omega)]; exact h4
      · cases he
    · split at he
      · split at he
        · cases he
          have hb : S 2 ^^^ 1 * 2 ^ x.1 < 2 ^ 7 := Nat.xor_lt_two_pow (by omega) (by rw [Nat.one_mul]; exact Nat.pow_lt_pow_right (by omega) (by omega))
          refine ⟨fun i => ?_, ?_, ?_, ?_⟩
          · unfold va_up
            have := h1 i
            split <;> omega
          · rw [zu_n (by omega)]; exact h2
          · rw [zu_n (by omega)]; exact h3
          · rw [zu_s]; omega
        · cases he
      · split at he
        · cases he
          refine ⟨fun i => ?_, ?_, ?_, ?_⟩
          · unfold va_up
            have := h1 i
            split <;> omega
          · rw [zu_n (by omega)]; exact h2
          · rw [zu_n (by omega)]; exact h3
          · rw [zu_n (by omega)]; exact h4
        · cases he
          refine ⟨fun i => ?_, ?_, ?_, ?_⟩
          · unfold va_up
            have := h1 i
            split
            · split <;> omega
            · omega
          · rw [zu_n (by omega)]; exact h2
          · rw [zu_n (by omega)]; exact h3
          · rw [zu_n (by omega)]; exact h4
/-! THE REFERENCE: what it reads -/
set_option maxHeartbeats 1000000 in
set_option maxRecDepth 100000 in
theorem s4_sign_y {t : zMod} {u : zCls} (hta : mg_ta t ≤ 80) (htp : ∀ i, mg_tp t i ≤ 255) (ha : mg_at t < mg_ta t) : Mi mX4_sign 1 [.ref 0] (hA t u) (fun r h' => r = nI (mg_tp t (mg_at t)) ∧ h' = hA t u) := by
  refine Mi.of (by decide) rfl (Nat.le_of_ble_eq_true rfl) ?_
  refine r_aload_n eX4_sign_0 rfl rfl ?_
  refine r_getf (v := .int (nI (mg_at t))) eX4_sign_1 fX4_56 rfl rfl ?_
  refine r_aload_n eX4_sign_4 rfl rfl ?_
  refine r_getf (v := .int (nI (mg_ta t))) eX4_sign_5 fX4_48 rfl rfl ?_
  refine n_icmp_ge eX4_sign_8 (by omega) (by omega) (fun hc8 => absurd hc8 (by omega)) (fun hc8 => ?_)
  refine r_aload_n eX4_sign_11 rfl rfl ?_
  refine r_getf (v := .ref 5) eX4_sign_12 fX4_22 rfl rfl ?_
  refine r_aload_n eX4_sign_15 rfl rfl ?_
  refine r_getf (v := .int (nI (mg_at t))) eX4_sign_16 fX4_56 rfl rfl ?_
  refine n_iald (f := mg_tp t) (j := mg_at t) eX4_sign_19 rfl rfl (by omega) (by decide) ?_
  refine r_goto eX4_sign_20 ?_
  exact z_iret eX4_sign_24 rfl rfl ⟨_, rfl, rfl, rfl⟩
set_option maxHeartbeats 1000000 in
set_option maxRecDepth 100000 in
theorem s4_sign_n {t : zMod} {u : zCls} (hta : mg_ta t ≤ 80) (htp : ∀ i, mg_tp t i ≤ 255) (hat : mg_at t ≤ 80) (ha : ¬ mg_at t < mg_ta t) : Mi mX4_sign 1 [.ref 0] (hA t u) (fun r h' => r = (-1) ∧ h' = hA t u) := by
  refine Mi.of (by decide) rfl (Nat.le_of_ble_eq_true rfl) ?_
  refine r_aload_n eX4_sign_0 rfl rfl ?_
  refine r_getf (v := .int (nI (mg_at t))) eX4_sign_1 fX4_56 rfl rfl ?_
  refine r_aload_n eX4_sign_4 rfl rfl ?_
  refine r_getf (v := .int (nI (mg_ta t))) eX4_sign_5 fX4_48 rfl rfl ?_
  refine n_icmp_ge eX4_sign_8 (by omega) (by omega) (fun hc8 => ?_) (fun hc8 => absurd hc8 (by omega))
  refine r_iconst (v := (-1)) eX4_sign_23 rfl ?_
  exact z_iret eX4_sign_24 rfl rfl ⟨_, rfl, rfl, rfl⟩
set_option maxHeartbeats 1000000 in
set_option maxRecDepth 100000 in
theorem s4_takes_y {t : zMod} {u : zCls} (hta : mg_ta t ≤ 80) (htp : ∀ i, mg_tp t i ≤ 255) {c : Nat} (hh : mg_at t < mg_ta t ∧ mg_tp t (mg_at t) = c) : Mi mX4_takes 2 [.ref 0, .int (nI (c))] (hA t u) (fun r h' => r = nI (pB (mg_tp t) (mg_ta t) c (mg_at t)) ∧ h' = hA (mg_re t, mg_s t, mg_im t, mg_rd t, mg_ii t, mg_tp t, mg_tl t, mg_ta t, (pE (mg_tp t) (mg_ta t) c (mg_at t)), mg_ou t, mg_op t, mg_br t, mg_nw t, mg_fs t, mg_bc t, mg_kr t, mg_rw t, mg_rc t) u) := by
  have hb := htp (mg_at t)
  refine Mi.of (by decide) rfl (Nat.le_of_ble_eq_true rfl) ?_
  refine r_aload_n eX4_takes_0 rfl rfl ?_
  refine r_callVi0 eX4_takes_1 lX4_59 (Or.inl ⟨_, _, _, rfl, rfl, rfl⟩) (s4_sign_y (t := t) (u := u) hta htp hh.1) (by omega) (Nat.le_of_ble_eq_true rfl) (fun r1 h1 hq => ?_)
  obtain ⟨rfl, rfl⟩ := (show r1 = nI (mg_tp t (mg_at t)) ∧ h1 = hA t u from hq)
  refine r_iload_n eX4_takes_4 rfl rfl ?_
  refine n_icmp_eq eX4_takes_5 (by omega) (by omega) (fun hc5 => ?_) (fun hc5 => absurd hc5 (fun z => z hh.2))
  refine r_aload_n eX4_takes_10 rfl rfl ?_
  refine r_dup eX4_takes_11 rfl ?_
  refine r_getf (v := .int (nI (mg_at t))) eX4_takes_12 fX4_56 rfl rfl ?_
  refine n_iconst 1 eX4_takes_15 rfl ?_
  refine n_add eX4_takes_16 ?_
  refine z_h (h' := hA (mg_re t, mg_s t, mg_im t, mg_rd t, mg_ii t, mg_tp t, mg_tl t, mg_ta t, mg_at t, mg_ou t, mg_op t, mg_br t, mg_nw t, mg_fs t, mg_bc t, mg_kr t, mg_rw t, mg_rc t) u) rfl ?_
  refine mp_at (v := (mg_at t) + 1) eX4_takes_17 fX4_56 rfl ?_
  refine n_iconst 1 eX4_takes_20 rfl ?_
  have q1 : pB (mg_tp t) (mg_ta t) c (mg_at t) = 1 := if_pos hh
  have q2 : pE (mg_tp t) (mg_ta t) c (mg_at t) = mg_at t + 1 := if_pos hh
  rw [q1, q2]
  exact z_iret eX4_takes_21 rfl rfl ⟨_, rfl, rfl, rfl⟩
set_option maxHeartbeats 1000000 in
set_option maxRecDepth 100000 in
theorem s4_takes_n1 {t : zMod} {u : zCls} (hta : mg_ta t ≤ 80) (htp : ∀ i, mg_tp t i ≤ 255) (hat : mg_at t ≤ mg_ta t) {c : Nat} (hc : c < 1000) (ha : ¬ mg_at t < mg_ta t) : Mi mX4_takes 2 [.ref 0, .int (nI (c))] (hA t u) (fun r h' => r = nI (pB (mg_tp t) (mg_ta t) c (mg_at t)) ∧ h' = hA (mg_re t, mg_s t, mg_im t, mg_rd t, mg_ii t, mg_tp t, mg_tl t, mg_ta t, (pE (mg_tp t) (mg_ta t) c (mg_at t)), mg_ou t, mg_op t, mg_br t, mg_nw t, mg_fs t, mg_bc t, mg_kr t, mg_rw t, mg_rc t) u) := by
  have hh : ¬ (mg_at t < mg_ta t ∧ mg_tp t (mg_at t) = c) := fun z => ha z.1
  refine Mi.of (by decide) rfl (Nat.le_of_ble_eq_true rfl) ?_
  refine r_aload_n eX4_takes_0 rfl rfl ?_
  refine r_callVi0 eX4_takes_1 lX4_59 (Or.inl ⟨_, _, _, rfl, rfl, rfl⟩) (s4_sign_n (t := t) (u := u) hta htp (by omega) ha) (by omega) (Nat.le_of_ble_eq_true rfl) (fun r1 h1 hq => ?_)
  obtain ⟨rfl, rfl⟩ := (show r1 = (-1) ∧ h1 = hA t u from hq)
  refine r_iload_n eX4_takes_4 rfl rfl ?_
  refine r_icmp_eq eX4_takes_5 (fun hc5 => absurd hc5 (fun z => by have h9 : nI c < 0 := z ▸ (by decide); exact nI_pos (by omega) h9)) (fun hc5 => ?_)
  refine n_iconst 0 eX4_takes_8 rfl ?_
  have q1 : pB (mg_tp t) (mg_ta t) c (mg_at t) = 0 := if_neg hh
  have q2 : pE (mg_tp t) (mg_ta t) c (mg_at t) = mg_at t := if_neg hh
  rw [q1, q2]
  exact z_iret eX4_takes_9 rfl rfl ⟨_, rfl, rfl, rfl⟩
set_option maxHeartbeats 1000000 in
set_option maxRecDepth 100000 in
theorem s4_takes_n2 {t : zMod} {u : zCls} (hta : mg_ta t ≤ 80) (htp : ∀ i, mg_tp t i ≤ 255) {c : Nat} (hc : c < 1000) (ha : mg_at t < mg_ta t) (hn : ¬ mg_tp t (mg_at t) = c) : Mi mX4_takes 2 [.ref 0, .int (nI (c))] (hA t u) (fun r h' => r = nI (pB (mg_tp t) (mg_ta t) c (mg_at t)) ∧ h' = hA (mg_re t, mg_s t, mg_im t, mg_rd t, mg_ii t, mg_tp t, mg_tl t, mg_ta t, (pE (mg_tp t) (mg_ta t) c (mg_at t)), mg_ou t, mg_op t, mg_br t, mg_nw t, mg_fs t, mg_bc t, mg_kr t, mg_rw t, mg_rc t) u) := by
  have hb := htp (mg_at t)
  have hh : ¬ (mg_at t < mg_ta t ∧ mg_tp t (mg_at t) = c) := fun z => hn z.2
  refine Mi.of (by decide) rfl (Nat.le_of_ble_eq_true rfl) ?_
  refine r_aload_n eX4_takes_0 rfl rfl ?_
  refine r_callVi0 eX4_takes_1 lX4_59 (Or.inl ⟨_, _, _, rfl, rfl, rfl⟩) (s4_sign_y (t := t) (u := u) hta htp ha) (by omega) (Nat.le_of_ble_eq_true rfl) (fun r1 h1 hq => ?_)
  obtain ⟨rfl, rfl⟩ := (show r1 = nI (mg_tp t (mg_at t)) ∧ h1 = hA t u from hq)
  refine r_iload_n eX4_takes_4 rfl rfl ?_
  refine n_icmp_eq eX4_takes_5 (by omega) (by omega) (fun hc5 => absurd hc5 hn) (fun hc5 => ?_)
  refine n_iconst 0 eX4_takes_8 rfl ?_
  have q1 : pB (mg_tp t) (mg_ta t) c (mg_at t) = 0 := if_neg hh
  have q2 : pE (mg_tp t) (mg_ta t) c (mg_at t) = mg_at t := if_neg hh
  rw [q1, q2]
  exact z_iret eX4_takes_9 rfl rfl ⟨_, rfl, rfl, rfl⟩
theorem s4_takes {t : zMod} {u : zCls} (hta : mg_ta t ≤ 80) (htp : ∀ i, mg_tp t i ≤ 255) (hat : mg_at t ≤ mg_ta t) {c : Nat} (hc : c < 1000) : Mi mX4_takes 2 [.ref 0, .int (nI c)] (hA t u) (fun r h' => r = nI (pB (mg_tp t) (mg_ta t) c (mg_at t)) ∧ h' = hA (mg_re t, mg_s t, mg_im t, mg_rd t, mg_ii t, mg_tp t, mg_tl t, mg_ta t, (pE (mg_tp t) (mg_ta t) c (mg_at t)), mg_ou t, mg_op t, mg_br t, mg_nw t, mg_fs t, mg_bc t, mg_kr t, mg_rw t, mg_rc t) u) := by
  by_cases ha : mg_at t < mg_ta t
  · by_cases hn : mg_tp t (mg_at t) = c
    · exact s4_takes_y hta htp ⟨ha, hn⟩
    · exact s4_takes_n2 hta htp hc ha hn
  · exact s4_takes_n1 hta htp hat hc ha
theorem zneg : ∀ {c : Nat}, c < 48 → nI c - nI (48) < 0 := by
  intro c h
  have : ∀ c, c < 48 → nI c - nI (48) < 0 := by decide +kernel
  exact this c h
set_option maxHeartbeats 1000000 in
set_option maxRecDepth 100000 in
theorem s4_rnum_d {t : zMod} {u : zCls} (hta : mg_ta t ≤ 80) (htp : ∀ i, mg_tp t i ≤ 255) {kx most a0 : Nat} (hkx : kx < 5) (hm1 : 1 ≤ most) (hm3 : most ≤ 3) (ha0 : a0 ≤ mg_ta t) {n a v : Nat} (hdg : a < mg_ta t ∧ 48 ≤ mg_tp t a ∧ mg_tp t a ≤ 57) (hnm : n < most) (hv : v < 10 ^ n) (kk : Rq mX4_readsNumber 4 none 9 [.ref 0, .int (nI kx), .int (nI most), .int (nI (n + 1))] [] (hA (mg_re t, mg_s t, mg_im t, mg_rd t, mg_ii t, mg_tp t, (upd (mg_tl t) kx (nI (10 * v + mg_tp t a - 48))), mg_ta t, (a + 1), mg_ou t, mg_op t, mg_br t, mg_nw t, mg_fs t, mg_bc t, mg_kr t, mg_rw t, mg_rc t) u) (fun r h' => ∃ x, r = some x ∧ (x = nI (nB (mg_tp t) (mg_ta t) a0) ∧ h' = hA (mg_re t, mg_s t, mg_im t, mg_rd t, mg_ii t, mg_tp t, (upd (mg_tl t) kx (nI (nV (mg_tp t) (mg_ta t) most a0))), mg_ta t, (nE (mg_tp t) (mg_ta t) most a0), mg_ou t, mg_op t, mg_br t, mg_nw t, mg_fs t, mg_bc t, mg_kr t, mg_rw t, mg_rc t) u))) : Rq mX4_readsNumber 4 none 9 [.ref 0, .int (nI kx), .int (nI most), .int (nI n)] [] (hA (mg_re t, mg_s t, mg_im t, mg_rd t, mg_ii t, mg_tp t, (upd (mg_tl t) kx (nI v)), mg_ta t, a, mg_ou t, mg_op t, mg_br t, mg_nw t, mg_fs t, mg_bc t, mg_kr t, mg_rw t, mg_rc t) u) (fun r h' => ∃ x, r = some x ∧ (x = nI (nB (mg_tp t) (mg_ta t) a0) ∧ h' = hA (mg_re t, mg_s t, mg_im t, mg_rd t, mg_ii t, mg_tp t, (upd (mg_tl t) kx (nI (nV (mg_tp t) (mg_ta t) most a0))), mg_ta t, (nE (mg_tp t) (mg_ta t) most a0), mg_ou t, mg_op t, mg_br t, mg_nw t, mg_fs t, mg_bc t, mg_kr t, mg_rw t, mg_rc t) u)) := by
  have hb := htp a
  have hp9 : 10 ^ n ≤ 10 ^ 2 := Nat.pow_le_pow_right (by omega) (by omega)
  refine r_iload_n eX4_readsNumber_9 rfl rfl ?_
  refine r_iload_n eX4_readsNumber_10 rfl rfl ?_
  refine n_icmp_ge eX4_readsNumber_11 (by omega) (by omega) (fun hc11 => absurd hc11 (by omega)) (fun hc11 => ?_)
  refine r_aload_n eX4_readsNumber_14 rfl rfl ?_
  refine r_callVi0 eX4_readsNumber_15 lX4_59 (Or.inl ⟨_, _, _, rfl, rfl, rfl⟩) (s4_sign_y (t := (mg_re t, mg_s t, mg_im t, mg_rd t, mg_ii t, mg_tp t, (upd (mg_tl t) kx (nI v)), mg_ta t, a, mg_ou t, mg_op t, mg_br t, mg_nw t, mg_fs t, mg_bc t, mg_kr t, mg_rw t, mg_rc t)) (u := u) hta htp hdg.1) (by omega) (Nat.le_of_ble_eq_true rfl) (fun r1 h1 hq => ?_)
  obtain ⟨rfl, rfl⟩ := (show r1 = nI (mg_tp t a) ∧ h1 = hA (mg_re t, mg_s t, mg_im t, mg_rd t, mg_ii t, mg_tp t, (upd (mg_tl t) kx (nI v)), mg_ta t, a, mg_ou t, mg_op t, mg_br t, mg_nw t, mg_fs t, mg_bc t, mg_kr t, mg_rw t, mg_rc t) u from hq)
  refine n_bipush 48 eX4_readsNumber_18 rfl ?_
  refine n_sub eX4_readsNumber_20 (by omega) ?_
  refine n_bipush 10 eX4_readsNumber_21 rfl ?_
  refine r_callSi2 eX4_readsNumber_23 lX4_40 (s4_isIn_y (by omega) (by omega)) (by omega) (Nat.le_of_ble_eq_true rfl) (fun r1 h1 hq => ?_)
  obtain ⟨rfl, rfl⟩ := hq
  refine n_if_eq eX4_readsNumber_26 (by omega) (fun hc26 => absurd hc26 (by decide)) (fun hc26 => ?_)
  refine r_aload_n eX4_readsNumber_29 rfl rfl ?_
  refine r_getf (v := .ref 6) eX4_readsNumber_30 fX4_25 rfl rfl ?_
  refine r_iload_n eX4_readsNumber_33 rfl rfl ?_
  refine n_bipush 10 eX4_readsNumber_34 rfl ?_
  refine r_aload_n eX4_readsNumber_36 rfl rfl ?_
  refine r_getf (v := .ref 6) eX4_readsNumber_37 fX4_25 rfl rfl ?_
  refine r_iload_n eX4_readsNumber_40 rfl rfl ?_
  refine r_iald (f := (upd (mg_tl t) kx (nI v))) (j := kx) eX4_readsNumber_41 rfl rfl (by omega) (by decide) ?_
  refine z_top (y := nI (v)) (zupd_s) ?_
  refine z_top (y := nI (v)) (rfl) ?_
  refine n_mul eX4_readsNumber_42 ?_
  refine r_aload_n eX4_readsNumber_43 rfl rfl ?_
  refine r_callVi0 eX4_readsNumber_44 lX4_59 (Or.inl ⟨_, _, _, rfl, rfl, rfl⟩) (s4_sign_y (t := (mg_re t, mg_s t, mg_im t, mg_rd t, mg_ii t, mg_tp t, (upd (mg_tl t) kx (nI v)), mg_ta t, a, mg_ou t, mg_op t, mg_br t, mg_nw t, mg_fs t, mg_bc t, mg_kr t, mg_rw t, mg_rc t)) (u := u) hta htp hdg.1) (by omega) (Nat.le_of_ble_eq_true rfl) (fun r1 h1 hq => ?_)
  obtain ⟨rfl, rfl⟩ := (show r1 = nI (mg_tp t a) ∧ h1 = hA (mg_re t, mg_s t, mg_im t, mg_rd t, mg_ii t, mg_tp t, (upd (mg_tl t) kx (nI v)), mg_ta t, a, mg_ou t, mg_op t, mg_br t, mg_nw t, mg_fs t, mg_bc t, mg_kr t, mg_rw t, mg_rc t) u from hq)
  refine n_add eX4_readsNumber_47 ?_
  refine n_bipush 48 eX4_readsNumber_48 rfl ?_
  refine n_sub eX4_readsNumber_50 (by omega) ?_
  refine mw_tl (j := kx) eX4_readsNumber_51 rfl (by omega) ?_
  refine r_aload_n eX4_readsNumber_52 rfl rfl ?_
  refine r_dup eX4_readsNumber_53 rfl ?_
  refine r_getf (v := .int (nI (a))) eX4_readsNumber_54 fX4_56 rfl rfl ?_
  refine n_iconst 1 eX4_readsNumber_57 rfl ?_
  refine n_add eX4_readsNumber_58 ?_
  refine mp_at (v := a + 1) eX4_readsNumber_59 fX4_56 rfl ?_
  refine n_iinc (k := 1) eX4_readsNumber_62 rfl (by decide) rfl ?_
  refine r_goto eX4_readsNumber_65 ?_
  refine z_h (h' := hA (mg_re t, mg_s t, mg_im t, mg_rd t, mg_ii t, mg_tp t, (upd (mg_tl t) kx (nI (10 * v + mg_tp t a - 48))), mg_ta t, (a + 1), mg_ou t, mg_op t, mg_br t, mg_nw t, mg_fs t, mg_bc t, mg_kr t, mg_rw t, mg_rc t) u) (by rw [zupd_2]) ?_
  exact kk
set_option maxHeartbeats 1000000 in
set_option maxRecDepth 100000 in
theorem s4_rnum_h {t : zMod} {u : zCls} (hta : mg_ta t ≤ 80) (htp : ∀ i, mg_tp t i ≤ 255) {kx most a0 : Nat} (hkx : kx < 5) (hm1 : 1 ≤ most) (hm3 : most ≤ 3) (ha0 : a0 ≤ mg_ta t) {n a v : Nat} (ha : a < mg_ta t) (hb9 : 57 < mg_tp t a) (hnm : n < most) (hdn : zdg (mg_tp t) (mg_ta t) a = false) (hR9 : nR (mg_tp t) (mg_ta t) most a0 0 = (a, v)) (h0 : n = 0 → a = a0) (h1 : 0 < n → zdg (mg_tp t) (mg_ta t) a0 = true) : Rq mX4_readsNumber 4 none 9 [.ref 0, .int (nI kx), .int (nI most), .int (nI n)] [] (hA (mg_re t, mg_s t, mg_im t, mg_rd t, mg_ii t, mg_tp t, (upd (mg_tl t) kx (nI v)), mg_ta t, a, mg_ou t, mg_op t, mg_br t, mg_nw t, mg_fs t, mg_bc t, mg_kr t, mg_rw t, mg_rc t) u) (fun r h' => ∃ x, r = some x ∧ (x = nI (nB (mg_tp t) (mg_ta t) a0) ∧ h' = hA (mg_re t, mg_s t, mg_im t, mg_rd t, mg_ii t, mg_tp t, (upd (mg_tl t) kx (nI (nV (mg_tp t) (mg_ta t) most a0))), mg_ta t, (nE (mg_tp t) (mg_ta t) most a0), mg_ou t, mg_op t, mg_br t, mg_nw t, mg_fs t, mg_bc t, mg_kr t, mg_rw t, mg_rc t) u)) := by
  have hb := htp a
  refine r_iload_n eX4_readsNumber_9 rfl rfl ?_
  refine r_iload_n eX4_readsNumber_10 rfl rfl ?_
  refine n_icmp_ge eX4_readsNumber_11 (by omega) (by omega) (fun hc11 => absurd hc11 (by omega)) (fun hc11 => ?_)
  refine r_aload_n eX4_readsNumber_14 rfl rfl ?_
  refine r_callVi0 eX4_readsNumber_15 lX4_59 (Or.inl ⟨_, _, _, rfl, rfl, rfl⟩) (s4_sign_y (t := (mg_re t, mg_s t, mg_im t, mg_rd t, mg_ii t, mg_tp t, (upd (mg_tl t) kx (nI v)), mg_ta t, a, mg_ou t, mg_op t, mg_br t, mg_nw t, mg_fs t, mg_bc t, mg_kr t, mg_rw t, mg_rc t)) (u := u) hta htp ha) (by omega) (Nat.le_of_ble_eq_true rfl) (fun r1 h1 hq => ?_)
  obtain ⟨rfl, rfl⟩ := (show r1 = nI (mg_tp t a) ∧ h1 = hA (mg_re t, mg_s t, mg_im t, mg_rd t, mg_ii t, mg_tp t, (upd (mg_tl t) kx (nI v)), mg_ta t, a, mg_ou t, mg_op t, mg_br t, mg_nw t, mg_fs t, mg_bc t, mg_kr t, mg_rw t, mg_rc t) u from hq)
  refine n_bipush 48 eX4_readsNumber_18 rfl ?_
  refine n_sub eX4_readsNumber_20 (by omega) ?_
  refine n_bipush 10 eX4_readsNumber_21 rfl ?_
  refine r_callSi2 eX4_readsNumber_23 lX4_40 (s4_isIn_n (Or.inr (nI_le (by omega) (by omega)))) (by omega) (Nat.le_of_ble_eq_true rfl) (fun r1 h1 hq => ?_)
  obtain ⟨rfl, rfl⟩ := hq
  refine n_if_eq eX4_readsNumber_26 (by omega) (fun hc26 => ?_) (fun hc26 => absurd hc26 (by decide))
  refine r_iload_n eX4_readsNumber_68 rfl rfl ?_
  refine n_if_le eX4_readsNumber_69 (by omega) (fun hc69 => ?_) (fun hc69 => ?_)
  · refine n_iconst 0 eX4_readsNumber_76 rfl ?_
    have q1 : nE (mg_tp t) (mg_ta t) most a0 = a := congrArg Prod.fst hR9
    have q2 : nV (mg_tp t) (mg_ta t) most a0 = v := congrArg Prod.snd hR9
    have q3 : nB (mg_tp t) (mg_ta t) a0 = 0 := if_neg (by rw [← h0 (by omega)]; rw [hdn]; decide)
    rw [q1, q2, q3]
    exact z_iret eX4_readsNumber_77 rfl rfl ⟨_, rfl, rfl, rfl⟩
  · refine n_iconst 1 eX4_readsNumber_72 rfl ?_
    refine r_goto eX4_readsNumber_73 ?_
    have q1 : nE (mg_tp t) (mg_ta t) most a0 = a := congrArg Prod.fst hR9
    have q2 : nV (mg_tp t) (mg_ta t) most a0 = v := congrArg Prod.snd hR9
    have q3 : nB (mg_tp t) (mg_ta t) a0 = 1 := if_pos (h1 (by omega))
    rw [q1, q2, q3]
    exact z_iret eX4_readsNumber_77 rfl rfl ⟨_, rfl, rfl, rfl⟩
set_option maxHeartbeats 1000000 in
set_option maxRecDepth 100000 in
theorem s4_rnum_b {t : zMod} {u : zCls} (hta : mg_ta t ≤ 80) (htp : ∀ i, mg_tp t i ≤ 255) {kx most a0 : Nat} (hkx : kx < 5) (hm1 : 1 ≤ most) (hm3 : most ≤ 3) (ha0 : a0 ≤ mg_ta t) {n a v : Nat} (ha : a < mg_ta t) (hb9 : mg_tp t a < 48) (hnm : n < most) (hdn : zdg (mg_tp t) (mg_ta t) a = false) (hR9 : nR (mg_tp t) (mg_ta t) most a0 0 = (a, v)) (h0 : n = 0 → a = a0) (h1 : 0 < n → zdg (mg_tp t) (mg_ta t) a0 = true) : Rq mX4_readsNumber 4 none 9 [.ref 0, .int (nI kx), .int (nI most), .int (nI n)] [] (hA (mg_re t, mg_s t, mg_im t, mg_rd t, mg_ii t, mg_tp t, (upd (mg_tl t) kx (nI v)), mg_ta t, a, mg_ou t, mg_op t, mg_br t, mg_nw t, mg_fs t, mg_bc t, mg_kr t, mg_rw t, mg_rc t) u) (fun r h' => ∃ x, r = some x ∧ (x = nI (nB (mg_tp t) (mg_ta t) a0) ∧ h' = hA (mg_re t, mg_s t, mg_im t, mg_rd t, mg_ii t, mg_tp t, (upd (mg_tl t) kx (nI (nV (mg_tp t) (mg_ta t) most a0))), mg_ta t, (nE (mg_tp t) (mg_ta t) most a0), mg_ou t, mg_op t, mg_br t, mg_nw t, mg_fs t, mg_bc t, mg_kr t, mg_rw t, mg_rc t) u)) := by
  have hb := htp a
  refine r_iload_n eX4_readsNumber_9 rfl rfl ?_
  refine r_iload_n eX4_readsNumber_10 rfl rfl ?_
  refine n_icmp_ge eX4_readsNumber_11 (by omega) (by omega) (fun hc11 => absurd hc11 (by omega)) (fun hc11 => ?_)
  refine r_aload_n eX4_readsNumber_14 rfl rfl ?_
  refine r_callVi0 eX4_readsNumber_15 lX4_59 (Or.inl ⟨_, _, _, rfl, rfl, rfl⟩) (s4_sign_y (t := (mg_re t, mg_s t, mg_im t, mg_rd t, mg_ii t, mg_tp t, (upd (mg_tl t) kx (nI v)), mg_ta t, a, mg_ou t, mg_op t, mg_br t, mg_nw t, mg_fs t, mg_bc t, mg_kr t, mg_rw t, mg_rc t)) (u := u) hta htp ha) (by omega) (Nat.le_of_ble_eq_true rfl) (fun r1 h1 hq => ?_)
  obtain ⟨rfl, rfl⟩ := (show r1 = nI (mg_tp t a) ∧ h1 = hA (mg_re t, mg_s t, mg_im t, mg_rd t, mg_ii t, mg_tp t, (upd (mg_tl t) kx (nI v)), mg_ta t, a, mg_ou t, mg_op t, mg_br t, mg_nw t, mg_fs t, mg_bc t, mg_kr t, mg_rw t, mg_rc t) u from hq)
  refine n_bipush 48 eX4_readsNumber_18 rfl ?_
  refine r_isub eX4_readsNumber_20 ?_
  refine n_bipush 10 eX4_readsNumber_21 rfl ?_
  refine r_callSi2 eX4_readsNumber_23 lX4_40 (s4_isIn_n (Or.inl (zneg (by omega)))) (by omega) (Nat.le_of_ble_eq_true rfl) (fun r1 h1 hq => ?_)
  obtain ⟨rfl, rfl⟩ := hq
  refine n_if_eq eX4_readsNumber_26 (by omega) (fun hc26 => ?_) (fun hc26 => absurd hc26 (by decide))
  refine r_iload_n eX4_readsNumber_68 rfl rfl ?_
  refine n_if_le eX4_readsNumber_69 (by omega) (fun hc69 => ?_) (fun hc69 => ?_)
  · refine n_iconst 0 eX4_readsNumber_76 rfl ?_
    have q1 : nE (mg_tp t) (mg_ta t) most a0 = a := congrArg Prod.fst hR9
    have q2 : nV (mg_tp t) (mg_ta t) most a0 = v := congrArg Prod.snd hR9
    have q3 : nB (mg_tp t) (mg_ta t) a0 = 0 := if_neg (by rw [← h0 (by omega)]; rw [hdn]; decide)
    rw [q1, q2, q3]
    exact z_iret eX4_readsNumber_77 rfl rfl ⟨_, rfl, rfl, rfl⟩
  · refine n_iconst 1 eX4_readsNumber_72 rfl ?_
    refine r_goto eX4_readsNumber_73 ?_
    have q1 : nE (mg_tp t) (mg_ta t) most a0 = a := congrArg Prod.fst hR9
    have q2 : nV (mg_tp t) (mg_ta t) most a0 = v := congrArg Prod.snd hR9
    have q3 : nB (mg_tp t) (mg_ta t) a0 = 1 := if_pos (h1 (by omega))
    rw [q1, q2, q3]
    exact z_iret eX4_readsNumber_77 rfl rfl ⟨_, rfl, rfl, rfl⟩
set_option maxHeartbeats 1000000 in
set_option maxRecDepth 100000 in
theorem s4_rnum_e {t : zMod} {u : zCls} (hta : mg_ta t ≤ 80) (htp : ∀ i, mg_tp t i ≤ 255) {kx most a0 : Nat} (hkx : kx < 5) (hm1 : 1 ≤ most) (hm3 : most ≤ 3) (ha0 : a0 ≤ mg_ta t) {n a v : Nat} (haa : a ≤ mg_ta t) (ha : ¬ a < mg_ta t) (hnm : n < most) (hdn : zdg (mg_tp t) (mg_ta t) a = false) (hR9 : nR (mg_tp t) (mg_ta t) most a0 0 = (a, v)) (h0 : n = 0 → a = a0) (h1 : 0 < n → zdg (mg_tp t) (mg_ta t) a0 = true) : Rq mX4_readsNumber 4 none 9 [.ref 0, .int (nI kx), .int (nI most), .int (nI n)] [] (hA (mg_re t, mg_s t, mg_im t, mg_rd t, mg_ii t, mg_tp t, (upd (mg_tl t) kx (nI v)), mg_ta t, a, mg_ou t, mg_op t, mg_br t, mg_nw t, mg_fs t, mg_bc t, mg_kr t, mg_rw t, mg_rc t) u) (fun r h' => ∃ x, r = some x ∧ (x = nI (nB (mg_tp t) (mg_ta t) a0) ∧ h' = hA (mg_re t, mg_s t, mg_im t, mg_rd t, mg_ii t, mg_tp t, (upd (mg_tl t) kx (nI (nV (mg_tp t) (mg_ta t) most a0))), mg_ta t, (nE (mg_tp t) (mg_ta t) most a0), mg_ou t, mg_op t, mg_br t, mg_nw t, mg_fs t, mg_bc t, mg_kr t, mg_rw t, mg_rc t) u)) := by
  refine r_iload_n eX4_readsNumber_9 rfl rfl ?_
  refine r_iload_n eX4_readsNumber_10 rfl rfl ?_
  refine n_icmp_ge eX4_readsNumber_11 (by omega) (by omega) (fun hc11 => absurd hc11 (by omega)) (fun hc11 => ?_)
  refine r_aload_n eX4_readsNumber_14 rfl rfl ?_
  refine r_callVi0 eX4_readsNumber_15 lX4_59 (Or.inl ⟨_, _, _, rfl, rfl, rfl⟩) (s4_sign_n (t := (mg_re t, mg_s t, mg_im t, mg_rd t, mg_ii t, mg_tp t, (upd (mg_tl t) kx (nI v)), mg_ta t, a, mg_ou t, mg_op t, mg_br t, mg_nw t, mg_fs t, mg_bc t, mg_kr t, mg_rw t, mg_rc t)) (u := u) hta htp (show a ≤ 80 by omega) ha) (by omega) (Nat.le_of_ble_eq_true rfl) (fun r1 h1 hq => ?_)
  obtain ⟨rfl, rfl⟩ := (show r1 = (-1) ∧ h1 = hA (mg_re t, mg_s t, mg_im t, mg_rd t, mg_ii t, mg_tp t, (upd (mg_tl t) kx (nI v)), mg_ta t, a, mg_ou t, mg_op t, mg_br t, mg_nw t, mg_fs t, mg_bc t, mg_kr t, mg_rw t, mg_rc t) u from hq)
  refine n_bipush 48 eX4_readsNumber_18 rfl ?_
  refine r_isub eX4_readsNumber_20 ?_
  refine n_bipush 10 eX4_readsNumber_21 rfl ?_
  refine r_callSi2 eX4_readsNumber_23 lX4_40 (s4_isIn_n (Or.inl (by decide))) (by omega) (Nat.le_of_ble_eq_true rfl) (fun r1 h1 hq => ?_)
  obtain ⟨rfl, rfl⟩ := hq
  refine n_if_eq eX4_readsNumber_26 (by omega) (fun hc26 => ?_) (fun hc26 => absurd hc26 (by decide))
  refine r_iload_n eX4_readsNumber_68 rfl rfl ?_
  refine n_if_le eX4_readsNumber_69 (by omega) (fun hc69 => ?_) (fun hc69 => ?_)
  · refine n_iconst 0 eX4_readsNumber_76 rfl ?_
    have q1 : nE (mg_tp t) (mg_ta t) most a0 = a := congrArg Prod.fst hR9
    have q2 : nV (mg_tp t) (mg_ta t) most a0 = v := congrArg Prod.snd hR9
    have q3 : nB (mg_tp t) (mg_ta t) a0 = 0 := if_neg (by rw [← h0 (by omega)]; rw [hdn]; decide)
    rw [q1, q2, q3]
    exact z_iret eX4_readsNumber_77 rfl rfl ⟨_, rfl, rfl, rfl⟩
  · refine n_iconst 1 eX4_readsNumber_72 rfl ?_
    refine r_goto eX4_readsNumber_73 ?_
    have q1 : nE (mg_tp t) (mg_ta t) most a0 = a := congrArg Prod.fst hR9
    have q2 : nV (mg_tp t) (mg_ta t) most a0 = v := congrArg Prod.snd hR9
    have q3 : nB (mg_tp t) (mg_ta t) a0 = 1 := if_pos (h1 (by omega))
    rw [q1, q2, q3]
    exact z_iret eX4_readsNumber_77 rfl rfl ⟨_, rfl, rfl, rfl⟩
theorem s4_rnum_l {t : zMod} {u : zCls} (hta : mg_ta t ≤ 80) (htp : ∀ i, mg_tp t i ≤ 255) {kx most a0 : Nat} (hkx : kx < 5) (hm1 : 1 ≤ most) (hm3 : most ≤ 3) (ha0 : a0 ≤ mg_ta t) : ∀ (k n a v : Nat), n + k = most → a ≤ mg_ta t → v < 10 ^ n → nR (mg_tp t) (mg_ta t) most a0 0 = nR (mg_tp t) (mg_ta t) k a v → (n = 0 → a = a0) → (0 < n → zdg (mg_tp t) (mg_ta t) a0 = true) → Rq mX4_readsNumber 4 none 9 [.ref 0, .int (nI kx), .int (nI most), .int (nI n)] [] (hA (mg_re t, mg_s t, mg_im t, mg_rd t, mg_ii t, mg_tp t, (upd (mg_tl t) kx (nI v)), mg_ta t, a, mg_ou t, mg_op t, mg_br t, mg_nw t, mg_fs t, mg_bc t, mg_kr t, mg_rw t, mg_rc t) u) (fun r h' => ∃ x, r = some x ∧ (x = nI (nB (mg_tp t) (mg_ta t) a0) ∧ h' = hA (mg_re t, mg_s t, mg_im t, mg_rd t, mg_ii t, mg_tp t, (upd (mg_tl t) kx (nI (nV (mg_tp t) (mg_ta t) most a0))), mg_ta t, (nE (mg_tp t) (mg_ta t) most a0), mg_ou t, mg_op t, mg_br t, mg_nw t, mg_fs t, mg_bc t, mg_kr t, mg_rw t, mg_rc t) u)) := by
  intro k
  induction k with
  | zero =>
    intro n a v hd ha hv hR9 h0 h1
    rw [nR] at hR9
    refine r_iload_n eX4_readsNumber_9 rfl rfl ?_
    refine r_iload_n eX4_readsNumber_10 rfl rfl ?_
    refine n_icmp_ge eX4_readsNumber_11 (by omega) (by omega) (fun hc11 => ?_) (fun hc11 => absurd hc11 (by omega))
    refine r_iload_n eX4_readsNumber_68 rfl rfl ?_
    refine n_if_le eX4_readsNumber_69 (by omega) (fun hc69 => absurd hc69 (by omega)) (fun hc69 => ?_)
    refine n_iconst 1 eX4_readsNumber_72 rfl ?_
    refine r_goto eX4_readsNumber_73 ?_
    have q1 : nE (mg_tp t) (mg_ta t) most a0 = a := congrArg Prod.fst hR9
    have q2 : nV (mg_tp t) (mg_ta t) most a0 = v := congrArg Prod.snd hR9
    have q3 : nB (mg_tp t) (mg_ta t) a0 = 1 := if_pos (h1 (by omega))
    rw [q1, q2, q3]
    exact z_iret eX4_readsNumber_77 rfl rfl ⟨_, rfl, rfl, rfl⟩
  | succ k ih =>
    intro n a v hd ha hv hR h0 h1
    by_cases hdg : a < mg_ta t ∧ 48 ≤ mg_tp t a ∧ mg_tp t a ≤ 57
    · have hdy : zdg (mg_tp t) (mg_ta t) a = true := decide_eq_true hdg
      have hp9 : 10 ^ n ≤ 10 ^ n * 1 := by omega
      refine s4_rnum_d hta htp hkx hm1 hm3 ha0 hdg (by omega) hv (ih (n + 1) (a + 1) (10 * v + mg_tp t a - 48) (by omega) (by omega) (by rw [Nat.pow_succ]; omega) ?_ (by omega) (fun _ => ?_))
      · rw [hR, nR, if_pos hdy]
      · by_cases e : n = 0
        · rw [← h0 e]; exact hdy
        · exact h1 (by omega)
    · have hdn : zdg (mg_tp t) (mg_ta t) a = false := decide_eq_false hdg
      rw [nR, if_neg (by rw [hdn]; decide)] at hR
      by_cases ha9 : a < mg_ta t
      · by_cases hb9 : 57 < mg_tp t a
        · exact s4_rnum_h hta htp hkx hm1 hm3 ha0 ha9 hb9 (by omega) hdn hR h0 h1
        · exact s4_rnum_b hta htp hkx hm1 hm3 ha0 ha9 (by omega) (by omega) hdn hR h0 h1
      · exact s4_rnum_e hta htp hkx hm1 hm3 ha0 ha ha9 (by omega) hdn hR h0 h1
set_option maxHeartbeats 1000000 in
set_option maxRecDepth 100000 in
theorem s4_readsNumber {t : zMod} {u : zCls} (hta : mg_ta t ≤ 80) (htp : ∀ i, mg_tp t i ≤ 255) (hat : mg_at t ≤ mg_ta t) {kx most : Nat} (hkx : kx < 5) (hm1 : 1 ≤ most) (hm3 : most ≤ 3) : Mi mX4_readsNumber 4 [.ref 0, .int (nI (kx)), .int (nI (most))] (hA t u) (fun r h' => r = nI (nB (mg_tp t) (mg_ta t) (mg_at t)) ∧ h' = hA (mg_re t, mg_s t, mg_im t, mg_rd t, mg_ii t, mg_tp t, (upd (mg_tl t) kx (nI (nV (mg_tp t) (mg_ta t) most (mg_at t)))), mg_ta t, (nE (mg_tp t) (mg_ta t) most (mg_at t)), mg_ou t, mg_op t, mg_br t, mg_nw t, mg_fs t, mg_bc t, mg_kr t, mg_rw t, mg_rc t) u) := by
  refine Mi.of (by decide) rfl (Nat.le_of_ble_eq_true rfl) ?_
  refine r_aload_n eX4_readsNumber_0 rfl rfl ?_
  refine r_getf (v := .ref 6) eX4_readsNumber_1 fX4_25 rfl rfl ?_
  refine r_iload_n eX4_readsNumber_4 rfl rfl ?_
  refine n_iconst 0 eX4_readsNumber_5 rfl ?_
  refine z_h (h' := hA (mg_re t, mg_s t, mg_im t, mg_rd t, mg_ii t, mg_tp t, mg_tl t, mg_ta t, mg_at t, mg_ou t, mg_op t, mg_br t, mg_nw t, mg_fs t, mg_bc t, mg_kr t, mg_rw t, mg_rc t) u) rfl ?_
  refine mw_tl (j := kx) eX4_readsNumber_6 rfl (by omega) ?_
  refine n_iconst 0 eX4_readsNumber_7 rfl ?_
  refine r_istore_n eX4_readsNumber_8 rfl (by decide) ?_
  refine z_h (h' := hA (mg_re t, mg_s t, mg_im t, mg_rd t, mg_ii t, mg_tp t, (upd (mg_tl t) kx (nI 0)), mg_ta t, (mg_at t), mg_ou t, mg_op t, mg_br t, mg_nw t, mg_fs t, mg_bc t, mg_kr t, mg_rw t, mg_rc t) u) rfl ?_
  exact s4_rnum_l (a0 := mg_at t) hta htp hkx hm1 hm3 hat most 0 (mg_at t) 0 (by omega) hat (by decide) rfl (fun _ => rfl) (fun z => absurd z (by omega))
set_option maxHeartbeats 1000000 in
set_option maxRecDepth 100000 in
theorem s4_kindOf_112 {h : List zC} : Mi mX4_kindOf 1 [.int (nI (112))] h (fun r h' => r = nI 0 ∧ h' = h) := by
  refine Mi.of (by decide) rfl (Nat.le_of_ble_eq_true rfl) ?_
  refine r_iload_n eX4_kindOf_0 rfl rfl ?_
  refine r_tabIn (off := 91) (tgt := 92) eX4_kindOf_1 (by decide) (by decide) (by decide) (by decide) ?_
  refine n_iconst 0 eX4_kindOf_92 rfl ?_
  exact z_iret eX4_kindOf_93 rfl rfl ⟨_, rfl, rfl, rfl⟩
set_option maxHeartbeats 1000000 in
set_option maxRecDepth 100000 in
theorem s4_kindOf_113 {h : List zC} : Mi mX4_kindOf 1 [.int (nI (113))] h (fun r h' => r = nI 1 ∧ h' = h) := by
  refine Mi.of (by decide) rfl (Nat.le_of_ble_eq_true rfl) ?_
  refine r_iload_n eX4_kindOf_0 rfl rfl ?_
  refine r_tabIn (off := 93) (tgt := 94) eX4_kindOf_1 (by decide) (by decide) (by decide) (by decide) ?_
  refine n_iconst 1 eX4_kindOf_94 rfl ?_
  exact z_iret eX4_kindOf_95 rfl rfl ⟨_, rfl, rfl, rfl⟩
set_option maxHeartbeats 1000000 in
set_option maxRecDepth 100000 in
theorem s4_kindOf_115 {h : List zC} : Mi mX4_kindOf 1 [.int (nI (115))] h (fun r h' => r = nI 2 ∧ h' = h) := by
  refine Mi.of (by decide) rfl (Nat.le_of_ble_eq_true rfl) ?_
  refine r_iload_n eX4_kindOf_0 rfl rfl ?_
  refine r_tabIn (off := 95) (tgt := 96) eX4_kindOf_1 (by decide) (by decide) (by decide) (by decide) ?_
  refine n_iconst 2 eX4_kindOf_96 rfl ?_
  exact z_iret eX4_kindOf_97 rfl rfl ⟨_, rfl, rfl, rfl⟩
set_option maxHeartbeats 1000000 in
set_option maxRecDepth 100000 in
theorem s4_kindOf_116 {h : List zC} : Mi mX4_kindOf 1 [.int (nI (116))] h (fun r h' => r = nI 3 ∧ h' = h) := by
  refine Mi.of (by decide) rfl (Nat.le_of_ble_eq_true rfl) ?_
  refine r_iload_n eX4_kindOf_0 rfl rfl ?_
  refine r_tabIn (off := 97) (tgt := 98) eX4_kindOf_1 (by decide) (by decide) (by decide) (by decide) ?_
  refine n_iconst 3 eX4_kindOf_98 rfl ?_
  exact z_iret eX4_kindOf_99 rfl rfl ⟨_, rfl, rfl, rfl⟩
set_option maxHeartbeats 1000000 in
set_option maxRecDepth 100000 in
theorem s4_kindOf_98 {h : List zC} : Mi mX4_kindOf 1 [.int (nI (98))] h (fun r h' => r = nI 4 ∧ h' = h) := by
  refine Mi.of (by decide) rfl (Nat.le_of_ble_eq_true rfl) ?_
  refine r_iload_n eX4_kindOf_0 rfl rfl ?_
  refine r_tabIn (off := 99) (tgt := 100) eX4_kindOf_1 (by decide) (by decide) (by decide) (by decide) ?_
  refine n_iconst 4 eX4_kindOf_100 rfl ?_
  exact z_iret eX4_kindOf_101 rfl rfl ⟨_, rfl, rfl, rfl⟩
set_option maxHeartbeats 1000000 in
set_option maxRecDepth 100000 in
theorem s4_kindOf_104 {h : List zC} : Mi mX4_kindOf 1 [.int (nI (104))] h (fun r h' => r = nI 5 ∧ h' = h) := by
  refine Mi.of (by decide) rfl (Nat.le_of_ble_eq_true rfl) ?_
  refine r_iload_n eX4_kindOf_0 rfl rfl ?_
  refine r_tabIn (off := 101) (tgt := 102) eX4_kindOf_1 (by decide) (by decide) (by decide) (by decide) ?_
  refine n_iconst 5 eX4_kindOf_102 rfl ?_
  exact z_iret eX4_kindOf_103 rfl rfl ⟨_, rfl, rfl, rfl⟩
set_option maxHeartbeats 1000000 in
set_option maxRecDepth 100000 in
theorem s4_kindOf_o {h : List zC} {x : Int32} (hx : x.toInt < 98 ∨ 116 < x.toInt) : Mi mX4_kindOf 1 [.int (x)] h (fun r h' => r = (-9) ∧ h' = h) := by
  refine Mi.of (by decide) rfl (Nat.le_of_ble_eq_true rfl) ?_
  refine r_iload_n eX4_kindOf_0 rfl rfl ?_
  refine r_tabOut (tgt := 104) eX4_kindOf_1 hx (by decide) ?_
  refine r_bipush (v := (-9)) eX4_kindOf_104 rfl ?_
  exact z_iret eX4_kindOf_106 rfl rfl ⟨_, rfl, rfl, rfl⟩
set_option maxHeartbeats 1000000 in
set_option maxRecDepth 100000 in
theorem s4_kindOf_m {h : List zC} {c : Nat} (h1 : 98 ≤ c) (h2 : c ≤ 116) (h3 : zkd c = none) : Mi mX4_kindOf 1 [.int (nI (c))] h (fun r h' => r = (-9) ∧ h' = h) := by
  have ho : (#[99, 103, 103, 103, 103, 103, 101, 103, 103, 103, 103, 103, 103, 103, 91, 93, 103, 95, 97] : Array Int)[c - 98]? = some 103 := by
    have : ∀ j, j < 19 → zkd (98 + j) = none → (#[99, 103, 103, 103, 103, 103, 101, 103, 103, 103, 103, 103, 103, 103, 91, 93, 103, 95, 97] : Array Int)[j]? = some 103 := by decide
    exact this (c - 98) (by omega) (by rw [show 98 + (c - 98) = c by omega]; exact h3)
  refine Mi.of (by decide) rfl (Nat.le_of_ble_eq_true rfl) ?_
  refine r_iload_n eX4_kindOf_0 rfl rfl ?_
  refine r_tabIn (off := 103) (tgt := 104) eX4_kindOf_1 (by rw [nI_toInt (by omega)]; omega) (by rw [nI_toInt (by omega)]; omega) (by rw [nI_toInt (by omega), show ((c : Int) - 98).toNat = c - 98 by omega]; exact ho) (by decide) ?_
  refine r_bipush (v := (-9)) eX4_kindOf_104 rfl ?_
  exact z_iret eX4_kindOf_106 rfl rfl ⟨_, rfl, rfl, rfl⟩
theorem s4_kindOf {h : List zC} {c : Nat} (hc : c < 2 ^ 31) : Mi mX4_kindOf 1 [.int (nI c)] h (fun r h' => r = zor (zkd c) ∧ h' = h) := by
  by_cases h0 : 98 ≤ c ∧ c ≤ 116
  · cases h3 : zkd c with
    | none => exact s4_kindOf_m h0.1 h0.2 h3
    | some x =>
      unfold zkd at h3
      split at h3
      · rename_i h9; subst h9; cases h3; exact s4_kindOf_112
      · split at h3
        · rename_i h9; subst h9; cases h3; exact s4_kindOf_113
        · split at h3
          · rename_i h9; subst h9; cases h3; exact s4_kindOf_115
          · split at h3
            · rename_i h9; subst h9; cases h3; exact s4_kindOf_116
            · split at h3
              · rename_i h9; subst h9; cases h3; exact s4_kindOf_98
              · split at h3
                · rename_i h9; subst h9; cases h3; exact s4_kindOf_104
                · cases h3
  · have h3 : zkd c = none := by
      unfold zkd
      repeat' split
      all_goals first | rfl | omega
    rw [h3]
    exact s4_kindOf_o (by rw [nI_toInt hc]; omega)
set_option maxHeartbeats 1000000 in
set_option maxRecDepth 100000 in
theorem s4_rkind_y {t : zMod} {u : zCls} (hta : mg_ta t ≤ 80) (htp : ∀ i, mg_tp t i ≤ 255) {x : Nat} (ha : mg_at t < mg_ta t) (hk : kO (mg_tp t) (mg_ta t) (mg_at t) = some x) : Mi mX4_readsKind 4 [.ref 0] (hA t u) (fun r h' => r = nI (kB (mg_tp t) (mg_ta t) (mg_at t)) ∧ h' = hA (mg_re t, mg_s t, mg_im t, mg_rd t, mg_ii t, mg_tp t, (upd (mg_tl t) 0 (nI (kV (mg_tp t) (mg_ta t) (mg_at t)))), mg_ta t, (kE (mg_tp t) (mg_ta t) (mg_at t)), mg_ou t, mg_op t, mg_br t, mg_nw t, mg_fs t, mg_bc t, mg_kr t, mg_rw t, mg_rc t) u) := by
  have hb := htp (mg_at t)
  have hkk : zkd (mg_tp t (mg_at t)) = some x := by unfold kO at hk; rw [if_pos ha] at hk; exact hk
  have hx9 : x ≤ 5 := by have := kV_le (mg_tp t) (mg_ta t) (mg_at t); unfold kV at this; rw [hk] at this; exact this
  refine Mi.of (by decide) rfl (Nat.le_of_ble_eq_true rfl) ?_
  refine r_aload_n eX4_readsKind_0 rfl rfl ?_
  refine r_getf (v := .ref 6) eX4_readsKind_1 fX4_25 rfl rfl ?_
  refine n_iconst 0 eX4_readsKind_4 rfl ?_
  refine r_aload_n eX4_readsKind_5 rfl rfl ?_
  refine r_callVi0 eX4_readsKind_6 lX4_59 (Or.inl ⟨_, _, _, rfl, rfl, rfl⟩) (s4_sign_y (t := t) (u := u) hta htp ha) (by omega) (Nat.le_of_ble_eq_true rfl) (fun r1 h1 hq => ?_)
  obtain ⟨rfl, rfl⟩ := (show r1 = nI (mg_tp t (mg_at t)) ∧ h1 = hA t u from hq)
  refine r_callSi1 eX4_readsKind_9 lX4_63 (s4_kindOf (by omega)) (by omega) (Nat.le_of_ble_eq_true rfl) (fun r1 h1 hq => ?_)
  obtain ⟨rfl, rfl⟩ := hq
  refine z_top (y := nI (x)) (by rw [hkk]; rfl) ?_
  refine z_h (h' := hA (mg_re t, mg_s t, mg_im t, mg_rd t, mg_ii t, mg_tp t, mg_tl t, mg_ta t, mg_at t, mg_ou t, mg_op t, mg_br t, mg_nw t, mg_fs t, mg_bc t, mg_kr t, mg_rw t, mg_rc t) u) rfl ?_
  refine mw_tl (j := 0) eX4_readsKind_12 rfl (by omega) ?_
  refine r_aload_n eX4_readsKind_13 rfl rfl ?_
  refine r_getf (v := .ref 6) eX4_readsKind_14 fX4_25 rfl rfl ?_
  refine n_iconst 0 eX4_readsKind_17 rfl ?_
  refine r_iald (f := (upd (mg_tl t) (0) (nI (x)))) (j := 0) eX4_readsKind_18 rfl rfl (by omega) (by decide) ?_
  refine z_top (y := nI (x)) (by rw [zupd_s]) ?_
  refine z_top (y := nI (x)) (rfl) ?_
  refine n_if_ge eX4_readsKind_19 (by omega) ?_
  refine r_aload_n eX4_readsKind_24 rfl rfl ?_
  refine r_dup eX4_readsKind_25 rfl ?_
  refine r_getf (v := .int (nI (mg_at t))) eX4_readsKind_26 fX4_56 rfl rfl ?_
  refine n_iconst 1 eX4_readsKind_29 rfl ?_
  refine n_add eX4_readsKind_30 ?_
  refine mp_at (v := (mg_at t) + 1) eX4_readsKind_31 fX4_56 rfl ?_
  refine n_iconst 1 eX4_readsKind_34 rfl ?_
  have q1 : kB (mg_tp t) (mg_ta t) (mg_at t) = 1 := by unfold kB; rw [hk]; rfl
  have q2 : kE (mg_tp t) (mg_ta t) (mg_at t) = mg_at t + 1 := by unfold kE; rw [hk]; rfl
  rw [q1, q2]
  rw [show kV (mg_tp t) (mg_ta t) (mg_at t) = x by unfold kV; rw [hk]; rfl]
  exact z_iret eX4_readsKind_35 rfl rfl ⟨_, rfl, rfl, rfl⟩
theorem zneg9 : (-9 : Int32) < 0 := by decide
set_option maxHeartbeats 1000000 in
set_option maxRecDepth 100000 in
theorem s4_rkind_n1 {t : zMod} {u : zCls} (hta : mg_ta t ≤ 80) (htp : ∀ i, mg_tp t i ≤ 255) (ha : mg_at t < mg_ta t) (hk : kO (mg_tp t) (mg_ta t) (mg_at t) = none) : Mi mX4_readsKind 4 [.ref 0] (hA t u) (fun r h' => r = nI (kB (mg_tp t) (mg_ta t) (mg_at t)) ∧ h' = hA (mg_re t, mg_s t, mg_im t, mg_rd t, mg_ii t, mg_tp t, (upd (mg_tl t) 0 (-9)), mg_ta t, (kE (mg_tp t) (mg_ta t) (mg_at t)), mg_ou t, mg_op t, mg_br t, mg_nw t, mg_fs t, mg_bc t, mg_kr t, mg_rw t, mg_rc t) u) := by
  have hb := htp (mg_at t)
  have hkk : zkd (mg_tp t (mg_at t)) = none := by unfold kO at hk; rw [if_pos ha] at hk; exact hk
  refine Mi.of (by decide) rfl (Nat.le_of_ble_eq_true rfl) ?_
  refine r_aload_n eX4_readsKind_0 rfl rfl ?_
  refine r_getf (v := .ref 6) eX4_readsKind_1 fX4_25 rfl rfl ?_
  refine n_iconst 0 eX4_readsKind_4 rfl ?_
  refine r_aload_n eX4_readsKind_5 rfl rfl ?_
  refine r_callVi0 eX4_readsKind_6 lX4_59 (Or.inl ⟨_, _, _, rfl, rfl, rfl⟩) (s4_sign_y (t := t) (u := u) hta htp ha) (by omega) (Nat.le_of_ble_eq_true rfl) (fun r1 h1 hq => ?_)
  obtain ⟨rfl, rfl⟩ := (show r1 = nI (mg_tp t (mg_at t)) ∧ h1 = hA t u from hq)
  refine r_callSi1 eX4_readsKind_9 lX4_63 (s4_kindOf (by omega)) (by omega) (Nat.le_of_ble_eq_true rfl) (fun r1 h1 hq => ?_)
  obtain ⟨rfl, rfl⟩ := hq
  refine z_top (y := (-9)) (by rw [hkk]; rfl) ?_
  refine z_h (h' := hA (mg_re t, mg_s t, mg_im t, mg_rd t, mg_ii t, mg_tp t, mg_tl t, mg_ta t, mg_at t, mg_ou t, mg_op t, mg_br t, mg_nw t, mg_fs t, mg_bc t, mg_kr t, mg_rw t, mg_rc t) u) rfl ?_
  refine mw_tl (j := 0) eX4_readsKind_12 rfl (by omega) ?_
  refine r_aload_n eX4_readsKind_13 rfl rfl ?_
  refine r_getf (v := .ref 6) eX4_readsKind_14 fX4_25 rfl rfl ?_
  refine n_iconst 0 eX4_readsKind_17 rfl ?_
  refine r_iald (f := (upd (mg_tl t) (0) ((-9)))) (j := 0) eX4_readsKind_18 rfl rfl (by omega) (by decide) ?_
  refine z_top (y := (-9)) (by rw [zupd_s]) ?_
  refine r_if_ge eX4_readsKind_19 (fun hc19 => absurd hc19 (by decide)) (fun hc19 => ?_)
  refine n_iconst 0 eX4_readsKind_22 rfl ?_
  have q1 : kB (mg_tp t) (mg_ta t) (mg_at t) = 0 := by unfold kB; rw [hk]; rfl
  have q2 : kE (mg_tp t) (mg_ta t) (mg_at t) = mg_at t := by unfold kE; rw [hk]; rfl
  rw [q1, q2]
  exact z_iret eX4_readsKind_23 rfl rfl ⟨_, rfl, rfl, rfl⟩
set_option maxHeartbeats 1000000 in
set_option maxRecDepth 100000 in
theorem s4_rkind_n2 {t : zMod} {u : zCls} (hta : mg_ta t ≤ 80) (htp : ∀ i, mg_tp t i ≤ 255) (hat : mg_at t ≤ mg_ta t) (ha : ¬ mg_at t < mg_ta t) : Mi mX4_readsKind 4 [.ref 0] (hA t u) (fun r h' => r = nI (kB (mg_tp t) (mg_ta t) (mg_at t)) ∧ h' = hA (mg_re t, mg_s t, mg_im t, mg_rd t, mg_ii t, mg_tp t, (upd (mg_tl t) 0 (-9)), mg_ta t, (kE (mg_tp t) (mg_ta t) (mg_at t)), mg_ou t, mg_op t, mg_br t, mg_nw t, mg_fs t, mg_bc t, mg_kr t, mg_rw t, mg_rc t) u) := by
  have hk : kO (mg_tp t) (mg_ta t) (mg_at t) = none := if_neg ha
  refine Mi.of (by decide) rfl (Nat.le_of_ble_eq_true rfl) ?_
  refine r_aload_n eX4_readsKind_0 rfl rfl ?_
  refine r_getf (v := .ref 6) eX4_readsKind_1 fX4_25 rfl rfl ?_
  refine n_iconst 0 eX4_readsKind_4 rfl ?_
  refine r_aload_n eX4_readsKind_5 rfl rfl ?_
  refine r_callVi0 eX4_readsKind_6 lX4_59 (Or.inl ⟨_, _, _, rfl, rfl, rfl⟩) (s4_sign_n (t := t) (u := u) hta htp (by omega) ha) (by omega) (Nat.le_of_ble_eq_true rfl) (fun r1 h1 hq => ?_)
  obtain ⟨rfl, rfl⟩ := (show r1 = (-1) ∧ h1 = hA t u from hq)
  refine r_callSi1 eX4_readsKind_9 lX4_63 (s4_kindOf_o (by decide)) (by omega) (Nat.le_of_ble_eq_true rfl) (fun r1 h1 hq => ?_)
  obtain ⟨rfl, rfl⟩ := hq
  refine z_h (h' := hA (mg_re t, mg_s t, mg_im t, mg_rd t, mg_ii t, mg_tp t, mg_tl t, mg_ta t, mg_at t, mg_ou t, mg_op t, mg_br t, mg_nw t, mg_fs t, mg_bc t, mg_kr t, mg_rw t, mg_rc t) u) rfl ?_
  refine mw_tl (j := 0) eX4_readsKind_12 rfl (by omega) ?_
  refine r_aload_n eX4_readsKind_13 rfl rfl ?_
  refine r_getf (v := .ref 6) eX4_readsKind_14 fX4_25 rfl rfl ?_
  refine n_iconst 0 eX4_readsKind_17 rfl ?_
  refine r_iald (f := (upd (mg_tl t) (0) ((-9)))) (j := 0) eX4_readsKind_18 rfl rfl (by omega) (by decide) ?_
  refine z_top (y := (-9)) (by rw [zupd_s]) ?_
  refine r_if_ge eX4_readsKind_19 (fun hc19 => absurd hc19 (by decide)) (fun hc19 => ?_)
  refine n_iconst 0 eX4_readsKind_22 rfl ?_
  have q1 : kB (mg_tp t) (mg_ta t) (mg_at t) = 0 := by unfold kB; rw [hk]; rfl
  have q2 : kE (mg_tp t) (mg_ta t) (mg_at t) = mg_at t := by unfold kE; rw [hk]; rfl
  rw [q1, q2]
  exact z_iret eX4_readsKind_23 rfl rfl ⟨_, rfl, rfl, rfl⟩
theorem s4_readsKind {t : zMod} {u : zCls} (hta : mg_ta t ≤ 80) (htp : ∀ i, mg_tp t i ≤ 255) (hat : mg_at t ≤ mg_ta t) : Mi mX4_readsKind 4 [.ref 0] (hA t u) (fun r h' => ∃ L : Nat → Int32, (0 < kB (mg_tp t) (mg_ta t) (mg_at t) → L = (upd (mg_tl t) 0 (nI (kV (mg_tp t) (mg_ta t) (mg_at t))))) ∧ r = nI (kB (mg_tp t) (mg_ta t) (mg_at t)) ∧ h' = hA (mg_re t, mg_s t, mg_im t, mg_rd t, mg_ii t, mg_tp t, L, mg_ta t, (kE (mg_tp t) (mg_ta t) (mg_at t)), mg_ou t, mg_op t, mg_br t, mg_nw t, mg_fs t, mg_bc t, mg_kr t, mg_rw t, mg_rc t) u) := by
  by_cases ha : mg_at t < mg_ta t
  · cases hk : kO (mg_tp t) (mg_ta t) (mg_at t) with
    | none => exact (s4_rkind_n1 hta htp ha hk).mono (fun r h' q => ⟨_, fun z => by unfold kB at z; rw [hk] at z; exact absurd z (by decide), q.1, q.2⟩)
    | some x => exact (s4_rkind_y hta htp ha hk).mono (fun r h' q => ⟨_, fun _ => rfl, q.1, q.2⟩)
  · exact (s4_rkind_n2 hta htp hat ha).mono (fun r h' q => ⟨_, fun z => by unfold kB kO at z; rw [if_neg ha] at z; exact absurd z (by decide), q.1, q.2⟩)
