/-! WHO COMES OUT AT ALL -/
theorem zfst_all {G : Nat → Bool} {c : Nat → Nat} {NV : Nat} : ∀ {n : Nat}, (∀ p, p < n → G p = true) → zfst G c NV n = none
  | 0, _ => rfl
  | n + 1, h => by
    rw [zfst, if_neg (fun z => by rw [h n (by omega)] at z; cases z.1)]
    exact zfst_all fun p hp => h p (by omega)
section Run
variable {way : Nat → Nat → Nat} {nd pc : Nat → Nat} {hold : Nat → Nat → Bool} {W : Nat → Bool} {up win : Nat → Nat} {NV n : Nat}
theorem zrun_all : ∀ (k G : Nat) (ou op : Nat → Nat), zleft G n ≤ k → (∀ p, p < n → ∀ op' : Nat → Nat, (∀ i, op' i ≤ op i) → zcand W up win op' p < NV) → (∀ i, i < n → G.testBit i = true → ou i < NV) → ∀ i, i < n → (zrun way nd pc hold W up win NV n k G ou op).1.testBit i = true ∧ (zrun way nd pc hold W up win NV n k G ou op).2.1 i < NV
  | 0, G, ou, op, hk, hc, ho, i, hi => by
    have hb := zleft_0 (Nat.le_zero.mp hk) i hi
    exact ⟨hb, ho i hi hb⟩
  | k + 1, G, ou, op, hk, hc, ho, i, hi => by
    cases hz : zfst G.testBit (zcand W up win op) NV n with
    | none =>
      rw [zrun_none hz]
      have hb : G.testBit i = true := by
        cases hg : G.testBit i with
        | true => rfl
        | false =>
          have h1 := zfst_none hz i hi hg
          have h2 := hc i hi op (fun _ => Nat.le_refl _)
          omega
      exact ⟨hb, ho i hi hb⟩
    | some p =>
      rw [zrun_some hz]
      obtain ⟨hp, hg, hcl⟩ := zfst_lt hz
      have hl := zleft_or (n := n) hg
      rw [if_pos hp] at hl
      refine zrun_all k _ _ _ (by omega) (fun q hq op' ho' => hc q hq op' (fun j => Nat.le_trans (ho' j) (zgo_op n j))) (fun j hj hb => ?_) i hi
      by_cases e : j = p
      · rw [e, zu_s]; exact hcl
      · rw [zu_n e]
        rw [zor_bit] at hb
        simp only [e, decide_false, Bool.or_false] at hb
        exact ho j hj hb
theorem zrun_end : ∀ (k G : Nat) (ou op : Nat → Nat), zleft G n ≤ k → zfst (zrun way nd pc hold W up win NV n k G ou op).1.testBit (zcand W up win (zrun way nd pc hold W up win NV n k G ou op).2.2) NV n = none
  | 0, G, ou, op, hk => zfst_all (zleft_0 (Nat.le_zero.mp hk))
  | k + 1, G, ou, op, hk => by
    cases hz : zfst G.testBit (zcand W up win op) NV n with
    | none => rw [zrun_none hz]; exact hz
    | some p =>
      rw [zrun_some hz]
      obtain ⟨hp, hg, hcl⟩ := zfst_lt hz
      have hl := zleft_or (n := n) hg
      rw [if_pos hp] at hl
      exact zrun_end k _ _ _ (by omega)
/-- those whom nobody lets out -/
theorem zrun_in {N : Nat → Prop} (hN : ∀ i, i < n → N i → W i = false ∧ NV ≤ win i ∧ ∀ q, q < n → ¬ N q → hold q i = false) : ∀ (k G : Nat) (ou op : Nat → Nat), (∀ i, i < n → N i → G.testBit i = false ∧ op i = NV) → ∀ i, i < n → N i → (zrun way nd pc hold W up win NV n k G ou op).1.testBit i = false
  | 0, G, ou, op, h, i, hi, hNi => (h i hi hNi).1
  | k + 1, G, ou, op, h, i, hi, hNi => by
    cases hz : zfst G.testBit (zcand W up win op) NV n with
    | none => rw [zrun_none hz]; exact (h i hi hNi).1
    | some p =>
      rw [zrun_some hz]
      obtain ⟨hp, hg, hcl⟩ := zfst_lt hz
      have hpN : ¬ N p := fun hNp => by
        obtain ⟨a1, a2, a3⟩ := hN p hp hNp
        have a4 := (h p hp hNp).2
        unfold zcand at hcl
        rw [if_neg (by rw [a1]; decide)] at hcl
        omega
      refine zrun_in hN k _ _ _ (fun j hj hNj => ⟨?_, ?_⟩) i hi hNi
      · rw [zor_bit, (h j hj hNj).1]
        have e : ¬ j = p := fun e => hpN (e ▸ hNj)
        simp [e]
      · have hh := (hN j hj hNj).2.2 p hp hpN
        rw [(zgq_is (way := way) (nd := nd) (pc := pc) (hold := hold) (oq := fun _ => 0) n j).1, if_neg (fun z => by rw [hh] at z; cases z.2.1)]
        exact (h j hj hNj).2
end Run
theorem zmx_ge {f : Nat → Nat} : ∀ {n i : Nat}, i < n → f i ≤ zmx f n
  | 0, i, h => by omega
  | n + 1, i, h => by
    rw [zmx]
    by_cases e : i = n
    · subst e; omega
    · have := zmx_ge (f := f) (n := n) (i := i) (by omega)
      omega
theorem zmx_ex {f : Nat → Nat} {v : Nat} (hv : 0 < v) : ∀ {n : Nat}, zmx f n = v → ∃ i, i < n ∧ f i = v
  | 0, h => by rw [zmx] at h; omega
  | n + 1, h => by
    rw [zmx] at h
    by_cases e : f n = v
    · exact ⟨n, by omega, e⟩
    · obtain ⟨i, h1, h2⟩ := zmx_ex hv (n := n) (f := f) (by omega)
      exact ⟨i, by omega, h2⟩
theorem tAll_full {T : zTown} (nw br : Nat) : tAll (tWt T (2 ^ tg_people T - 1)) nw br < 1000000 := by
  have h := zrun_all (way := tWay T) (nd := tNd T) (pc := tPc T) (hold := tHd T) (W := (2 ^ tg_people T - 1).testBit) (up := tUp T) (win := tWin T nw 1000000) (NV := 1000000) (n := tg_people T) (tg_people T) 0 (fun _ => 1000000) (sOp0 br (tg_people T) (fun _ => 1000000)) (zleft_le 0 _) (fun p hp op' _ => by
    unfold zcand
    rw [if_pos (by rw [Nat.testBit_two_pow_sub_one]; exact decide_eq_true hp)]
    omega) (fun i hi hb => by rw [Nat.zero_testBit] at hb; cases hb)
  have h2 : tAll (tWt T (2 ^ tg_people T - 1)) nw br ≤ 999999 := zmx_le fun i hi => by
    have h3 := h i hi
    show (if (tRun (tWt T (2 ^ tg_people T - 1)) nw br).1.testBit i = true then (tRun (tWt T (2 ^ tg_people T - 1)) nw br).2.1 i else 1000000) ≤ 999999
    have h4 : (tRun (tWt T (2 ^ tg_people T - 1)) nw br).1.testBit i = true := h3.1
    have h5 : (tRun (tWt T (2 ^ tg_people T - 1)) nw br).2.1 i < 1000000 := h3.2
    rw [if_pos h4]
    omega
  omega
theorem tUp_le {T : zTown} (hT : tOk T) {p : Nat} (hp : p < tg_people T) : tUp T p ≤ 2000 := by
  obtain ⟨b1, b2, b3, b4, b5, b6, b7, b8⟩ := (tAlike (nw := 0) (NV := 1000000) (T' := T) (hold' := tHd T) hT (tEq.rfl' T) (fun _ _ _ _ => rfl)).2.1 p hp
  exact b7
theorem tAll_brk {T : zTown} (hT : tOk T) (nw : Nat) : tAll T nw (2 ^ tg_people T - 1) < 1000000 := by
  have h := zrun_all (way := tWay T) (nd := tNd T) (pc := tPc T) (hold := tHd T) (W := (tg_watch T).testBit) (up := tUp T) (win := tWin T nw 1000000) (NV := 1000000) (n := tg_people T) (tg_people T) 0 (fun _ => 1000000) (sOp0 (2 ^ tg_people T - 1) (tg_people T) (fun _ => 1000000)) (zleft_le 0 _) (fun p hp op' ho => by
    have h1 := ho p
    unfold sOp0 zop0 at h1
    rw [if_pos hp, if_pos (by rw [Nat.testBit_two_pow_sub_one]; exact decide_eq_true hp)] at h1
    have h2 := tUp_le hT hp
    unfold zcand
    split <;> omega) (fun i hi hb => by rw [Nat.zero_testBit] at hb; cases hb)
  have h2 : tAll T nw (2 ^ tg_people T - 1) ≤ 999999 := zmx_le fun i hi => by
    have h3 := h i hi
    show (if (tRun T nw (2 ^ tg_people T - 1)).1.testBit i = true then (tRun T nw (2 ^ tg_people T - 1)).2.1 i else 1000000) ≤ 999999
    have h4 : (tRun T nw (2 ^ tg_people T - 1)).1.testBit i = true := h3.1
    have h5 : (tRun T nw (2 ^ tg_people T - 1)).2.1 i < 1000000 := h3.2
    rw [if_pos h4]
    omega
  omega
theorem tRun_gone {T : zTown} {nw br i : Nat} (hT : tOk T) (hi : i < tg_people T) (hb : (tRun T nw br).1.testBit i = true) : (tRun T nw br).2.1 i ≤ 500000 := by
  have h7 := hT.1
  have hA := tAlike (nw := nw) (NV := 1000000) (T' := T) (hold' := tHd T) hT (tEq.rfl' T) (fun _ _ _ _ => rfl)
  have hr := (zrun_rel hA (tg_people T) 2000 0 (fun _ => 1000000) (fun _ => 1000000) (sOp0 br (tg_people T) (fun _ => 1000000)) (sOp0 br (tg_people T) (fun _ => 1000000)) (Nat.le_refl _) (by omega) (by omega) (fun j hj => by
    unfold sOp0
    rw [if_pos hj]
    unfold zop0 zV2
    split <;> omega) (fun j hj hb => by rw [Nat.zero_testBit] at hb; cases hb)).2.1 i hi hb
  have h2 : (tRun T nw br).2.1 i ≤ 2000 + 60000 * tg_people T := hr.2
  omega
/-- one who never comes out: no watcher, no window, nobody who comes out has his key -/
theorem tStuck {T : zTown} {nw i : Nat} (hT : tOk T) (hi : i < tg_people T) (h : tO T nw 0 i = 1000000) : (tg_watch T).testBit i = false ∧ 1000000 ≤ tWin T nw 1000000 i ∧ ∀ q, q < tg_people T → tO T nw 0 q < 1000000 → tHd T q i = false := by
  have h7 := hT.1
  have hA := tAlike (nw := nw) (NV := 1000000) (T' := T) (hold' := tHd T) hT (tEq.rfl' T) (fun _ _ _ _ => rfl)
  have hng : (tRun T nw 0).1.testBit i = false := by
    cases hb : (tRun T nw 0).1.testBit i with
    | false => rfl
    | true =>
      have h1 := tRun_gone hT hi hb
      unfold tO at h
      rw [if_pos hb] at h
      omega
  have hend : zfst (tRun T nw 0).1.testBit (zcand (tg_watch T).testBit (tUp T) (tWin T nw 1000000) (tRun T nw 0).2.2) 1000000 (tg_people T) = none := zrun_end (tg_people T) 0 _ _ (zleft_le 0 _)
  have hc := zfst_none hend i hi hng
  have hu := tUp_le hT hi
  have hJ := zrq_by (way := tWay T) (nd := tNd T) (pc := tPc T) (hold := tHd T) (W := (tg_watch T).testBit) (up := tUp T) (win := tWin T nw 1000000) (NV := 1000000) (n := tg_people T) h7 (fun a b ha hb => (hA.1 a b ha hb).2) (fun p hp => ⟨(hA.2.1 p hp).2.1, (hA.2.1 p hp).2.2.2.1⟩)
    (fun C p op hC hp ho => by
      obtain ⟨b1, b2, b3, b4, b5, b6, b7, b8⟩ := hA.2.1 p hp
      unfold zV2 at b8
      unfold zcand
      split
      · omega
      · omega) (by omega) (tg_people T) 0 2000 (fun _ => 1000000) (sOp0 0 (tg_people T) (fun _ => 1000000)) (fun _ => -9) (Nat.le_refl _) (by omega)
    (fun j hj => by unfold sOp0 zop0; rw [if_pos hj, Nat.zero_testBit]; exact Or.inr rfl)
    (fun d hd => ⟨fun p hp hb => (by rw [Nat.zero_testBit] at hb; cases hb), Or.inl ⟨by unfold sOp0 zop0; rw [if_pos hd, Nat.zero_testBit]; rfl, rfl, fun p hp hb => (by rw [Nat.zero_testBit] at hb; cases hb)⟩⟩)
  have hJi := (hJ i hi).1
  unfold zcand at hc
  have hwf : (tg_watch T).testBit i = false := by
    cases hw : (tg_watch T).testBit i with
    | false => rfl
    | true => rw [if_pos hw] at hc; omega
  rw [if_neg (by rw [hwf]; decide)] at hc
  refine ⟨hwf, by omega, fun q hq hqo => ?_⟩
  cases hh : tHd T q i with
  | false => rfl
  | true =>
    exfalso
    have hqb : (tRun T nw 0).1.testBit q = true := by
      refine Classical.byContradiction fun hb => ?_
      unfold tO at hqo
      rw [if_neg hb] at hqo
      omega
    have h1 := tRun_gone hT hq hqb
    have h2 : (tRun T nw 0).2.2 i ≤ zar (tWay T) (tNd T) (tPc T) (tHd T) ((tRun T nw 0).2.1 q) q i := hJi q hq hqb hh
    have h3 := (zgo_b (way := tWay T) (nd := tNd T q) (pc := tPc T q) (hold := tHd T q) (m0 := (tRun T nw 0).2.1 q) (op := fun _ => 0) (n := tg_people T) (fun a b ha hb => (hA.1 a b ha hb).2) (hA.2.1 q hq).2.1 (hA.2.1 q hq).2.2.2.1 hq (i + 1) (by omega)).1
    unfold zar at h2
    omega
theorem tO_in {T : zTown} {nw : Nat} {N : Nat → Prop} (hN : ∀ i, i < tg_people T → N i → (tg_watch T).testBit i = false ∧ 1000000 ≤ tWin T nw 1000000 i ∧ ∀ q, q < tg_people T → ¬ N q → tHd T q i = false) {i : Nat} (hi : i < tg_people T) (hNi : N i) : tO T nw 0 i = 1000000 := by
  have h : (tRun T nw 0).1.testBit i = false := zrun_in hN (tg_people T) 0 _ _ (fun j hj hNj => ⟨Nat.zero_testBit _, by unfold sOp0 zop0; rw [if_pos hj, Nat.zero_testBit]; rfl⟩) i hi hNi
  unfold tO
  rw [if_neg (by rw [h]; decide)]
/-- by whom all come out without windows, by them all come out -/
theorem tMono {T : zTown} (hT : tOk T) (h : tAll T 1 0 < 1000000) : tAll T 0 0 < 1000000 := by
  refine Classical.byContradiction fun hn => ?_
  have e1 : tAll T 0 0 = 1000000 := by
    have := tAll_is (nw := 0) (br := 0) hT
    omega
  obtain ⟨i, hi, h2⟩ := zmx_ex (by omega) e1
  have h3 := tO_in (T := T) (nw := 1) (N := fun q => tO T 0 0 q = 1000000) (fun j hj hNj => by
    obtain ⟨a1, a2, a3⟩ := tStuck hT hj hNj
    refine ⟨a1, ?_, fun q hq hNq => a3 q hq ?_⟩
    · unfold tWin
      rw [if_neg (fun z => absurd z.2 (by decide))]
      exact Nat.le_refl _
    · have := tO_is (nw := 0) (br := 0) hT hq
      have hNq2 : ¬ tO T 0 0 q = 1000000 := hNq
      omega) hi h2
  have h4 := zmx_ge (f := tO T 1 0) hi
  unfold tAll at h
  omega
/-! the fewest, the best, doors broken: in a town -/
def tFew (T : zTown) : Option Nat := zlea (zcnt 7) (fun s => decide (tAll (tWt T s) 1 0 < 1000000)) (2 ^ tg_people T)
def tBrk (T : zTown) : Option Nat := zlea (fun s => tCost T s) (fun s => decide (tAll T 0 s < 1000000)) (2 ^ tg_people T)
def tSoo (T : zTown) (c : Nat) : Option Nat := zsoo c (fun s => tAll (tWt T s) 0 0) (2 ^ tg_people T)
theorem zlea_ex {cost : Nat → Nat} {ok : Nat → Bool} {s : Nat} (hs : ok s = true) : ∀ {m : Nat}, s < m → ∃ g, zlea cost ok m = some g
  | 0, h => by omega
  | m + 1, h => by
    cases hz : zlea cost ok m with
    | none =>
      by_cases e : s = m
      · subst e
        rw [zlea_n hz, if_pos hs]
        exact ⟨_, rfl⟩
      · obtain ⟨g, hg⟩ := zlea_ex hs (cost := cost) (m := m) (by omega)
        rw [hz] at hg
        cases hg
    | some g =>
      rw [zlea_s hz]
      split
      · exact ⟨_, rfl⟩
      · exact ⟨_, rfl⟩
theorem zlea_ok {cost : Nat → Nat} {ok : Nat → Bool} : ∀ {m g : Nat}, zlea cost ok m = some g → ok g = true
  | 0, g, h => by cases h
  | m + 1, g, h => by
    cases hz : zlea cost ok m with
    | none =>
      rw [zlea_n hz] at h
      split at h
      · rename_i h1; cases h; exact h1
      · cases h
    | some b =>
      rw [zlea_s hz] at h
      split at h
      · rename_i h1; cases h; exact h1.2
      · cases h; exact zlea_ok hz
theorem zlea_cong {cost cost' : Nat → Nat} {ok ok' : Nat → Bool} : ∀ {m : Nat}, (∀ s, s < m → cost s = cost' s ∧ ok s = ok' s) → zlea cost ok m = zlea cost' ok' m
  | 0, _ => rfl
  | m + 1, h => by
    have ih := zlea_cong (m := m) (fun s hs => h s (by omega))
    obtain ⟨h1, h2⟩ := h m (by omega)
    cases hz : zlea cost ok m with
    | none => rw [zlea_n hz, zlea_n (ih ▸ hz), h2]
    | some b =>
      have hb := zlea_lt hz
      rw [zlea_s hz, zlea_s (ih ▸ hz), h1, h2, (h b (by omega)).1]
theorem zsoo_ex {c s : Nat} {val : Nat → Nat} (hs : zcnt 7 s = c) : ∀ {m : Nat}, s < m → ∃ g, zsoo c val m = some g
  | 0, h => by omega
  | m + 1, h => by
    cases hz : zsoo c val m with
    | none =>
      by_cases e : s = m
      · subst e
        rw [zsoo_n hz, if_pos hs]
        exact ⟨_, rfl⟩
      · obtain ⟨g, hg⟩ := zsoo_ex hs (val := val) (m := m) (by omega)
        rw [hz] at hg
        cases hg
    | some g =>
      rw [zsoo_s hz]
      split
      · exact ⟨_, rfl⟩
      · exact ⟨_, rfl⟩
theorem zsoo_min {c : Nat} {val : Nat → Nat} : ∀ {m g : Nat}, zsoo c val m = some g → ∀ s, s < m → zcnt 7 s = c → val g ≤ val s
  | 0, g, h, s, hs, _ => by omega
  | m + 1, g, h, s, hs, hc => by
    cases hz : zsoo c val m with
    | none =>
      rw [zsoo_n hz] at h
      by_cases e : s = m
      · subst e
        rw [if_pos hc] at h
        cases h; exact Nat.le_refl _
      · obtain ⟨g', hg⟩ := zsoo_ex hc (val := val) (m := m) (by omega)
        rw [hz] at hg
        cases hg
    | some b =>
      have ih := zsoo_min hz
      rw [zsoo_s hz] at h
      by_cases e : s = m
      · subst e
        split at h
        · cases h; exact Nat.le_refl _
        · rename_i hn
          cases h
          refine Nat.not_lt.mp fun hlt => hn ⟨hc, hlt⟩
      · have h1 := ih s (by omega) hc
        split at h
        · rename_i hy; cases h; omega
        · cases h; exact h1
theorem zsoo_cong {c : Nat} {val val' : Nat → Nat} : ∀ {m : Nat}, (∀ s, s < m → val s = val' s) → zsoo c val m = zsoo c val' m
  | 0, _ => rfl
  | m + 1, h => by
    have ih := zsoo_cong (c := c) (m := m) (fun s hs => h s (by omega))
    have h1 := h m (by omega)
    cases hz : zsoo c val m with
    | none => rw [zsoo_n hz, zsoo_n (ih ▸ hz)]
    | some b =>
      have hb := zsoo_lt hz
      rw [zsoo_s hz, zsoo_s (ih ▸ hz), h1, h b (by omega)]
theorem zpow_lt (n : Nat) : 2 ^ n - 1 < 2 ^ n := by
  have := Nat.two_pow_pos n
  omega
theorem tFew_ex (T : zTown) : ∃ g, tFew T = some g := zlea_ex (s := 2 ^ tg_people T - 1) (decide_eq_true (tAll_full 1 0)) (zpow_lt _)
theorem tBrk_ex {T : zTown} (hT : tOk T) : ∃ g, tBrk T = some g := zlea_ex (s := 2 ^ tg_people T - 1) (decide_eq_true (tAll_brk hT 0)) (zpow_lt _)
theorem tSoo_ex {T : zTown} {g : Nat} (hg : tFew T = some g) : ∃ b, tSoo T (zcnt 7 g) = some b := zsoo_ex (s := g) rfl (zlea_lt hg)
theorem tSoo_out {T : zTown} {g b : Nat} (hT : tOk T) (hg : tFew T = some g) (hb : tSoo T (zcnt 7 g) = some b) : tAll (tWt T b) 0 0 < 1000000 := by
  have h1 := of_decide_eq_true (zlea_ok hg)
  have h2 := tMono (tWt_ok hT (zlea_lt hg)) h1
  have h3 := zsoo_min hb g (zlea_lt hg) rfl
  exact Nat.lt_of_le_of_lt h3 h2
theorem zcnt_full : ∀ n, n < 8 → ∀ s, s < 128 → s < 2 ^ n - 1 → zcnt 7 s < zcnt 7 (2 ^ n - 1) := by decide +kernel
