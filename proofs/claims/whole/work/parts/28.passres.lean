/-! THE CLASS: what a pass over a prepared morning says of its town -/
abbrev zMp : Type := (Nat) × (Nat → Nat → Nat) × (Nat → Nat) × (Nat → Nat) × (Nat → Nat) × (Nat → Nat) × (Nat → Nat)
def pg_mp (t : zMp) : Nat := t.1
def pg_mw (t : zMp) : Nat → Nat → Nat := t.2.1
def pg_mu (t : zMp) : Nat → Nat := t.2.2.1
def pg_mn (t : zMp) : Nat → Nat := t.2.2.2.1
def pg_mi (t : zMp) : Nat → Nat := t.2.2.2.2.1
def pg_mc (t : zMp) : Nat → Nat := t.2.2.2.2.2.1
def pg_md (t : zMp) : Nat → Nat := t.2.2.2.2.2.2
abbrev zMr : Type := (Nat → Nat) × (Nat → Nat) × (Nat → Int32)
def qg_mo (t : zMr) : Nat → Nat := t.1
def qg_ms (t : zMr) : Nat → Nat := t.2.1
def qg_mq (t : zMr) : Nat → Int32 := t.2.2
def cMR (u : zCls) (M : zMp) (R : zMr) : zCls := (cg_let u, cg_lc u, cg_rt u, cg_rl u, cg_ra u, cg_rf u, cg_rn u, cg_rc u, cg_now u, cg_dra u, cg_kep u, cg_im u, (pg_mp M), (pg_mw M), (pg_mu M), (pg_mn M), (pg_mi M), (pg_mc M), (pg_md M), (qg_mo R), (qg_ms R), (qg_mq R), cg_se u, cg_sc u, cg_re u)
def pPr (M : zMp) (T : zTown) : Prop := pg_mp M = tg_people T ∧ ∀ p, p < tg_people T → (∀ h, h < tg_people T → pg_mw M p h = tWay T p h) ∧ pg_mu M p = tUp T p ∧ pg_mn M p = tNd T p ∧ pg_mi M p = tWin T 0 2147483647 p ∧ pg_mc M p = tPc T p ∧ pg_md M p < 128 ∧ ∀ d, d < tg_people T → (pg_md M p).testBit d = tHd T p d
def tWt (T : zTown) (w : Nat) : zTown := (tg_kind T, tg_wakes T, tg_takes T, tg_due T, tg_cost T, tg_people T, tg_door T, tg_held T, tg_keys T, w, tg_pace T, tg_ring T)
def qRs (R : zMr) (T : zTown) (nw br : Nat) : Prop := (∀ i, i < tg_people T → zV2 1000000 2147483647 500000 (tO T nw br i) (qg_mo R i)) ∧ (∀ i, qg_ms R i ≤ 2147483647) ∧ (br = 0 → ∀ i, i < tg_people T → qg_mq R i = zor (zfind (tBy T (tO T nw br) (tP T nw br i) i) (tg_people T)))
theorem tWt_ok {T : zTown} {x : Nat} (h : tOk T) (hx : x < 2 ^ tg_people T) : tOk (tWt T x) := ⟨h.1, h.2.1, h.2.2.1, hx, h.2.2.2.2.1, h.2.2.2.2.2⟩
theorem tWt_self (T : zTown) : tWt T (tg_watch T) = T := rfl
theorem pPr_zMo {u : zCls} {M : zMp} {R : zMr} {T : zTown} (hT : tOk T) (hM : pPr M T) : zMo (cMR u M R) := by
  obtain ⟨e0, hq⟩ := hM
  have hA := tAlike (nw := 0) (NV := 2147483647) (T' := T) (hold' := tHd T) hT (tEq.rfl' T) (fun _ _ _ _ => rfl)
  refine ⟨?_, fun p hp => ?_⟩
  · show pg_mp M ≤ 7
    rw [e0]; exact hT.1
  · have hp2 : p < tg_people T := by rw [← e0]; exact hp
    obtain ⟨q1, q2, q3, q4, q5, q6, q7⟩ := hq p hp2
    obtain ⟨b1, b2, b3, b4, b5, b6, b7, b8⟩ := hA.2.1 p hp2
    refine ⟨fun h hh => ?_, ?_, ?_, ?_, ?_, q6⟩
    · have hh2 : h < tg_people T := by rw [← e0]; exact hh
      show pg_mw M p h ≤ 7
      rw [q1 h hh2]; exact (hA.1 p h hp2 hh2).2
    · show pg_mu M p ≤ 2000
      rw [q2]; exact b7
    · show pg_mn M p ≤ 1000
      rw [q3]; exact b2
    · show pg_mc M p ≤ 1000
      rw [q5]; exact b4
    · show pg_mi M p ≤ 2000 ∨ pg_mi M p = 2147483647
      rw [q4]
      unfold zV2 at b8
      omega
/-- the morning's words are the town's -/
theorem pAlike {u : zCls} {M : zMp} {R : zMr} {T : zTown} {wa wd : Nat} (hT : tOk T) (hM : pPr M T) (hwd : wd < 2) : zAlike (tg_people T) 1000000 2147483647 2000 (tWay T) (cg_mw (cMR u M R)) (tNd T) (cg_mn (cMR u M R)) (tPc T) (cg_mc (cMR u M R)) (tHd T) (cHd (cMR u M R)) wa.testBit wa.testBit (tUp T) (cg_mu (cMR u M R)) (tWin T (1 - wd) 1000000) (cWin (cMR u M R) wd) := by
  obtain ⟨e0, hq⟩ := hM
  have hA := tAlike (nw := 1 - wd) (NV := 2147483647) (T' := T) (hold' := tHd T) hT (tEq.rfl' T) (fun _ _ _ _ => rfl)
  refine ⟨fun a b ha hb => ⟨((hq a ha).1 b hb).symm, (hA.1 a b ha hb).2⟩, fun p hp => ?_, fun p d hp hd => ((hq p hp).2.2.2.2.2.2 d hd).symm, hT.1⟩
  obtain ⟨q1, q2, q3, q4, q5, q6, q7⟩ := hq p hp
  obtain ⟨b1, b2, b3, b4, b5, b6, b7, b8⟩ := hA.2.1 p hp
  refine ⟨q3.symm, b2, q5.symm, b4, rfl, q2.symm, b7, ?_⟩
  show zV2 1000000 2147483647 2000 (tWin T (1 - wd) 1000000 p) (if wd = 1 then pg_mi M p else 2147483647)
  by_cases e : wd = 1
  · subst e
    rw [if_pos rfl, q4]
    exact b8
  · rw [if_neg e]
    have e2 : 1 - wd = 1 := by omega
    rw [e2]
    unfold tWin
    rw [if_neg (fun z => absurd z.2 (by decide))]
    exact Or.inr ⟨rfl, rfl⟩
theorem zif_congr {α : Type} {c d : Prop} [Decidable c] [Decidable d] {x y : α} (h : c ↔ d) : (if c then x else y) = (if d then x else y) := by
  by_cases hc : c
  · rw [if_pos hc, if_pos (h.mp hc)]
  · rw [if_neg hc, if_neg (fun z => hc (h.mpr z))]
section Run
variable {way : Nat → Nat → Nat} {nd pc : Nat → Nat} {hold : Nat → Nat → Bool} {W : Nat → Bool} {up win : Nat → Nat} {NV n : Nat}
theorem zrun_mono {i : Nat} : ∀ (k G : Nat) (ou op : Nat → Nat), G.testBit i = true → (zrun way nd pc hold W up win NV n k G ou op).1.testBit i = true
  | 0, G, ou, op, h => h
  | k + 1, G, ou, op, h => by
    cases hz : zfst G.testBit (zcand W up win op) NV n with
    | none => rw [zrun_none hz]; exact h
    | some p =>
      rw [zrun_some hz]
      refine zrun_mono k _ _ _ ?_
      rw [zor_bit, h]; rfl
theorem zrun_ou {i : Nat} : ∀ (k G : Nat) (ou op : Nat → Nat), (zrun way nd pc hold W up win NV n k G ou op).1.testBit i = false → (zrun way nd pc hold W up win NV n k G ou op).2.1 i = ou i
  | 0, G, ou, op, h => rfl
  | k + 1, G, ou, op, h => by
    cases hz : zfst G.testBit (zcand W up win op) NV n with
    | none => rw [zrun_none hz]
    | some p =>
      rw [zrun_some hz] at h ⊢
      rw [zrun_ou k _ _ _ h]
      refine zu_n fun e => ?_
      have := zrun_mono (way := way) (nd := nd) (pc := pc) (hold := hold) (W := W) (up := up) (win := win) (NV := NV) (n := n) (i := i) k (G ||| 1 * 2 ^ p) (va_up ou p (zcand W up win op p)) (zgo way (nd p) (pc p) (hold p) (zcand W up win op p) p op n).2.2 (by rw [zor_bit, e]; simp)
      rw [this] at h
      cases h
theorem zrun_op {i : Nat} : ∀ (k G : Nat) (ou op : Nat → Nat), (zrun way nd pc hold W up win NV n k G ou op).2.2 i ≤ op i
  | 0, G, ou, op => Nat.le_refl _
  | k + 1, G, ou, op => by
    cases hz : zfst G.testBit (zcand W up win op) NV n with
    | none => rw [zrun_none hz]; exact Nat.le_refl _
    | some p =>
      rw [zrun_some hz]
      exact Nat.le_trans (zrun_op k _ _ _) (zgo_op n i)
/-- at which minute p, out at m, has opened d -/
def zar (way : Nat → Nat → Nat) (nd pc : Nat → Nat) (hold : Nat → Nat → Bool) (m p d : Nat) : Nat := (zgo way (nd p) (pc p) (hold p) m p (fun _ => 0) (d + 1)).1
theorem zgo_12 {way : Nat → Nat → Nat} {nd pc : Nat} {hold : Nat → Bool} {m0 p : Nat} {op op' : Nat → Nat} : ∀ d, (zgo way nd pc hold m0 p op d).1 = (zgo way nd pc hold m0 p op' d).1 ∧ (zgo way nd pc hold m0 p op d).2.1 = (zgo way nd pc hold m0 p op' d).2.1
  | 0 => ⟨rfl, rfl⟩
  | d + 1 => by
    obtain ⟨i1, i2⟩ := zgo_12 (way := way) (nd := nd) (pc := pc) (hold := hold) (m0 := m0) (p := p) (op := op) (op' := op') d
    rw [zgo, zgo, zgs, zgs]
    by_cases hb : hold d = true
    · rw [if_pos hb, if_pos hb]
      exact ⟨by dsimp only; rw [i1, i2], rfl⟩
    · rw [if_neg hb, if_neg hb]
      exact ⟨i1, i2⟩
theorem zgq_is {m p : Nat} {op : Nat → Nat} {oq : Nat → Int32} : ∀ (dd i : Nat), (zgo way (nd p) (pc p) (hold p) m p op dd).2.2 i = (if i < dd ∧ hold p i = true ∧ zar way nd pc hold m p i < op i then zar way nd pc hold m p i else op i) ∧ zgq way (nd p) (pc p) (hold p) m p op oq dd i = (if i < dd ∧ hold p i = true ∧ (zar way nd pc hold m p i < op i ∨ (zar way nd pc hold m p i = op i ∧ nI p < oq i)) then nI p else oq i)
  | 0, i => ⟨by rw [if_neg (fun z => absurd z.1 (by omega))]; rfl, by rw [if_neg (fun z => absurd z.1 (by omega))]; rfl⟩
  | dd + 1, i => by
    obtain ⟨i1, i2⟩ := zgq_is (m := m) (p := p) (op := op) (oq := oq) dd i
    obtain ⟨j1, j2⟩ := zgq_is (m := m) (p := p) (op := op) (oq := oq) dd dd
    rw [if_neg (fun z => absurd z.1 (by omega))] at j1 j2
    have har : hold p dd = true → (zgo way (nd p) (pc p) (hold p) m p op dd).1 + (pc p * way (zgo way (nd p) (pc p) (hold p) m p op dd).2.1 dd + nd p) = zar way nd pc hold m p dd := fun hb => by
      obtain ⟨k1, k2⟩ := zgo_12 (way := way) (nd := nd p) (pc := pc p) (hold := hold p) (m0 := m) (p := p) (op := op) (op' := fun _ => 0) dd
      unfold zar
      rw [zgo, zgs, if_pos hb, k1, k2]
    by_cases hb : hold p dd = true
    · have ha := har hb
      rw [zgo, zgs, if_pos hb, zgq, if_pos hb]
      dsimp only
      rw [ha, j1, j2]
      by_cases e : i = dd
      · subst e
        constructor
        · by_cases h1 : zar way nd pc hold m p i < op i
          · rw [if_pos h1, zu_s, if_pos ⟨by omega, hb, h1⟩]
          · rw [if_neg h1, if_neg (fun z => h1 z.2.2)]
            exact j1
        · by_cases h1 : zar way nd pc hold m p i < op i ∨ (zar way nd pc hold m p i = op i ∧ nI p < oq i)
          · rw [if_pos h1, zupd_s, if_pos ⟨by omega, hb, h1⟩]
          · rw [if_neg h1, if_neg (fun z => h1 z.2.2)]
            exact j2
      · constructor
        · have hL : (if zar way nd pc hold m p dd < op dd then va_up (zgo way (nd p) (pc p) (hold p) m p op dd).2.2 dd (zar way nd pc hold m p dd) else (zgo way (nd p) (pc p) (hold p) m p op dd).2.2) i = (zgo way (nd p) (pc p) (hold p) m p op dd).2.2 i := by
            split
            · exact zu_n e
            · rfl
          exact hL.trans (i1.trans (zif_congr ⟨fun z => ⟨Nat.lt_succ_of_lt z.1, z.2⟩, fun z => ⟨by have := z.1; omega, z.2⟩⟩))
        · have hL : (if zar way nd pc hold m p dd < op dd ∨ (zar way nd pc hold m p dd = op dd ∧ nI p < oq dd) then upd (zgq way (nd p) (pc p) (hold p) m p op oq dd) dd (nI p) else zgq way (nd p) (pc p) (hold p) m p op oq dd) i = zgq way (nd p) (pc p) (hold p) m p op oq dd i := by
            split
            · exact zupd_n e
            · rfl
          exact hL.trans (i2.trans (zif_congr ⟨fun z => ⟨Nat.lt_succ_of_lt z.1, z.2⟩, fun z => ⟨by have := z.1; omega, z.2⟩⟩))
    · rw [zgo, zgs, if_neg hb, zgq, if_neg hb, i1, i2]
      by_cases e : i = dd
      · subst e
        constructor
        · rw [if_neg (fun z => absurd z.1 (by omega)), if_neg (fun z => hb z.2.1)]
        · rw [if_neg (fun z => absurd z.1 (by omega)), if_neg (fun z => hb z.2.1)]
      · exact ⟨zif_congr ⟨fun z => ⟨Nat.lt_succ_of_lt z.1, z.2⟩, fun z => ⟨by have := z.1; omega, z.2⟩⟩, zif_congr ⟨fun z => ⟨Nat.lt_succ_of_lt z.1, z.2⟩, fun z => ⟨by have := z.1; omega, z.2⟩⟩⟩
/-- who is noted at each door: the least of those that open it first -/
def zJ (way : Nat → Nat → Nat) (nd pc : Nat → Nat) (hold : Nat → Nat → Bool) (NV n G : Nat) (ou op : Nat → Nat) (oq : Nat → Int32) : Prop := ∀ d, d < n → (∀ p, p < n → G.testBit p = true → hold p d = true → op d ≤ zar way nd pc hold (ou p) p d) ∧ ((op d = NV ∧ oq d = -9 ∧ ∀ p, p < n → G.testBit p = true → hold p d = false) ∨ ∃ p, p < n ∧ G.testBit p = true ∧ hold p d = true ∧ op d = zar way nd pc hold (ou p) p d ∧ oq d = nI p ∧ ∀ q, q < n → G.testBit q = true → hold q d = true → zar way nd pc hold (ou q) q d = op d → p ≤ q)
set_option maxHeartbeats 4000000 in
set_option maxRecDepth 100000 in
theorem zrq_by (hn7 : n ≤ 7) (hw : ∀ a b, a < n → b < n → way a b ≤ 7) (hnd : ∀ p, p < n → nd p ≤ 1000 ∧ pc p ≤ 1000) (hcb : ∀ C p op, 2000 ≤ C → p < n → (op p ≤ C ∨ op p = NV) → (zcand W up win op p ≤ C ∨ zcand W up win op p = NV)) (hNV : 500000 ≤ NV) : ∀ (k G C : Nat) (ou op : Nat → Nat) (oq : Nat → Int32), 2000 ≤ C → C + 56000 * k ≤ 400000 → (∀ i, i < n → op i ≤ C ∨ op i = NV) → zJ way nd pc hold NV n G ou op oq → zJ way nd pc hold NV n (zrun way nd pc hold W up win NV n k G ou op).1 (zrun way nd pc hold W up win NV n k G ou op).2.1 (zrun way nd pc hold W up win NV n k G ou op).2.2 (zrq way nd pc hold W up win NV n k G ou op oq)
  | 0, G, C, ou, op, oq, _, _, _, h => h
  | k + 1, G, C, ou, op, oq, hC, hC2, hop, h => by
    cases hz : zfst G.testBit (zcand W up win op) NV n with
    | none =>
      have e2 : zrq way nd pc hold W up win NV n (k + 1) G ou op oq = oq := by rw [zrq, hz]
      rw [zrun_none hz, e2]
      exact h
    | some p =>
      have e2 : zrq way nd pc hold W up win NV n (k + 1) G ou op oq = zrq way nd pc hold W up win NV n k (G ||| 1 * 2 ^ p) (va_up ou p (zcand W up win op p)) (zgo way (nd p) (pc p) (hold p) (zcand W up win op p) p op n).2.2 (zgq way (nd p) (pc p) (hold p) (zcand W up win op p) p op oq n) := by rw [zrq, hz]
      obtain ⟨hp, hGp, hcl⟩ := zfst_lt hz
      rw [zrun_some hz, e2]
      generalize hm : zcand W up win op p = m at *
      have hmC : m ≤ C := by
        have := hcb C p op hC hp (hop p hp)
        rw [hm] at this
        omega
      have hzb := zgo_b (way := way) (nd := nd p) (pc := pc p) (hold := hold p) (m0 := m) (op := op) hw (hnd p hp).1 (hnd p hp).2 hp
      have harb : ∀ d, d < n → zar way nd pc hold m p d ≤ m + 56000 := fun d hd => by
        have h1 := (zgo_b (way := way) (nd := nd p) (pc := pc p) (hold := hold p) (m0 := m) (op := fun _ => 0) hw (hnd p hp).1 (hnd p hp).2 hp (d + 1) (by omega)).1
        unfold zar
        omega
      refine zrq_by hn7 hw hnd hcb hNV k _ (C + 56000) _ _ _ (by omega) (by omega) (fun i hi => ?_) (fun d hd => ?_)
      · rcases (hzb n (Nat.le_refl n)).2.2 i with h1 | h1
        · rw [h1]
          rcases hop i hi with h2 | h2
          · exact Or.inl (by omega)
          · exact Or.inr h2
        · exact Or.inl (by omega)
      · obtain ⟨g1, g2⟩ := zgq_is (way := way) (nd := nd) (pc := pc) (hold := hold) (m := m) (p := p) (op := op) (oq := oq) n d
        obtain ⟨h1, h2⟩ := h d hd
        have hG : ∀ q, (G ||| 1 * 2 ^ p).testBit q = true → q = p ∨ (¬ q = p ∧ G.testBit q = true) := fun q hq => by
          rw [zor_bit] at hq
          by_cases e : q = p
          · exact Or.inl e
          · simp only [e, decide_false, Bool.or_false] at hq
            exact Or.inr ⟨e, hq⟩
        have hGq : ∀ q, G.testBit q = true → (G ||| 1 * 2 ^ p).testBit q = true := fun q hq => by rw [zor_bit, hq]; rfl
        have hGpp : (G ||| 1 * 2 ^ p).testBit p = true := by rw [zor_bit]; simp
        have hne : ∀ q, G.testBit q = true → ¬ q = p := fun q hq e => by rw [e, hGp] at hq; cases hq
        rw [g1, g2]
        have hab := harb d hd
        by_cases hb : hold p d = true
        · by_cases c1 : zar way nd pc hold m p d < op d
          · rw [if_pos ⟨hd, hb, c1⟩, if_pos ⟨hd, hb, Or.inl c1⟩]
            refine ⟨fun q hq hGq' hhq => ?_, Or.inr ⟨p, hp, hGpp, hb, by rw [zu_s], rfl, fun q hq hGq' hhq he => ?_⟩⟩
            · rcases hG q hGq' with e | ⟨e, hq2⟩
              · rw [e, zu_s]; exact Nat.le_refl _
              · rw [zu_n e]
                have := h1 q hq hq2 hhq
                omega
            · rcases hG q hGq' with e | ⟨e, hq2⟩
              · rw [e]; exact Nat.le_refl _
              · rw [zu_n e] at he
                have := h1 q hq hq2 hhq
                omega
          · rw [if_neg (fun z => c1 z.2.2)]
            rcases h2 with ⟨n1, n2, n3⟩ | ⟨p0, y1, y2, y3, y4, y5, y6⟩
            · exfalso; omega
            · have ey : va_up ou p m p0 = ou p0 := zu_n (hne p0 y2)
              by_cases c2 : zar way nd pc hold m p d = op d ∧ nI p < oq d
              · rw [if_pos ⟨hd, hb, Or.inr c2⟩]
                have hlt : p < p0 := by
                  have := c2.2
                  rw [y5] at this
                  exact (nI_ltI (by omega) (by omega)).mp this
                refine ⟨fun q hq hGq' hhq => ?_, Or.inr ⟨p, hp, hGpp, hb, by rw [zu_s]; exact c2.1.symm, rfl, fun q hq hGq' hhq he => ?_⟩⟩
                · rcases hG q hGq' with e | ⟨e, hq2⟩
                  · rw [e, zu_s]; omega
                  · rw [zu_n e]; exact h1 q hq hq2 hhq
                · rcases hG q hGq' with e | ⟨e, hq2⟩
                  · rw [e]; exact Nat.le_refl _
                  · rw [zu_n e] at he
                    have := y6 q hq hq2 hhq he
                    omega
              · rw [if_neg (fun z => z.2.2.elim c1 c2)]
                refine ⟨fun q hq hGq' hhq => ?_, Or.inr ⟨p0, y1, hGq p0 y2, y3, by rw [ey]; exact y4, y5, fun q hq hGq' hhq he => ?_⟩⟩
                · rcases hG q hGq' with e | ⟨e, hq2⟩
                  · rw [e, zu_s]; omega
                  · rw [zu_n e]; exact h1 q hq hq2 hhq
                · rcases hG q hGq' with e | ⟨e, hq2⟩
                  · rw [e, zu_s] at he
                    refine Nat.not_lt.mp fun hlt => c2 ⟨he, ?_⟩
                    rw [y5]
                    exact (nI_ltI (by omega) (by omega)).mpr (by omega)
                  · rw [zu_n e] at he
                    exact y6 q hq hq2 hhq he
        · rw [if_neg (fun z => hb z.2.1), if_neg (fun z => hb z.2.1)]
          have hq3 : ∀ q, (G ||| 1 * 2 ^ p).testBit q = true → hold q d = true → G.testBit q = true ∧ va_up ou p m q = ou q := fun q hq hh => by
            rcases hG q hq with e | ⟨e, hq2⟩
            · rw [e] at hh; exact absurd hh hb
            · exact ⟨hq2, zu_n e⟩
          refine ⟨fun q hq hGq' hhq => ?_, ?_⟩
          · obtain ⟨a1, a2⟩ := hq3 q hGq' hhq
            rw [a2]; exact h1 q hq a1 hhq
          · rcases h2 with ⟨n1, n2, n3⟩ | ⟨p0, y1, y2, y3, y4, y5, y6⟩
            · refine Or.inl ⟨n1, n2, fun q hq hGq' => ?_⟩
              cases hhq : hold q d with
              | false => rfl
              | true =>
                obtain ⟨a1, a2⟩ := hq3 q hGq' hhq
                rw [n3 q hq a1] at hhq
                cases hhq
            · refine Or.inr ⟨p0, y1, hGq p0 y2, y3, ?_, y5, fun q hq hGq' hhq he => ?_⟩
              · rw [zu_n (hne p0 y2)]; exact y4
              · obtain ⟨a1, a2⟩ := hq3 q hGq' hhq
                rw [a2] at he
                exact y6 q hq a1 hhq he
end Run
set_option maxHeartbeats 4000000 in
set_option maxRecDepth 100000 in
theorem pRun_res {u : zCls} {M : zMp} {R : zMr} {T : zTown} {wa br wd : Nat} (hT : tOk T) (hM : pPr M T) (hR : ∀ i, qg_ms R i ≤ 2147483647) (hwd : wd < 2) : qRs ((cRun (cMR u M R) wa br wd).2.1, (cRun (cMR u M R) wa br wd).2.2, cRq (cMR u M R) wa br wd) (tWt T wa) (1 - wd) br := by
  have hA := pAlike (u := u) (R := R) (wa := wa) hT hM hwd
  have hmo := pPr_zMo (u := u) (R := R) hT hM
  have h7 := hT.1
  have e0 : cg_mp (cMR u M R) = tg_people T := hM.1
  have hr := zrun_rel hA (tg_people T) 2000 0 (fun _ => 1000000) (cO0 (cMR u M R)) (sOp0 br (tg_people T) (fun _ => 1000000)) (cP0 (cMR u M R) br) (Nat.le_refl _) (by omega) (by omega) (fun i hi => by
    unfold sOp0 cP0
    rw [if_pos hi, if_pos (by rw [e0]; exact hi)]
    unfold zop0 zV2
    split <;> omega) (fun i hi hb => by rw [Nat.zero_testBit] at hb; cases hb)
  have eR : cRun (cMR u M R) wa br wd = zrun (cg_mw (cMR u M R)) (cg_mn (cMR u M R)) (cg_mc (cMR u M R)) (cHd (cMR u M R)) wa.testBit (cg_mu (cMR u M R)) (cWin (cMR u M R) wd) 2147483647 (tg_people T) (tg_people T) 0 (cO0 (cMR u M R)) (cP0 (cMR u M R) br) := by
    unfold cRun
    rw [e0]
  have eQ : cRq (cMR u M R) wa br wd = zrq (cg_mw (cMR u M R)) (cg_mn (cMR u M R)) (cg_mc (cMR u M R)) (cHd (cMR u M R)) wa.testBit (cg_mu (cMR u M R)) (cWin (cMR u M R) wd) 2147483647 (tg_people T) (tg_people T) 0 (cO0 (cMR u M R)) (cP0 (cMR u M R) br) (cQ0 (cMR u M R)) := by
    unfold cRq
    rw [e0]
  have eT : tRun (tWt T wa) (1 - wd) br = zrun (tWay T) (tNd T) (tPc T) (tHd T) wa.testBit (tUp T) (tWin T (1 - wd) 1000000) 1000000 (tg_people T) (tg_people T) 0 (fun _ => 1000000) (sOp0 br (tg_people T) (fun _ => 1000000)) := rfl
  rw [← eT, ← eR] at hr
  obtain ⟨r1, r2, r3⟩ := hr
  have hO : ∀ i, i < tg_people T → zV2 1000000 2147483647 500000 (tO (tWt T wa) (1 - wd) br i) ((cRun (cMR u M R) wa br wd).2.1 i) := fun i hi => by
    unfold tO
    by_cases hb : (tRun (tWt T wa) (1 - wd) br).1.testBit i = true
    · rw [if_pos hb]
      obtain ⟨a1, a2⟩ := r2 i hi hb
      exact Or.inl ⟨a1, by omega⟩
    · rw [if_neg hb]
      refine Or.inr ⟨rfl, ?_⟩
      have hb2 : (cRun (cMR u M R) wa br wd).1.testBit i = false := by
        rw [← r1]
        exact Bool.not_eq_true _ |>.mp hb
      rw [eR] at hb2 ⊢
      rw [zrun_ou _ _ _ _ hb2]
      unfold cO0
      rw [if_pos (by rw [e0]; exact hi)]
  refine ⟨hO, fun i => ?_, fun hbr i hi => ?_⟩
  · show (cRun (cMR u M R) wa br wd).2.2 i ≤ 2147483647
    rw [eR]
    exact Nat.le_trans (zrun_op _ _ _ _) (cP0_b hR)
  · subst hbr
    have hi : i < tg_people T := hi
    have hJ := zrq_by (way := cg_mw (cMR u M R)) (nd := cg_mn (cMR u M R)) (pc := cg_mc (cMR u M R)) (hold := cHd (cMR u M R)) (W := wa.testBit) (up := cg_mu (cMR u M R)) (win := cWin (cMR u M R) wd) (NV := 2147483647) (n := tg_people T) h7
      (fun a b ha hb => by rw [← (hA.1 a b ha hb).1]; exact (hA.1 a b ha hb).2)
      (fun p hp => by
        obtain ⟨b1, b2, b3, b4, b5⟩ := hA.2.1 p hp
        exact ⟨by rw [← b1]; exact b2, by rw [← b3]; exact b4⟩)
      (fun C p op hC hp ho => cCand_b hmo hC (by rw [e0]; exact hp) ho) (by omega) (tg_people T) 0 2000 (cO0 (cMR u M R)) (cP0 (cMR u M R) 0) (cQ0 (cMR u M R)) (Nat.le_refl _) (by omega)
      (fun i hi => by unfold cP0 zop0; rw [if_pos (by rw [e0]; exact hi), Nat.zero_testBit]; exact Or.inr rfl)
      (fun d hd => ⟨fun p hp hb => (by rw [Nat.zero_testBit] at hb; cases hb), Or.inl ⟨by unfold cP0 zop0; rw [if_pos (by rw [e0]; exact hd), Nat.zero_testBit]; rfl, by unfold cQ0; rw [if_pos (by rw [e0]; exact hd)], fun p hp hb => (by rw [Nat.zero_testBit] at hb; cases hb)⟩⟩)
    rw [← eR, ← eQ] at hJ
    obtain ⟨j1, j2⟩ := hJ i hi
    have h3 := r3 i hi
    have eP : tP (tWt T wa) (1 - wd) 0 i = (tRun (tWt T wa) (1 - wd) 0).2.2 i := rfl
    rw [← eP] at h3
    show cRq (cMR u M R) wa 0 wd i = _
    -- what one opens, on both sides
    have hop : ∀ o, o < tg_people T → tO (tWt T wa) (1 - wd) 0 o < 1000000 → (tRun (tWt T wa) (1 - wd) 0).1.testBit o = true ∧ (cRun (cMR u M R) wa 0 wd).1.testBit o = true ∧ tO (tWt T wa) (1 - wd) 0 o = (cRun (cMR u M R) wa 0 wd).2.1 o ∧ tO (tWt T wa) (1 - wd) 0 o ≤ 500000 := fun o ho hlt => by
      have hb : (tRun (tWt T wa) (1 - wd) 0).1.testBit o = true := by
        refine Classical.byContradiction fun hb => ?_
        unfold tO at hlt
        rw [if_neg hb] at hlt
        omega
      have h9 := hO o ho
      unfold zV2 at h9
      exact ⟨hb, by rw [← r1]; exact hb, by omega, by omega⟩
    have hzar : ∀ o m, o < tg_people T → m ≤ 500000 → (zgo (tWay T) (tNd T o) (tPc T o) (tHd T o) m o (fun _ => 0) (i + 1)).1 = zar (cg_mw (cMR u M R)) (cg_mn (cMR u M R)) (cg_mc (cMR u M R)) (cHd (cMR u M R)) m o i := fun o m ho hm => by
      obtain ⟨b1, b2, b3, b4, b5⟩ := hA.2.1 o ho
      have := (zgo_rel (n := tg_people T) (NV := 1000000) (NV' := 2147483647) (C := 500000) (way := tWay T) (way' := cg_mw (cMR u M R)) (nd := tNd T o) (pc := tPc T o) (hold := tHd T o) (hold' := cHd (cMR u M R) o) (m0 := m) (p := o) (op := fun _ => 0) (op' := fun _ => 0) hA.1 b2 b4 (fun d hd => hA.2.2.1 o d ho hd) ho hm h7 (by omega) (by omega) (fun j hj => Or.inl ⟨rfl, by omega⟩) (i + 1) (by omega)).1
      rw [this, b1, b3]
      rfl
    have hby : ∀ o, o < tg_people T → tBy (tWt T wa) (tO (tWt T wa) (1 - wd) 0) (tP (tWt T wa) (1 - wd) 0 i) i o = true → (cRun (cMR u M R) wa 0 wd).1.testBit o = true ∧ cHd (cMR u M R) o i = true ∧ zar (cg_mw (cMR u M R)) (cg_mn (cMR u M R)) (cg_mc (cMR u M R)) (cHd (cMR u M R)) ((cRun (cMR u M R) wa 0 wd).2.1 o) o i = tP (tWt T wa) (1 - wd) 0 i := fun o ho hb => by
      obtain ⟨f1, f2, f3, f4⟩ := of_decide_eq_true hb
      obtain ⟨k1, k2, k3, k4⟩ := hop o ho f3
      unfold tOpens at f4
      by_cases hz : zhold (tg_door (tWt T wa)) (tg_held (tWt T wa)) (tg_keys (tWt T wa)) o i = true
      · rw [if_pos hz] at f4
        refine ⟨k2, ?_, ?_⟩
        · rw [← hA.2.2.1 o i ho hi]
          show (!(i == o) && zhold (tg_door T) (tg_held T) (tg_keys T) o i) = true
          have e8 : (i == o) = false := beq_eq_false_iff_ne.mpr (fun z => f2 z.symm)
          rw [e8]
          exact hz
        · rw [← k3, ← hzar o _ ho k4]
          exact f4
      · rw [if_neg hz] at f4
        omega
    rcases j2 with ⟨n1, n2, n3⟩ | ⟨p0, y1, y2, y3, y4, y5, y6⟩
    · rw [n2]
      have e9 : tP (tWt T wa) (1 - wd) 0 i = 1000000 := by
        unfold zV2 at h3
        omega
      have e10 : zfind (tBy (tWt T wa) (tO (tWt T wa) (1 - wd) 0) (tP (tWt T wa) (1 - wd) 0 i) i) (tg_people (tWt T wa)) = none := zfind_none fun o ho => by
        cases hb : tBy (tWt T wa) (tO (tWt T wa) (1 - wd) 0) (tP (tWt T wa) (1 - wd) 0 i) i o with
        | false => rfl
        | true =>
          have := (of_decide_eq_true hb).1
          omega
      rw [e10]
      rfl
    · have hb2 : (tRun (tWt T wa) (1 - wd) 0).1.testBit p0 = true := by rw [r1]; exact y2
      obtain ⟨a1, a2⟩ := r2 p0 y1 hb2
      have eo : tO (tWt T wa) (1 - wd) 0 p0 = (tRun (tWt T wa) (1 - wd) 0).2.1 p0 := by
        unfold tO
        rw [if_pos hb2]
      have hz := hzar p0 ((cRun (cMR u M R) wa 0 wd).2.1 p0) y1 (by omega)
      have hnd9 := (hA.2.1 p0 y1)
      have hzl := (zgo_b (way := tWay T) (nd := tNd T p0) (pc := tPc T p0) (hold := tHd T p0) (m0 := (cRun (cMR u M R) wa 0 wd).2.1 p0) (op := fun _ => 0) (n := tg_people T) (fun a b ha hb => (hA.1 a b ha hb).2) hnd9.2.1 hnd9.2.2.2.1 y1 (i + 1) (by omega)).1
      have e9 : tP (tWt T wa) (1 - wd) 0 i = zar (cg_mw (cMR u M R)) (cg_mn (cMR u M R)) (cg_mc (cMR u M R)) (cHd (cMR u M R)) ((cRun (cMR u M R) wa 0 wd).2.1 p0) p0 i := by
        unfold zV2 at h3
        omega
      have e10 : zfind (tBy (tWt T wa) (tO (tWt T wa) (1 - wd) 0) (tP (tWt T wa) (1 - wd) 0 i) i) (tg_people (tWt T wa)) = some p0 := by
        refine zfind_some (fun o ho => ?_) ?_ y1
        · cases hb : tBy (tWt T wa) (tO (tWt T wa) (1 - wd) 0) (tP (tWt T wa) (1 - wd) 0 i) i o with
          | false => rfl
          | true =>
            obtain ⟨z1, z2, z3⟩ := hby o (by omega) hb
            have := y6 o (by omega) z1 z2 (by rw [z3, e9, y4])
            omega
        · have hh : tHd T p0 i = true := by rw [hA.2.2.1 p0 i y1 hi]; exact y3
          have hh2 : (!(i == p0) && zhold (tg_door T) (tg_held T) (tg_keys T) p0 i) = true := hh
          simp only [Bool.and_eq_true, Bool.not_eq_true', beq_eq_false_iff_ne] at hh2
          refine decide_eq_true ⟨by omega, fun z => hh2.1 z.symm, by omega, ?_⟩
          have hz8 : zhold (tg_door (tWt T wa)) (tg_held (tWt T wa)) (tg_keys (tWt T wa)) p0 i = true := hh2.2
          unfold tOpens
          rw [if_pos hz8, e9, ← hz, eo, a1]
          rfl
      rw [e10, y5]
      rfl
