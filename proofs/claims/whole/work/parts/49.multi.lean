/-! AN ARRAY OF ROWS, made at once -/
theorem kMl : Cond.classLink RX0 9 ("[" ++ (FieldType.array .int).toString) ∈ zBig := zBig_tab 114 (by decide +kernel) (by decide +kernel)
def kMc (q : Nat) : List zC := zR 7 (fun i => if i < 7 then some (q + 1 + i) else none) :: List.replicate 7 (zI 7 (fun _ => 0))
theorem kMc_get {q k : Nat} {c : zC} (h : zn (kMc q) k = some c) : (k = 0 ∧ c = zR 7 (fun i => if i < 7 then some (q + 1 + i) else none)) ∨ ∃ j, k = j + 1 ∧ j < 7 ∧ c = zI 7 (fun _ => 0) := by
  cases k with
  | zero => cases h; exact Or.inl ⟨rfl, rfl⟩
  | succ j =>
    have h2 : zn (List.replicate 7 (zI 7 (fun _ => 0))) j = some c := h
    rw [zn_eq, List.getElem?_replicate] at h2
    split at h2
    · rename_i hj
      cases h2
      exact Or.inr ⟨j, rfl, hj, rfl⟩
    · cases h2
theorem kOuter (c : ClassId) (N h0 : Nat) : ∀ i : Nat, Jvm.Free.Multi.outerC c N h0 i = arrV c N (fun j => va_rf (if j < i then some (h0 + 1 + j) else none))
  | 0 => by
    show ({ cls := c, slots := Array.replicate N .null, vm := .none } : Cell) = _
    rw [arrV_new]
    exact congrArg (arrV c N) (funext fun j => by simp [va_rf])
  | i + 1 => by
    show (Jvm.Free.Multi.outerC c N h0 i).setSlot i (.ref (h0 + 1 + i)) = _
    rw [kOuter c N h0 i, arrV_store]
    refine congrArg (arrV c N) (funext fun j => ?_)
    by_cases e : j = i
    · subst e; simp [updV, va_rf]
    · by_cases h9 : j < i
      · simp [updV, e, h9, Nat.lt_succ_of_lt h9]
      · simp [updV, e, h9, show ¬ j < i + 1 by omega]
/-- eight places more -/
def kup8 (ad : Nat → Nat) (n q : Nat) : Nat → Nat := fun i => if n ≤ i ∧ i < n + 8 then q + (i - n) else ad i
theorem kup8_ag {ad : Nat → Nat} {n q : Nat} (h9 : n + 8 ≤ 999) : kag n ad (kup8 ad n q) := fun i hi => if_neg (by omega)
theorem kup8_in {ad : Nat → Nat} {n q k : Nat} (hk : k < 8) : kup8 ad n q (n + k) = q + k := by
  unfold kup8
  rw [if_pos (by omega)]
  omega
set_option maxHeartbeats 1000000 in
theorem k_mna {Y : zM} {d : Nat} {F : kF} {pc pc' : Nat} {ls st : List Value} {h : List zC} {ca cs : Nat} {i q ca' cs' : Nat} {h' : List zC} (hd : zd Y pc (.multianewarray i 2) 4 pc') (hl : Cond.classLink Y.1.cls i ("[" ++ (FieldType.array .int).toString) ∈ zBig) (hq : h.length = q) (h9 : q + 8 ≤ 999) (hw9 : (ls ++ st).all (kok q) = true) (he : h ++ kMc q = h') (hca : ca + 8 = ca') (hcs : cs + 56 = cs') (h1 : ca' ≤ F.2.2.2.2.1) (h2 : cs' ≤ F.2.2.2.2.2) (kk : Kq Y d F pc' ls (.ref q :: st) h' ca' cs') : Kq Y d F pc ls (.int (nI 7) :: .int (nI 7) :: st) h ca cs := by
  intro p l e R s m args below meth c Z ad D cA cB A C K H locs arr hI hL
  obtain ⟨hd, rfl⟩ := hd
  subst hq; subst he; subst hca; subst hcs
  obtain ⟨hx, hb, hml, hown, hts, hK, hA, hnm9, hR⟩ := id C
  obtain ⟨⟨hP, hD, hS⟩, hw⟩ := hI
  have hw9 := List.all_eq_true.mp hw9
  have n7 : (nI 7).toNatClampNeg = 7 := nI_clamp (by omega)
  intro T hT Xs
  obtain ⟨vm₁, cB', cA', -, fB, fA, -, -, X', step⟩ := Jvm.Stand.multianewarray2F Xs hx (ty := .int) hown (hts _ hl) (kAO_mv (Vm.Alike.refl s.vm) hnm9.2) (hts (.arrayClass .int) kAr) (g := F0 m pc arr (.int (nI 7) :: .int (nI 7) :: st.map (zV ad))) rfl (by rw [hb]; exact hd) rfl (nI_pos (by omega)) (nI_pos (by omega)) (by rw [n7]; omega) (by rw [n7]; show 7 * 4 ≤ 536870912; omega) (by rw [n7]; omega) rfl rfl (by rw [n7]; omega) (by rw [n7]; omega)
  have gB : s.vm.findClass ("[" ++ (FieldType.array .int).toString) = some cB := (hK.2 1 _ rfl).2
  have gA : s.vm.findClass (FieldType.array .int).toString = some cA := (hK.2 0 _ rfl).2
  cases fB.symm.trans gB
  cases fA.symm.trans gA
  rw [n7, show ca + 1 + 7 = ca + 8 by omega, show cs + 7 + 7 * 7 = cs + 56 by omega] at X'
  rw [n7] at step
  have hTh : (T.setVm vm₁).heap = H := hT
  obtain ⟨f1, f2, -, -⟩ := Jvm.Free.Multi.fill_facts (T.setVm vm₁) cB cA 7 7 (defaultValue .int) 7
  have f3 := fun (x : Nat) (hx : x < (T.setVm vm₁).heap.size) => Jvm.Free.Multi.fill_old (T.setVm vm₁) cB cA 7 7 (defaultValue .int) (a := x) hx 7
  have f4 := Jvm.Free.Multi.fill_inner (T.setVm vm₁) cB cA 7 7 (defaultValue .int) 7
  generalize hF : Jvm.Free.Multi.fill (T.setVm vm₁) cB cA 7 7 (defaultValue .int) 7 = G at X' step f1 f2 f3 f4
  rw [hTh] at f1 f2 f3 f4
  have hag : kag h.length ad (kup8 ad h.length H.size) := kup8_ag h9
  have hout : Jvm.Free.Multi.outerC cB 7 H.size 7 = vp_cell cB (7, .inr (.inr (.inr (.inr (fun i => (if i < 7 then some (h.length + 1 + i) else none).map (kup8 ad h.length H.size)))))) := by
    rw [vp_cell_q, kOuter]
    refine congrArg (arrV cB 7) (funext fun j => congrArg va_rf ?_)
    by_cases hj : j < 7
    · rw [if_pos hj, if_pos hj]
      show some (H.size + 1 + j) = some (kup8 ad h.length H.size (h.length + 1 + j))
      rw [Nat.add_assoc h.length, kup8_in (by omega)]
      exact congrArg some (by omega)
    · rw [if_neg hj, if_neg hj]; rfl
  have hin : Jvm.Free.Multi.innerC cA 7 (defaultValue .int) = vp_cell cA (7, .inl (fun _ => 0)) := by
    rw [vp_cell_i]
    exact arrV_new cA 7 _
  have hnew : ∀ (k : Nat) (x : Nat × va_E), (zWf (kup8 ad h.length H.size) cA cB h.length (kMc h.length))[k]? = some x → k < 8 ∧ x.1 = H.size + k ∧ va_at D vwCl x G.heap := fun k x hx => by
    rw [zWf_get] at hx
    cases hz : zn (kMc h.length) k with
    | none => rw [hz] at hx; cases hx
    | some c0 =>
      rw [hz] at hx
      cases hx
      rcases kMc_get hz with ⟨rfl, rfl⟩ | ⟨j, rfl, hj, rfl⟩
      · refine ⟨by omega, kup8_in (by omega), ?_⟩
        show G.heap[kup8 ad h.length H.size (h.length + 0)]? = some (vp_cell cB _)
        rw [kup8_in (by omega), ← hout]
        exact f2
      · refine ⟨by omega, kup8_in (by omega), ?_⟩
        show G.heap[kup8 ad h.length H.size (h.length + (j + 1))]? = some (vp_cell cA (7, .inl (fun _ => 0)))
        rw [kup8_in (by omega), ← hin, ← f4 j hj]
        exact congrArg (fun z => G.heap[z]?) (by omega)
  have eW : zW (kup8 ad h.length H.size) cA cB (h ++ kMc h.length) = zW ad cA cB h ++ zWf (kup8 ad h.length H.size) cA cB h.length (kMc h.length) := by
    show zWf _ _ _ 0 _ = _
    rw [zW_app, kwh_W hag hw (by omega), Nat.zero_add]
  have hP2 : va_P D vwCl (zW (kup8 ad h.length H.size) cA cB (h ++ kMc h.length)) G.heap := by
    rw [eW]
    exact (hP.kept (fun k x hx => f3 x.1 ((hP k x hx).lt))).app (fun k x hx => (hnew k x hx).2.2)
  have hD2 : va_D A (zW (kup8 ad h.length H.size) cA cB (h ++ kMc h.length)) := by
    rw [eW]
    refine hD.app ⟨fun i j x y hi hj hxy => ?_, fun k x hx => ?_⟩ (fun i j x y hi hj hxy => ?_)
    · have g1 := (hnew i x hi).2.1
      have g2 := (hnew j y hj).2.1
      omega
    · exact hA _ (by rw [(hnew k x hx).2.1]; exact Nat.le_trans hS.1 (Nat.le_add_right _ _))
    · have g1 := (hP i x hi).lt
      have g2 := (hnew j y hj).2.1
      omega
  have hlen : (h ++ kMc h.length).length = h.length + 8 := by rw [List.length_append]; rfl
  have hw2 : kwh (h ++ kMc h.length).length (h ++ kMc h.length) := fun c0 hc => by
    rw [hlen]
    rcases List.mem_append.mp hc with z | z
    · exact kwc_le (Nat.le_add_right _ _) (hw c0 z)
    · obtain ⟨k, hk⟩ := List.getElem?_of_mem z
      rw [← zn_eq] at hk
      rcases kMc_get hk with ⟨-, rfl⟩ | ⟨j, -, -, rfl⟩
      · intro i k9 hi
        have hi : (if i < 7 then some (h.length + 1 + i) else none) = some k9 := hi
        by_cases hi7 : i < 7
        · rw [if_pos hi7] at hi
          cases hi
          exact Or.inl (by omega)
        · rw [if_neg hi7] at hi; cases hi
      · trivial
  have e2 : (Value.ref h.length :: st).map (zV (kup8 ad h.length H.size)) = Value.ref H.size :: st.map (zV ad) := by
    show Value.ref (kup8 ad h.length H.size (h.length + 0)) :: st.map (zV (kup8 ad h.length H.size)) = _
    rw [kup8_in (by omega), kok_Vs hag (List.all_eq_true.mpr fun v hv => hw9 v (List.mem_append_right _ hv))]
    rfl
  have hkk := kk p l e R s m args below meth c Z (kup8 ad h.length H.size) D cA cB A C (fun ad' H' locs' arr' hg => K ad' H' locs' arr' (hag.trans hg (by rw [hlen]; exact Nat.le_add_right _ _))) G.heap locs arr ⟨⟨hP2, hD2, ⟨by rw [f1]; have := hS.1; omega, fun x g1 g2 => (f3 x (Nat.lt_of_lt_of_le g1 hS.1)).trans (hS.2.1 x g1 g2), hS.2.2⟩⟩, hw2⟩ (kL hag (List.all_eq_true.mpr fun v hv => hw9 v (List.mem_append_left _ hv)) hL)
  rw [e2] at hkk
  obtain ⟨t, a1, b1⟩ := hkk G rfl X'
  refine ⟨t, step t ?_, b1⟩
  have e9 : T.heap.size = H.size := by rw [hT]
  rw [e9]
  exact a1
