/-! THE CONSTRUCTORS' MACHINE: worlds that grow, a cell at the end each time -/
def kok (n : Nat) : Value → Bool
  | .ref k => decide (k < n) || decide (999 ≤ k)
  | _ => true
def kwc (n : Nat) : zC → Prop
  | .inl _ => True
  | .inr (.inl x) => x.2.all (kok n) = true
  | .inr (.inr x) => ∀ i k, x.2 i = some k → k < n ∨ 999 ≤ k
def kwh (n : Nat) (h : List zC) : Prop := ∀ c ∈ h, kwc n c
def kag (n : Nat) (ad ad' : Nat → Nat) : Prop := ∀ i, i < n ∨ 999 ≤ i → ad' i = ad i
theorem kag.refl (n : Nat) (ad : Nat → Nat) : kag n ad ad := fun _ _ => rfl
theorem kag.trans {n m : Nat} {a b c : Nat → Nat} (h1 : kag n a b) (h2 : kag m b c) (hle : n ≤ m) : kag n a c := fun i hi => (h2 i (hi.imp (fun z => Nat.lt_of_lt_of_le z hle) id)).trans (h1 i hi)
theorem kok_V {n : Nat} {ad ad' : Nat → Nat} (hg : kag n ad ad') {v : Value} (h : kok n v = true) : zV ad' v = zV ad v := by
  cases v with
  | ref k =>
    have h1 : k < n ∨ 999 ≤ k := by simpa [kok] using h
    show Value.ref (ad' k) = Value.ref (ad k)
    rw [hg k h1]
  | _ => rfl
theorem kok_Vs {n : Nat} {ad ad' : Nat → Nat} (hg : kag n ad ad') {vs : List Value} (h : vs.all (kok n) = true) : vs.map (zV ad') = vs.map (zV ad) := List.map_congr_left fun v hv => kok_V hg (List.all_eq_true.mp h v hv)
theorem kok_le {n m : Nat} (hle : n ≤ m) {v : Value} (h : kok n v = true) : kok m v = true := by
  cases v with
  | ref k =>
    have h1 : k < n ∨ 999 ≤ k := by simpa [kok] using h
    have h2 : k < m ∨ 999 ≤ k := h1.imp (fun z => Nat.lt_of_lt_of_le z hle) id
    simpa [kok] using h2
  | _ => rfl
theorem kwc_le {n m : Nat} (hle : n ≤ m) {c : zC} (h : kwc n c) : kwc m c := by
  rcases c with x | x | x
  · trivial
  · exact List.all_eq_true.mpr fun v hv => kok_le hle (List.all_eq_true.mp h v hv)
  · exact fun i k hk => (h i k hk).imp (fun z => Nat.lt_of_lt_of_le z hle) id
theorem kwc_E {n : Nat} {ad ad' : Nat → Nat} {cA cB : ClassId} (hg : kag n ad ad') {c : zC} (h : kwc n c) : zE ad' cA cB c = zE ad cA cB c := by
  rcases c with x | x | x
  · rfl
  · show (Sum.inr (x.1, x.2.map (zV ad')) : va_E) = Sum.inr (x.1, x.2.map (zV ad))
    rw [kok_Vs hg h]
  · show (Sum.inl (cB, x.1, .inr (.inr (.inr (.inr (fun i => (x.2 i).map ad'))))) : va_E) = Sum.inl (cB, x.1, .inr (.inr (.inr (.inr (fun i => (x.2 i).map ad)))))
    have e : (fun i => (x.2 i).map ad') = fun i => (x.2 i).map ad := by
      funext i
      cases hx : x.2 i with
      | none => rfl
      | some k => exact congrArg some (hg k (h i k hx))
    rw [e]
theorem kwh_W {n : Nat} {ad ad' : Nat → Nat} {cA cB : ClassId} (hg : kag n ad ad') : ∀ {h : List zC} {j : Nat}, kwh n h → j + h.length ≤ n → zWf ad' cA cB j h = zWf ad cA cB j h
  | [], _, _, _ => rfl
  | c :: h, j, hw, hl => by
    have hl2 : j + (h.length + 1) ≤ n := hl
    show (ad' j, zE ad' cA cB c) :: zWf ad' cA cB (j + 1) h = (ad j, zE ad cA cB c) :: zWf ad cA cB (j + 1) h
    rw [hg j (Or.inl (by omega)), kwc_E hg (hw c List.mem_cons_self), kwh_W hg (h := h) (j := j + 1) (fun d hd => hw d (List.mem_cons_of_mem _ hd)) (by omega)]
theorem zW_app {ad : Nat → Nat} {cA cB : ClassId} : ∀ {h l : List zC} {j : Nat}, zWf ad cA cB j (h ++ l) = zWf ad cA cB j h ++ zWf ad cA cB (j + h.length) l
  | [], _, _ => rfl
  | c :: h, l, j => by
    show (ad j, zE ad cA cB c) :: zWf ad cA cB (j + 1) (h ++ l) = (ad j, zE ad cA cB c) :: (zWf ad cA cB (j + 1) h ++ zWf ad cA cB (j + (h.length + 1)) l)
    rw [zW_app (h := h), show j + 1 + h.length = j + (h.length + 1) by omega]
theorem kL {n k : Nat} {ad ad' : Nat → Nat} (hg : kag n ad ad') {ls : List Value} {arr : Array Slot} (hw : ls.all (kok n) = true) (h : zL ad k ls arr) : zL ad' k ls arr := ⟨h.1, h.2.1, fun i v hi hv => by
  rw [kok_V hg (List.all_eq_true.mp hw v (List.mem_of_getElem? (by rw [← zn_eq]; exact hi)))]
  exact h.2.2 i v hi hv⟩
/-- a place more -/
def kup (ad : Nat → Nat) (n q : Nat) : Nat → Nat := fun i => if i = n then q else ad i
theorem kup_ag {ad : Nat → Nat} {n q : Nat} (h9 : n < 999) : kag n ad (kup ad n q) := fun i hi => if_neg (by omega)
theorem kup_self {ad : Nat → Nat} {n q : Nat} : kup ad n q n = q := if_pos rfl
theorem kup_W {ad : Nat → Nat} {cA cB : ClassId} {q : Nat} {h : List zC} {c : zC} {e : va_E} (hw : kwh h.length h) (h9 : h.length < 999) (he : zE (kup ad h.length q) cA cB c = e) : zW (kup ad h.length q) cA cB (h ++ [c]) = zW ad cA cB h ++ [(q, e)] := by
  show zWf _ _ _ 0 _ = _
  rw [zW_app, kwh_W (kup_ag h9) hw (by omega), Nat.zero_add]
  show _ ++ [(kup ad h.length q h.length, zE (kup ad h.length q) cA cB c)] = _
  rw [kup_self, he]
theorem kwh_push {h : List zC} {c : zC} (hw : kwh h.length h) (hc : kwc (h ++ [c]).length c) : kwh (h ++ [c]).length (h ++ [c]) := fun d hd => by
  rcases List.mem_append.mp hd with z | z
  · exact kwc_le (by rw [List.length_append]; exact Nat.le_add_right _ _) (hw d z)
  · rw [List.mem_singleton.mp z]; exact hc
theorem kwh_set {n a : Nat} {h : List zC} {c : zC} (hw : kwh n h) (hc : kwc n c) : kwh n (zs h a c) := fun d hd => by
  rw [zs_eq] at hd
  rcases List.mem_or_eq_of_mem_set hd with z | z
  · exact hw d z
  · rw [z]; exact hc
theorem zs_len {α : Type} (h : List α) (a : Nat) (c : α) : (zs h a c).length = h.length := by rw [zs_eq, List.length_set]
def kInv (ad : Nat → Nat) (D : va_G) (cA cB : ClassId) (h : List zC) (s : State) (A : Nat → Prop) (H : Heap) (locs : List Loc) : Prop := zInv ad D cA cB h s A H locs ∧ kwh h.length h
/-- where a stretch ends: place, locals, stack, world, cells and slots made by then -/
abbrev kF : Type := Nat × List Value × List Value × List zC × Nat × Nat
def kAO (U : State) : Prop := (Cond.arrayOver (.array .int)).before #[] U = true
theorem kAO_mv {args args' : Array Value} {s U : State} (hal : s.vm.Alike U.vm) (h : (Cond.arrayOver (.array .int)).before args s = true) : (Cond.arrayOver (.array .int)).before args' U = true := by
  have h1 := (Jvm.Cond.arrayOver_setVmC (args := args) hal (.array .int)).trans h
  simp only [Cond.before, Cond.holds, Cond.value, State.vm_setVm] at h1 ⊢
  exact h1
def kCtx (Y : zM) (d : Nat) (F : kF) (p : Program) (R : Room) (s : State) (m : MethodId) (args : Array Value) (meth : Method) (c : Code) (D : va_G) (cA cB : ClassId) (A : Nat → Prop) : Prop :=
  p.tables.exec = Jvm.exec ∧ c.code = Y.2.1 ∧ c.maxLocals = Y.2.2.1 ∧ s.vm.findClass Y.1.cls = some m.cls ∧ (∀ w ∈ zBig, w.before args s = true) ∧ va_K D vwCl (zT cA cB) s ∧ (∀ q, s.heap.size ≤ q → A q) ∧ ((Y.1.name = "<init>" → meth.name = "<init>") ∧ kAO s) ∧ (d ≤ R.frames ∧ 100 * d ≤ R.locals ∧ F.2.2.2.2.1 ≤ R.cells ∧ F.2.2.2.2.2 ≤ R.slots)
/-- from this place of the frame its end F is reached -/
def Kq (Y : zM) (d : Nat) (F : kF) (pc : Nat) (ls st : List Value) (h : List zC) (ca cs : Nat) : Prop :=
  ∀ (p : Program) (l : Launch) (e : Env) (R : Room) (s : State) (m : MethodId) (args : Array Value) (below : List Frame) (meth : Method) (c : Code) (Z : State → Prop) (ad : Nat → Nat) (D : va_G) (cA cB : ClassId) (A : Nat → Prop),
    kCtx Y d F p R s m args meth c D cA cB A →
    (∀ (ad' : Nat → Nat) (H : Heap) (locs : List Loc) (arr : Array Slot), kag h.length ad ad' → kInv ad' D cA cB F.2.2.2.1 s A H locs → zL ad' Y.2.2.1 F.2.1 arr → W p l e R s m args below meth c H locs F.2.2.2.2.1 F.2.2.2.2.2 Z (F0 m F.1 arr (F.2.2.1.map (zV ad')))) →
    ∀ (H : Heap) (locs : List Loc) (arr : Array Slot), kInv ad D cA cB h s A H locs → zL ad Y.2.2.1 ls arr → W p l e R s m args below meth c H locs ca cs Z (F0 m pc arr (st.map (zV ad)))
theorem k_end {Y : zM} {d pc : Nat} {ls st : List Value} {h : List zC} {ca cs : Nat} : Kq Y d (pc, ls, st, h, ca, cs) pc ls st h ca cs := by
  intro p l e R s m args below meth c Z ad D cA cB A C K H locs arr hI hL
  exact K ad H locs arr (kag.refl _ _) hI hL
theorem k_aload {Y : zM} {d : Nat} {F : kF} {pc pc' : Nat} {ls st : List Value} {h : List zC} {ca cs : Nat} {k : Fin 4} {i x : Nat} (hd : zd Y pc (.aload_n k) 1 pc') (hi : (k : Nat) = i) (hl : zn ls i = some (.ref x)) (kk : Kq Y d F pc' ls (.ref x :: st) h ca cs) : Kq Y d F pc ls st h ca cs := by
  intro p l e R s m args below meth c Z ad D cA cB A C K H locs arr hI hL
  obtain ⟨hd, rfl⟩ := hd
  exact lv_aload_n C.1 C.2.1 hd hi (zL_get hL hl rfl) (kk p l e R s m args below meth c Z ad D cA cB A C K H locs arr hI hL)
theorem k_astore {Y : zM} {d : Nat} {F : kF} {pc pc' : Nat} {ls st : List Value} {h : List zC} {ca cs : Nat} {k : Fin 4} {i x : Nat} (hd : zd Y pc (.astore_n k) 1 pc') (hi : (k : Nat) = i) (hn : i < Y.2.2.1) (kk : Kq Y d F pc' (zs ls i (.ref x)) st h ca cs) : Kq Y d F pc ls (.ref x :: st) h ca cs := by
  intro p l e R s m args below meth c Z ad D cA cB A C K H locs arr hI hL
  obtain ⟨hd, rfl⟩ := hd
  exact lv_astore_n C.1 C.2.1 hd hi (zK_has hL) hn rfl (fun arr' hl' => kk p l e R s m args below meth c Z ad D cA cB A C K H locs arr' hI (zL_put rfl hl'))
theorem k_istore {Y : zM} {d : Nat} {F : kF} {pc pc' : Nat} {ls st : List Value} {h : List zC} {ca cs : Nat} {k : Fin 4} {i : Nat} {x : Int32} (hd : zd Y pc (.istore_n k) 1 pc') (hi : (k : Nat) = i) (hn : i < Y.2.2.1) (kk : Kq Y d F pc' (zs ls i (.int x)) st h ca cs) : Kq Y d F pc ls (.int x :: st) h ca cs := by
  intro p l e R s m args below meth c Z ad D cA cB A C K H locs arr hI hL
  obtain ⟨hd, rfl⟩ := hd
  exact lv_istore_n C.1 C.2.1 hd hi (zK_has hL) hn rfl (fun arr' hl' => kk p l e R s m args below meth c Z ad D cA cB A C K H locs arr' hI (zL_put rfl hl'))
theorem k_iconst {Y : zM} {d : Nat} {F : kF} {pc pc' : Nat} {ls st : List Value} {h : List zC} {ca cs : Nat} {n : Int} {v : Int32} (hd : zd Y pc (.iconst n) 1 pc') (hv : Int32.ofInt n = v) (kk : Kq Y d F pc' ls (.int v :: st) h ca cs) : Kq Y d F pc ls st h ca cs := by
  intro p l e R s m args below meth c Z ad D cA cB A C K H locs arr hI hL
  obtain ⟨hd, rfl⟩ := hd
  exact lv_iconst C.1 C.2.1 hd hv (kk p l e R s m args below meth c Z ad D cA cB A C K H locs arr hI hL)
theorem k_bipush {Y : zM} {d : Nat} {F : kF} {pc pc' : Nat} {ls st : List Value} {h : List zC} {ca cs : Nat} {n : Int} {v : Int32} (hd : zd Y pc (.bipush n) 2 pc') (hv : (Int8.ofInt n).toInt32 = v) (kk : Kq Y d F pc' ls (.int v :: st) h ca cs) : Kq Y d F pc ls st h ca cs := by
  intro p l e R s m args below meth c Z ad D cA cB A C K H locs arr hI hL
  obtain ⟨hd, rfl⟩ := hd
  exact lv_bipush C.1 C.2.1 hd hv (kk p l e R s m args below meth c Z ad D cA cB A C K H locs arr hI hL)
theorem k_dup {Y : zM} {d : Nat} {F : kF} {pc pc' : Nat} {ls st : List Value} {h : List zC} {ca cs : Nat} {v : Value} (hd : zd Y pc (.dup) 1 pc') (hv : zg v = true) (kk : Kq Y d F pc' ls (v :: v :: st) h ca cs) : Kq Y d F pc ls (v :: st) h ca cs := by
  intro p l e R s m args below meth c Z ad D cA cB A C K H locs arr hI hL
  obtain ⟨hd, rfl⟩ := hd
  exact lv_dup C.1 C.2.1 hd (zg_V hv) (kk p l e R s m args below meth c Z ad D cA cB A C K H locs arr hI hL)
def kP (own : String) (i ci k : Nat) (ty : FieldType) : Prop := ∃ (q : vw_C) (ty0 : Nat → FieldType), vwCl[ci]? = some q ∧ k < q.2.2 ∧ (∀ w ∈ u_ws q.1 q.2.1 q.2.2, w ∈ zBig) ∧ Cond.fieldLink own i (q.2.1 k).1 (q.2.1 k).2.1 (q.2.1 k).2.2.1 ∈ zBig ∧ (∀ k, k < q.2.2 → parseFieldDescriptor (q.2.1 k).2.2.1 = some (ty0 k)) ∧ (∀ a, a < q.2.2 → ∀ b, b < q.2.2 → a ≠ b → (q.2.1 a).2.1 ≠ (q.2.1 b).2.1) ∧ ((q.2.1 k).2.2.2 = false ∨ ((q.2.1 k).2.2.2 = true ∧ (q.2.1 k).1 = own)) ∧ parseFieldDescriptor (q.2.1 k).2.2.1 = some ty
theorem k_getf {Y : zM} {d : Nat} {F : kF} {pc pc' : Nat} {ls st : List Value} {h : List zC} {ca cs : Nat} {i ci k a : Nat} {fs : List Value} {v : Value} {ty : FieldType} (hd : zd Y pc (.getfield i) 3 pc') (hp : kP Y.1.cls i ci k ty) (hh : zn h a = some (zO ci fs)) (hv : zn fs k = some v) (kk : Kq Y d F pc' ls (v :: st) h ca cs) : Kq Y d F pc ls (.ref a :: st) h ca cs := by
  intro p l e R s m args below meth c Z ad D cA cB A C K H locs arr hI hL
  obtain ⟨hd, rfl⟩ := hd
  obtain ⟨⟨C1, T, N⟩, ty0, hc, hk, hin, hl, hty, hnm, hfin, hpd⟩ := hp
  obtain ⟨hx, hb, hml, hown, hts, hK, hA, hnm9, hR⟩ := id C
  exact va_get hx hb hts hin hown hK hI.1.1 a (zW_get hh) hc k hk (hts _ hl) (fun _ h9 => h9) (zV_map_get hv) hd (kk p l e R s m args below meth c Z ad D cA cB A C K H locs arr hI hL)
theorem k_put {Y : zM} {d : Nat} {F : kF} {pc pc' : Nat} {ls st : List Value} {h : List zC} {ca cs : Nat} {i ci k a : Nat} {fs : List Value} {v : Value} {ty : FieldType} {h' : List zC} (hd : zd Y pc (.putfield i) 3 pc') (hp : kP Y.1.cls i ci k ty) (hy : Y.1.name = "<init>") (hh : zn h a = some (zO ci fs)) (hn : ∀ ad, narrow ty (zV ad v) = zV ad v ∧ fits ty (zV ad v) = true) (hl2 : k < fs.length) (hv : kok h.length v = true) (he : zs h a (zO ci (zs fs k v)) = h') (kk : Kq Y d F pc' ls st h' ca cs) : Kq Y d F pc ls (v :: .ref a :: st) h ca cs := by
  intro p l e R s m args below meth c Z ad D cA cB A C K H locs arr hI hL
  obtain ⟨hd, rfl⟩ := hd
  subst he
  obtain ⟨⟨C1, T, N⟩, ty0, hc, hk, hin, hl, hty, hnm, hfin, hpd⟩ := hp
  obtain ⟨hx, hb, hml, hown, hts, hK, hA, hnm9, hR⟩ := id C
  obtain ⟨⟨hP, hD, hS⟩, hw⟩ := hI
  have e0 : (ad a, (Sum.inr (ci, (fs.map (zV ad)).set k (zV ad v)) : va_E)) = (ad a, zE ad cA cB (zO ci (zs fs k v))) := by
    show _ = (ad a, (Sum.inr (ci, (zs fs k v).map (zV ad)) : va_E))
    rw [zV_map_set]
  have hlen : (zs h a (zO ci (zs fs k v))).length = h.length := zs_len _ _ _
  have hfs : kwc h.length (zO ci fs) := hw _ (List.mem_of_getElem? (by rw [← zn_eq]; exact hh))
  have hw2 : kwh (zs h a (zO ci (zs fs k v))).length (zs h a (zO ci (zs fs k v))) := by
    rw [hlen]
    refine kwh_set hw (List.all_eq_true.mpr fun x hx => ?_)
    have hx : x ∈ zs fs k v := hx
    rw [zs_eq] at hx
    rcases List.mem_or_eq_of_mem_set hx with z | z
    · exact List.all_eq_true.mp hfs x z
    · rw [z]; exact hv
  have go : ∀ (H1 : Heap) (locs1 : List Loc), va_P D vwCl ((zW ad cA cB h).set a (ad a, .inr (ci, (fs.map (zV ad)).set k (zV ad v)))) H1 → va_D A ((zW ad cA cB h).set a (ad a, .inr (ci, (fs.map (zV ad)).set k (zV ad v)))) → va_S A s.heap H1 locs1 → W p l e R s m args below meth c H1 locs1 ca cs Z (F0 m (pc + 3) arr (st.map (zV ad))) := by
    intro H1 locs1 hP1 hD1 hS1
    rw [e0, ← zW_set] at hP1 hD1
    exact kk p l e R s m args below meth c Z ad D cA cB A C (fun ad' H' locs' arr' hg => K ad' H' locs' arr' (by rw [hlen] at hg; exact hg)) H1 locs1 arr ⟨⟨hP1, hD1, hS1⟩, hw2⟩ hL
  have hl3 : k < (fs.map (zV ad)).length := by rw [List.length_map]; exact hl2
  rcases hfin with hfin | ⟨hfin, hdecl⟩
  · exact va_put hx hb hts hin ty0 hty hnm hown hK hP hD hS a (zW_get hh) hc k hk (hts _ hl) (fun _ h9 => h9) hfin hpd (hn ad).1 (hn ad).2 hl3 hd go
  · exact va_putF hx hb hts hin ty0 hty hnm hown hK hP hD hS a (zW_get hh) hc k hk (hts _ hl) (fun _ h9 => h9) hfin (hnm9.1 hy) hdecl hpd (hn ad).1 (hn ad).2 hl3 hd go
theorem k_iast {Y : zM} {d : Nat} {F : kF} {pc pc' : Nat} {ls st : List Value} {h : List zC} {ca cs : Nat} {a n j : Nat} {f : Nat → Int32} {x v : Int32} {h' : List zC} (hd : zd Y pc .iastore 1 pc') (hh : zn h a = some (zI n f)) (hx : x = nI j) (hj : j < n) (hn : n < 2 ^ 31) (he : zs h a (zI n (upd f j v)) = h') (kk : Kq Y d F pc' ls st h' ca cs) : Kq Y d F pc ls (.int v :: .int x :: .ref a :: st) h ca cs := by
  intro p l e R s m args below meth c Z ad D cA cB A C K H locs arr hI hL
  obtain ⟨hd, rfl⟩ := hd
  subst hx
  subst he
  obtain ⟨⟨hP, hD, hS⟩, hw⟩ := hI
  have hlen : (zs h a (zI n (upd f j v))).length = h.length := zs_len _ _ _
  refine va_iast (a := ad a) (i := nI j) C.1 C.2.1 C.2.2.2.2.2.1 hP hD hS a 0 (zW_get hh) rfl (vp_in_nI hj hn) hd (fun H1 locs1 hP1 hD1 hS1 => ?_)
  rw [nI_clamp (Nat.lt_trans hj hn)] at hP1 hD1
  refine kk p l e R s m args below meth c Z ad D cA cB A C (fun ad' H' locs' arr' hg => K ad' H' locs' arr' (by rw [hlen] at hg; exact hg)) H1 locs1 arr ⟨⟨?_, ?_, hS1⟩, by rw [hlen]; exact kwh_set hw trivial⟩ hL
  · rw [zW_set]; exact hP1
  · rw [zW_set]; exact hD1
def kOb (own : String) (i : Nat) : Prop := Cond.methodLink own i Lib.objectInit ∈ zBig ∧ Cond.instanceMethod Lib.objectInit ∈ zBig ∧ Cond.code Lib.objectInit ⟨#[0xb1]⟩ 1 none ∈ zBig
theorem k_obj {Y : zM} {d : Nat} {F : kF} {pc pc' : Nat} {ls st : List Value} {h : List zC} {ca cs : Nat} {i a : Nat} (hd : zd Y pc (.invokespecial i) 3 pc') (ho : kOb Y.1.cls i) (hd1 : 1 ≤ d) (hst : (st.map fun v => v.category).sum ≤ 8) (kk : Kq Y d F pc' ls st h ca cs) : Kq Y d F pc ls (.ref a :: st) h ca cs := by
  intro p l e R s m args below meth c Z ad D cA cB A C K H locs arr hI hL
  obtain ⟨hd, rfl⟩ := hd
  obtain ⟨hx, hb, hml, hown, hts, hK, hA, hnm9, hR⟩ := id C
  refine W.objInit (g := F0 m pc arr (.ref (ad a) :: st.map (zV ad))) (rest := st.map (zV ad)) hx hb hown (hts _ ho.1) (hts _ ho.2.1) (hts _ ho.2.2) rfl (by rw [hml]; exact hL.1) rfl hd (by omega) ?_ ?_
  · have h8 : 2 * (F0 m pc arr (.ref (ad a) :: st.map (zV ad))).monitorRoom + ((st.map (zV ad)).map fun v => v.category).sum ≤ 8 := lv_room (by rw [zV_sum]; exact hst)
    omega
  · exact kk p l e R s m args below meth c Z ad D cA cB A C K H locs arr hI hL
theorem kRA {D : va_G} {cA cB cA' : ClassId} {U : State} (h : va_K D vwCl (zT cA cB ++ [(cA', .int)]) U) : cA' = cA := by
  have h1 : U.vm.findClass ("[" ++ FieldType.int.toString) = some cA' := (h.2 2 _ rfl).2
  have h2 : U.vm.findClass ("[" ++ FieldType.int.toString) = some cA := (h.2 0 _ rfl).2
  exact Option.some.inj (h1.symm.trans h2)
theorem kAr : Cond.arrayClass (newarray.typeOf .int) ∈ zBig := zBig_tab 46 (by decide +kernel) (by decide +kernel)
theorem k_newa {Y : zM} {d : Nat} {F : kF} {pc pc' : Nat} {ls st : List Value} {h : List zC} {ca cs : Nat} {n q ca' cs' : Nat} {h' : List zC} (hd : zd Y pc (.newarray .int) 2 pc') (hn : n ≤ 1000) (hq : h.length = q) (h9 : q < 999) (hw9 : (ls ++ st).all (kok q) = true) (he : h ++ [zI n (fun _ => 0)] = h') (hca : ca + 1 = ca') (hcs : cs + n = cs') (h1 : ca' ≤ F.2.2.2.2.1) (h2 : cs' ≤ F.2.2.2.2.2) (kk : Kq Y d F pc' ls (.ref q :: st) h' ca' cs') : Kq Y d F pc ls (.int (nI n) :: st) h ca cs := by
  intro p l e R s m args below meth c Z ad D cA cB A C K H locs arr hI hL
  obtain ⟨hd, rfl⟩ := hd
  subst hq; subst he; subst hca; subst hcs
  obtain ⟨hx, hb, hml, hown, hts, hK, hA, hnm9, hR⟩ := id C
  obtain ⟨⟨hP, hD, hS⟩, hw⟩ := hI
  have hw9 := List.all_eq_true.mp hw9
  refine va_newa (ty := .int) (a0 := (n, .inl (fun _ => 0))) (N' := n) hx hb (hts _ kAr) rfl hK hP hD hS hA (fun _ => rfl) (nI_pos (by omega)) (nI_clamp (by omega)) (by show n * 4 ≤ _; omega) (by omega) (by omega) hd (fun q cA' H1 hK1 hP1 hD1 hS1 => ?_)
  cases kRA hK1
  have hag : kag h.length ad (kup ad h.length q) := kup_ag h9
  have e1 : zW (kup ad h.length q) cA cB (h ++ [zI n (fun _ => 0)]) = zW ad cA cB h ++ [(q, .inl (cA, n, .inl (fun _ => 0)))] := kup_W hw h9 rfl
  have e2 : (Value.ref h.length :: st).map (zV (kup ad h.length q)) = Value.ref q :: st.map (zV ad) := by
    show Value.ref (kup ad h.length q h.length) :: st.map (zV (kup ad h.length q)) = _
    rw [kup_self, kok_Vs hag (List.all_eq_true.mpr fun v hv => hw9 v (List.mem_append_right _ hv))]
  have hkk := kk p l e R s m args below meth c Z (kup ad h.length q) D cA cB A C (fun ad' H' locs' arr' hg => K ad' H' locs' arr' (hag.trans hg (by rw [List.length_append]; exact Nat.le_add_right _ _))) H1 locs arr ⟨⟨by rw [e1]; exact hP1, by rw [e1]; exact hD1, hS1⟩, kwh_push hw trivial⟩ (kL hag (List.all_eq_true.mpr fun v hv => hw9 v (List.mem_append_left _ hv)) hL)
  rw [e2] at hkk
  exact hkk
def k0 : Value → Bool
  | .ref _ => false
  | _ => true
theorem k0_ok {n : Nat} {v : Value} (h : k0 v = true) : kok n v = true := by
  cases v with
  | ref k => cases h
  | _ => rfl
def kN (own : String) (i ci : Nat) (fs : List Value) : Prop := ∃ (q : vw_C) (ty0 : Nat → FieldType), vwCl[ci]? = some q ∧ (∀ w ∈ u_ws q.1 q.2.1 q.2.2, w ∈ zBig) ∧ (∀ k, k < q.2.2 → parseFieldDescriptor (q.2.1 k).2.2.1 = some (ty0 k)) ∧ Cond.classLink own i q.1 ∈ zBig ∧ Cond.instantiable q.1 q.2.2 ∈ zBig ∧ Cond.initialized q.1 ∈ zBig ∧ (∀ j, j < q.2.2 → defaultValue (ty0 j) = vp_V fs j) ∧ q.2.2 = fs.length ∧ fs.all k0 = true
theorem k_new {Y : zM} {d : Nat} {F : kF} {pc pc' : Nat} {ls st : List Value} {h : List zC} {ca cs : Nat} {i ci q ca' cs' : Nat} {fs : List Value} {h' : List zC} (hd : zd Y pc (.new i) 3 pc') (hN : kN Y.1.cls i ci fs) (hq : h.length = q) (h9 : q < 999) (hw9 : (ls ++ st).all (kok q) = true) (he : h ++ [zO ci fs] = h') (hca : ca + 1 = ca') (hcs : cs + fs.length = cs') (h1 : ca' ≤ F.2.2.2.2.1) (h2 : cs' ≤ F.2.2.2.2.2) (kk : Kq Y d F pc' ls (.ref q :: st) h' ca' cs') : Kq Y d F pc ls st h ca cs := by
  intro p l e R s m args below meth c Z ad D cA cB A C K H locs arr hI hL
  obtain ⟨hd, rfl⟩ := hd
  subst hq; subst he; subst hca; subst hcs
  obtain ⟨hx, hb, hml, hown, hts, hK, hA, hnm9, hR⟩ := id C
  obtain ⟨⟨hP, hD, hS⟩, hw⟩ := hI
  obtain ⟨⟨C1, T, N⟩, ty0, hc, hin, hty, g1, g2, g3, hfs, hNl, hf0⟩ := hN
  have hNl : N = fs.length := hNl
  subst hNl
  have hw9 := List.all_eq_true.mp hw9
  have hf1 : ∀ ad : Nat → Nat, fs.map (zV ad) = fs := fun ad => by
    have h5 : fs.map (zV ad) = fs.map id := List.map_congr_left fun v hv => by
      have h6 := List.all_eq_true.mp hf0 v hv
      cases v with
      | ref k => cases h6
      | _ => rfl
    rw [h5, List.map_id]
  refine va_new hx hb hts hin ty0 hty hown (hts _ g1) (hts _ g2) (hts _ g3) hK hP hD hS hA hc (fs := fs) hfs (by omega) (by omega) hd (fun q H1 hP1 hD1 hS1 => ?_)
  have hag : kag h.length ad (kup ad h.length q) := kup_ag h9
  have e1 : zW (kup ad h.length q) cA cB (h ++ [zO ci fs]) = zW ad cA cB h ++ [(q, .inr (ci, fs))] := kup_W hw h9 (by
    show (Sum.inr (ci, fs.map (zV (kup ad h.length q))) : va_E) = Sum.inr (ci, fs)
    rw [hf1])
  have e2 : (Value.ref h.length :: st).map (zV (kup ad h.length q)) = Value.ref q :: st.map (zV ad) := by
    show Value.ref (kup ad h.length q h.length) :: st.map (zV (kup ad h.length q)) = _
    rw [kup_self, kok_Vs hag (List.all_eq_true.mpr fun v hv => hw9 v (List.mem_append_right _ hv))]
  have hkk := kk p l e R s m args below meth c Z (kup ad h.length q) D cA cB A C (fun ad' H' locs' arr' hg => K ad' H' locs' arr' (hag.trans hg (by rw [List.length_append]; exact Nat.le_add_right _ _))) H1 locs arr ⟨⟨by rw [e1]; exact hP1, by rw [e1]; exact hD1, hS1⟩, kwh_push hw (List.all_eq_true.mpr fun v hv => k0_ok (List.all_eq_true.mp hf0 v hv))⟩ (kL hag (List.all_eq_true.mpr fun v hv => hw9 v (List.mem_append_left _ hv)) hL)
  rw [e2] at hkk
  exact hkk
/-- a constructor -/
def kPB (ad : Nat → Nat) (D : va_G) (cA cB : ClassId) (h : List zC) (sz : Nat) : State → Prop := fun U => U.heap.size = sz ∧ va_P D vwCl (zW ad cA cB h) U.heap ∧ va_K D vwCl (zT cA cB) U ∧ va_D (fun _ => True) (zW ad cA cB h) ∧ kAO U
def kQB (ad : Nat → Nat) (D : va_G) (cA cB : ClassId) (h : List zC) (sz : Nat) (h1 : List zC) : (Nat → Nat) → State → Prop := fun ad' t => va_P D vwCl (zW ad' cA cB h1) t.heap ∧ va_K D vwCl (zT cA cB) t ∧ va_D (va_A (zW ad cA cB h) sz) (zW ad' cA cB h1)
def kRm (d nc ns : Nat) : Room := { frames := d, cells := nc, slots := ns, locals := 100 * d }
def Mk (Y : zM) (d k : Nat) (h h1 : List zC) (nc ns : Nat) : Prop :=
  ∀ (l : Launch) (ad : Nat → Nat) (D : va_G) (cA cB : ClassId) (sz : Nat), kwh h.length h → Met l Y.1 (zWs Y) (kRm d nc ns) (va_Pc [.ref (ad k)] (kPB ad D cA cB h sz)) (va_Qv (fun ad' => kag h.length ad ad' ∧ kwh h1.length h1) (kQB ad D cA cB h sz h1) (va_A (zW ad cA cB h) sz)) nc ns (va_A (zW ad cA cB h) sz)
theorem kBlind {ad : Nat → Nat} {D : va_G} {cA cB : ClassId} {h : List zC} {sz : Nat} {As : List Value} : FrameBlind (va_Pc As (kPB ad D cA cB h sz)) := by
  intro a U g mk q
  obtain ⟨q0, q1, q2, q3, q4, q5⟩ := q
  exact ⟨q0, q1, q2, va_K.moved (u := U) (U := U.calling g mk a) (Vm.Alike.refl U.vm) q3, q4, kAO_mv (s := U) (U := U.calling g mk a) (Vm.Alike.refl U.vm) q5⟩
theorem Mk.of {Y : zM} {d k pc nc ns : Nat} {ls : List Value} {h h1 : List zC} (hy : plainName Y.1.cls = true) (hr0 : Y.2.2.2 = none) (hni : Y.1.name = "<init>") (hn : 1 ≤ Y.2.2.1) (hd : decode Y.2.1 pc = .ok (.return_, 1)) (kk : Kq Y d (pc, ls, [], h1, nc, ns) 0 (zL0 Y.2.2.1 [.ref k]) [] h 0 0) : Mk Y d k h h1 nc ns := by
  intro l ad D cA cB sz hwh
  refine Met.ofW (cc := Y.2.1) (maxL := Y.2.2.1) (ret := Y.2.2.2) hy rfl ?_
  intro p e s m args below meth c s₁ B hml hv
  obtain ⟨rfl, hsz, hP, hK, hD0, hao⟩ := hv
  have hts := atoms_spec (ws := zWs Y) B.pre
  subst hsz
  have hlocks := B.notSynchronized
  rw [lg_entry_eq]
  refine kk p l e _ s m _ below meth c _ ad D cA cB (va_A (zW ad cA cB h) s.heap.size) ⟨B.exec, B.bytes, hml, findClass_of_methodNamed B.named, fun w hw => hts w (List.mem_cons_of_mem _ hw), hK, fun q hq => Or.inr hq, ⟨fun _ => (name_of_methodNamed B.named B.method).1.trans hni, hao⟩, ⟨Nat.le_refl _, Nat.le_refl _, Nat.le_refl _, Nat.le_refl _⟩⟩ ?_ s.heap [] _ ⟨⟨hP, hD0.self, va_S.rf⟩, hwh⟩ (zL_entry (As := [.ref k]) rfl hn)
  intro ad' H locs arr hg hI hl
  obtain ⟨⟨hP', hD', hS'⟩, hw'⟩ := hI
  exact W.vret B.exec B.bytes (B.returns.trans hr0) (fun t ht hW => ⟨⟨ad', rfl, ⟨hg, hw'⟩, by rw [ht]; exact hP', va_K.moved hW.alike hK, hD'⟩, hS'.F ht⟩) hS'.2.2 hd
def kI (own : String) (i : Nat) (Y : zM) : Prop := Cond.initialized Y.1.cls ∈ zBig ∧ Cond.methodLink own i Y.1 ∈ zBig ∧ Cond.instanceMethod Y.1 ∈ zBig ∧ Cond.code Y.1 Y.2.1 Y.2.2.1 Y.2.2.2 ∈ zBig ∧ Y.1.name = "<init>" ∧ Y.2.2.2 = none ∧ (Y.1.cls ≠ "java/lang/invoke/MethodHandle" ∧ Y.1.cls ≠ "java/lang/invoke/VarHandle" ∧ (parseMethodDescriptor Y.1.desc).map (fun d => d.parameters.length) = some 0) ∧ Y.2.2.1 ≤ 40
theorem k_init {Y : zM} {d : Nat} {F : kF} {pc pc' : Nat} {ls st : List Value} {h : List zC} {ca cs : Nat} {Y' : zM} {d' i k nc ns ca' cs' : Nat} {h1 : List zC} (hd : zd Y pc (.invokespecial i) 3 pc') (hm : kI Y.1.cls i Y') (hM : Mk Y' d' k h h1 nc ns) (hle : h.length ≤ h1.length) (hw9 : (ls ++ st).all (kok h.length) = true) (hdd : d' + 1 ≤ d) (hst : (st.map fun v => v.category).sum ≤ 8) (hca : ca + nc = ca') (hcs : cs + ns = cs') (h5 : ca' ≤ F.2.2.2.2.1) (h6 : cs' ≤ F.2.2.2.2.2) (kk : Kq Y d F pc' ls st h1 ca' cs') : Kq Y d F pc ls (.ref k :: st) h ca cs := by
  intro p l e R s m args below meth c Z ad D cA cB A C K H locs arr hI hL
  obtain ⟨hd, rfl⟩ := hd
  subst hca; subst hcs
  obtain ⟨hx, hb, hml, hown, hts, hK, hA, hnm9, hR⟩ := id C
  obtain ⟨⟨hP, hD, hS⟩, hw⟩ := id hI
  obtain ⟨m1, m2, m3, m4, m5, m6, m7, m8⟩ := hm
  have hw9 := List.all_eq_true.mp hw9
  have hroom : (kRm d' nc ns).frames + 1 ≤ R.frames ∧ 8 + (Y'.2.2.1 + 11) + (kRm d' nc ns).locals ≤ R.locals := by
    have h1 : (kRm d' nc ns).frames = d' := rfl
    have h2 : (kRm d' nc ns).locals = 100 * d' := rfl
    omega
  have hG : GoodIn zBig (zWs Y') := zGood fun w hw => by
    rcases List.mem_cons.mp hw with z | z
    · rw [z]; exact m4
    · exact z
  have hpre : ∀ U : State, U.heap = H → s.WarmedH U.vm → (va_Pc [.ref (ad k)] (kPB ad D cA cB h H.size)) ([.ref (ad k)] : List Value).toArray U := fun U hU hW => ⟨rfl, by rw [hU], by rw [hU]; exact hP, va_K.moved hW.alike hK, hD.weaken (fun _ _ _ _ => trivial), kAO_mv hW.alike hnm9.2⟩
  refine va_callv (va_runI (As := []) (rest := st.map (zV ad)) (b := ad k) ⟨hx, hb, hml, hown, hts⟩ (hM l ad D cA cB H.size hw) (cwI 0 hts hG (by unfold zWs; rw [m6]) rfl rfl (hts _ m1) (hts _ m2) (hts _ m3) m5 m7 hroom) ⟨kBlind, hpre⟩ rfl rfl hL.1 rfl (lv_room (by rw [zV_sum]; exact hst)) hd ⟨by omega, by omega⟩) hS (fun q _ hq => zA_sub hI.1 hA q hq) (zA_sub hI.1 hA) (fun ad' t H1 locs1 ht hvm hw1 hB hz1 hk1 hS1 => ?_)
  obtain ⟨hag, hw2⟩ := hw1
  obtain ⟨q1, -, q3⟩ := hB
  rw [ht] at q1
  have e2 : st.map (zV ad') = st.map (zV ad) := kok_Vs hag (List.all_eq_true.mpr fun v hv => hw9 v (List.mem_append_right _ hv))
  have hkk := kk p l e R s m args below meth c Z ad' D cA cB A C (fun ad2 H' locs' arr' hg => K ad2 H' locs' arr' (hag.trans hg hle)) H1 locs1 arr ⟨⟨q1, q3.weaken (fun _ q _ hq => zA_sub hI.1 hA q.1 hq), hS1⟩, hw2⟩ (kL hag (List.all_eq_true.mpr fun v hv => hw9 v (List.mem_append_left _ hv)) hL)
  rw [e2] at hkk
  exact hkk
