abbrev tw_V : Type := Int32 ⊕ Nat
abbrev tw_M : Type := Nat → Nat → Int32
abbrev tw_P : Type := Option Int32 → tw_M → Prop
def tw_v (ad : Nat → Nat) (v : tw_V) : Value := match v with
  | .inl x => .int x
  | .inr q => .ref (ad q)
theorem tw_cat (ad : Nat → Nat) (v : tw_V) : (tw_v ad v).category = 1 := by cases v <;> rfl
def tw_set (M : tw_M) (q k : Nat) (x : Int32) : tw_M := fun a b => if a = q ∧ b = k then x else M a b
theorem tw_set_s (M : tw_M) (q k : Nat) (x : Int32) : tw_set M q k x q k = x := by simp [tw_set]
theorem tw_set_k (M : tw_M) {q k b : Nat} (x : Int32) (h : b ≠ k) : tw_set M q k x q b = M q b := by simp [tw_set, h]
theorem tw_set_q (M : tw_M) {q k a : Nat} (x : Int32) (h : a ≠ q) : tw_set M q k x a = M a := by funext b; simp [tw_set, h]
theorem tw_set_u (M : tw_M) (q k : Nat) (x : Int32) : tw_set M q k x q = upd (M q) k x := by
  funext b
  by_cases h : b = k
  · subst h; simp [tw_set, upd]
  · simp [tw_set, upd, h]
def tw_fv (ad : Nat → Nat) (f : Nat → Int32) (k : Nat) (e : Option Nat) : Value := match e with
  | none => .int (f k)
  | some q => .ref (ad q)
def tw_sh (cs : Nat → ClassId) (ad : Nat → Nat) (y : tw_Y) (f : Nat → Int32) : va_E := match y with
  | .inl (ci, L) => .inr (ci, L.mapIdx fun k e => tw_fv ad f k e)
  | .inr (0, n, _) => .inl (cs 0, n, .inl f)
  | .inr (1, n, _) => .inl (cs 1, n, .inl f)
  | .inr (_, n, b) => .inl (cs 2, n, .inr (.inr (.inr (.inr fun i => some (ad (b + i))))))
def tw_w (cs : Nat → ClassId) (ad : Nat → Nat) (M : tw_M) : va_W := (List.range tw_NC).map fun q => (ad q, tw_sh cs ad (tw_lay q) (M q))
abbrev tw_tys (cs : Nat → ClassId) : List (ClassId × FieldType) := [(cs 0, .int), (cs 1, .boolean), (cs 2, .array .int)]
def tw_inj (ad : Nat → Nat) : Prop := ∀ i j, i < tw_NC → j < tw_NC → ad i = ad j → i = j
def tw_A (ad : Nat → Nat) (a : Nat) : Prop := ∃ q, q < tw_NC ∧ ad q = a
theorem tw_w_get {cs : Nat → ClassId} {ad : Nat → Nat} {M : tw_M} {q : Nat} (h : q < tw_NC) : (tw_w cs ad M)[q]? = some (ad q, tw_sh cs ad (tw_lay q) (M q)) := by
  simp [tw_w, List.getElem?_map, List.getElem?_range h]
theorem tw_w_out {cs : Nat → ClassId} {ad : Nat → Nat} {M : tw_M} {q : Nat} {x : Nat × va_E} (h : (tw_w cs ad M)[q]? = some x) : q < tw_NC ∧ x = (ad q, tw_sh cs ad (tw_lay q) (M q)) := by
  have hq : q < tw_NC := by
    have h1 := (List.getElem?_eq_some_iff.mp h).1
    simpa [tw_w] using h1
  rw [tw_w_get hq] at h
  exact ⟨hq, (Option.some.inj h).symm⟩
theorem tw_w_set {cs : Nat → ClassId} {ad : Nat → Nat} {M : tw_M} {q k : Nat} {x : Int32} {e : va_E} (he : e = tw_sh cs ad (tw_lay q) (upd (M q) k x)) : (tw_w cs ad M).set q (ad q, e) = tw_w cs ad (tw_set M q k x) := by
  subst he
  apply List.ext_getElem?
  intro i
  by_cases hi : i < tw_NC
  · rw [tw_w_get hi, List.getElem?_set]
    by_cases e : q = i
    · subst e
      have h1 : q < (tw_w cs ad M).length := by simpa [tw_w] using hi
      rw [if_pos rfl, if_pos h1, tw_set_u]
    · rw [if_neg e, tw_w_get hi, tw_set_q M x (fun h => e h.symm)]
  · have h1 : (tw_w cs ad (tw_set M q k x)).length ≤ i := by simp only [tw_w, List.length_map, List.length_range]; omega
    have h2 : ((tw_w cs ad M).set q (ad q, tw_sh cs ad (tw_lay q) (upd (M q) k x))).length ≤ i := by simp only [tw_w, List.length_set, List.length_map, List.length_range]; omega
    rw [List.getElem?_eq_none h1, List.getElem?_eq_none h2]
theorem tw_w_D {cs : Nat → ClassId} {ad : Nat → Nat} (h : tw_inj ad) (M : tw_M) : va_D (tw_A ad) (tw_w cs ad M) := by
  refine ⟨fun i j x y hi hj e => ?_, fun k x hk => ?_⟩
  · obtain ⟨a1, rfl⟩ := tw_w_out hi
    obtain ⟨a2, rfl⟩ := tw_w_out hj
    exact h i j a1 a2 e
  · obtain ⟨a1, rfl⟩ := tw_w_out hk
    exact ⟨k, a1, rfl⟩
theorem tw_fs_get {ad : Nat → Nat} {f : Nat → Int32} {L : List (Option Nat)} {k : Nat} {e : Option Nat} (h : L[k]? = some e) : (L.mapIdx fun k e => tw_fv ad f k e)[k]? = some (tw_fv ad f k e) := by
  rw [List.getElem?_mapIdx, h]; rfl
theorem tw_fs_set {ad : Nat → Nat} {f : Nat → Int32} {L : List (Option Nat)} {k : Nat} {x : Int32} (h : L[k]? = some none) : (L.mapIdx fun k e => tw_fv ad f k e).set k (.int x) = L.mapIdx fun i e => tw_fv ad (upd f k x) i e := by
  apply List.ext_getElem?
  intro i
  rw [List.getElem?_set, List.getElem?_mapIdx, List.getElem?_mapIdx]
  by_cases e : k = i
  · subst e
    have h1 : k < L.length := (List.getElem?_eq_some_iff.mp h).1
    rw [if_pos rfl, if_pos (by simpa using h1), h]
    simp [tw_fv, upd]
  · rw [if_neg e]
    cases hi : L[i]? with
    | none => rfl
    | some o =>
      cases o with
      | none => simp [tw_fv, upd, show ¬ i = k from fun q => e q.symm]
      | some q => rfl
def tw_WS : List Cond := lw_tbl.filter goodWord
theorem tw_in_ws (i : Nat) {w : Cond} (h : lw_tbl[i]? = some w) (g : goodWord w = true) : w ∈ tw_WS := List.mem_filter.mpr ⟨List.mem_of_getElem? h, g⟩
theorem tw_good {ws : List Cond} (h : ∀ w ∈ ws, w ∈ tw_WS) : GoodIn tw_WS ws := fun w hw => ⟨h w hw, good_of_word (List.mem_filter.mp (h w hw)).2⟩
abbrev tw_J : Type := MethodName × ByteArray × Nat × Option FieldType × List (Nat × Jvm.ClassFile.Instr × Nat)
def tw_ins (j : tw_J) (pc : Nat) : Option (Jvm.ClassFile.Instr × Nat) := j.2.2.2.2.lookup pc
def tw_dec (j : tw_J) : Prop := ∀ pc e, tw_ins j pc = some e → decode j.2.1 pc = .ok e
theorem tw_lookup_mem {α : Type} {l : List (Nat × α)} {a : Nat} {b : α} (h : l.lookup a = some b) : (a, b) ∈ l := by
  induction l with
  | nil => cases h
  | cons x xs ih =>
    obtain ⟨k, v⟩ := x
    by_cases e : a = k
    · subst e
      simp [List.lookup] at h
      simp [h]
    · have e2 : (a == k) = false := by simp [e]
      simp only [List.lookup, e2] at h
      exact List.mem_cons_of_mem _ (ih h)
theorem tw_dec_of {j : tw_J} (h : j.2.2.2.2.all (fun q => decide (decode j.2.1 q.1 = .ok q.2)) = true) : tw_dec j := by
  intro pc e he
  have h1 := List.all_eq_true.mp h _ (tw_lookup_mem he)
  exact of_decide_eq_true h1
def tw_rm (d : Nat) : Room := { frames := d, cells := 0, slots := 0, locals := 40 * d }
abbrev tw_Sc : Type := Option (Nat × (Nat → Int32))
def tw_L (ad : Nat → Nat) (ls : Array Slot) (nL : Nat) (lv : List (Option tw_V)) : Prop := ls.size = nL ∧ lv_wf ls ∧ ∀ (i : Nat) (v : tw_V), lv[i]? = some (some v) → ls[i]? = some (.val (tw_v ad v))
def tw_X (d : Nat) (j : tw_J) (sc : tw_Sc) (p : Program) (R : Room) (s : State) (m : MethodId) (args : Array Value) (c : Code) (G : va_G) (cs : Nat → ClassId) (ad : Nat → Nat) (H0 : Heap) (cells slots : Nat) : Prop :=
  p.tables.exec = Jvm.exec ∧ c.code = j.2.1 ∧ c.maxLocals = j.2.2.1 ∧ s.vm.findClass j.1.cls = some m.cls ∧ (∀ w ∈ tw_WS, w.before args s = true) ∧ va_K G tw_cl (tw_tys cs) s ∧ tw_inj ad ∧ (d + 1 ≤ R.frames ∧ 40 * d + 40 ≤ R.locals ∧ cells ≤ R.cells ∧ slots ≤ R.slots) ∧ (∀ L xs, sc = some (L, xs) → va_X (ad tw_NC) L xs s H0 ∧ ad tw_NC < H0.size ∧ ¬ tw_A ad (ad tw_NC)) ∧ tw_dec j
def tw_rop (r : Option Int32) : Jvm.ClassFile.Instr := match r with
  | none => .return_
  | some _ => .ireturn
def tw_nr (t : Option FieldType) (r : Option Int32) : Prop := match t, r with
  | none, none => True
  | some ty, some v => narrow ty (.int v) = .int v
  | _, _ => False
def tw_T (sc : tw_Sc) (d : Nat) (j : tw_J) (M : tw_M) (pc : Nat) (lv : List (Option tw_V)) (st : List tw_V) (Q : tw_P) : Prop :=
  ∀ (p : Program) (l : Launch) (e : Env) (R : Room) (s : State) (m : MethodId) (args : Array Value) (below : List Frame) (meth : Method) (c : Code) (G : va_G) (cs : Nat → ClassId) (ad : Nat → Nat) (H0 : Heap) (cells slots : Nat) (Qm : State → Prop),
  tw_X d j sc p R s m args c G cs ad H0 cells slots →
  (∀ (r : Option Int32) (M' : tw_M), Q r M' → tw_nr j.2.2.2.1 r → ∀ (H : Heap) (locs : List Loc) (ls : Array Slot) (pc' : Nat), va_P G tw_cl (tw_w cs ad M') H → va_S (tw_A ad) H0 H locs → decode j.2.1 pc' = .ok (tw_rop r, 1) → W p l e R s m args below meth c H locs cells slots Qm (F0 m pc' ls (r.map Value.int).toList)) →
  ∀ (H : Heap) (locs : List Loc) (ls : Array Slot), va_P G tw_cl (tw_w cs ad M) H → va_S (tw_A ad) H0 H locs → tw_L ad ls j.2.2.1 lv → W p l e R s m args below meth c H locs cells slots Qm (F0 m pc ls (st.map (tw_v ad)))
def tw_Qc (G : va_G) (cs : Nat → ClassId) (ad : Nat → Nat) (Q : tw_P) : Array Value → State → Outcome → State → Prop := fun _ st oc t => (∃ (r : Option Int32) (M' : tw_M), oc = .returned (r.map Value.int) ∧ Q r M' ∧ va_P G tw_cl (tw_w cs ad M') t.heap) ∧ va_F (tw_A ad) st t
abbrev tw_ws (j : tw_J) : List Cond := Cond.code j.1 j.2.1 j.2.2.1 j.2.2.2.1 :: tw_WS
abbrev tw_Pc (G : va_G) (cs : Nat → ClassId) (ad : Nat → Nat) (av : List tw_V) (M : tw_M) : Array Value → State → Prop := va_Pc (av.map (tw_v ad)) (fun U => va_P G tw_cl (tw_w cs ad M) U.heap ∧ va_K G tw_cl (tw_tys cs) U)
def tw_C (d : Nat) (j : tw_J) (av : List tw_V) (M : tw_M) (Q : tw_P) : Prop :=
  ∀ (l : Launch) (G : va_G) (cs : Nat → ClassId) (ad : Nat → Nat), tw_inj ad → Met l j.1 (tw_ws j) (tw_rm d) (tw_Pc G cs ad av M) (tw_Qc G cs ad Q) 0 0 (tw_A ad)
theorem tw_sl (ad : Nat → Nat) (av : List tw_V) : (lg_sl (av.map (tw_v ad))).length = av.length := by
  induction av with
  | nil => rfl
  | cons a as ih =>
    have h : ¬ (tw_v ad a).category = 2 := by rw [tw_cat]; decide
    simp only [lg_sl, List.map_cons, List.flatMap_cons, if_neg h, List.length_append, List.length_cons, List.length_nil]
    simp only [lg_sl] at ih
    omega
theorem tw_args_mem (ad : Nat → Nat) (av : List tw_V) : ∀ (b i : Nat) (v : tw_V), av[i]? = some v → (b + i, tw_v ad v) ∈ lv_args b (av.map (tw_v ad)) := by
  induction av with
  | nil => intro b i v h; simp at h
  | cons a as ih =>
    intro b i v h
    have h2 : ¬ (tw_v ad a).category = 2 := by rw [tw_cat]; decide
    simp only [List.map_cons, lv_args, if_neg h2]
    cases i with
    | zero =>
      simp at h
      subst h
      exact List.mem_cons_self
    | succ i =>
      have h3 := ih (b + 1) i v (by simpa using h)
      rw [show b + (i + 1) = b + 1 + i by omega]
      exact List.mem_cons_of_mem _ h3
theorem tw_enter {d : Nat} {j : tw_J} {av : List tw_V} {M : tw_M} {Q : tw_P} (hy : plainName j.1.cls = true) (hd : tw_dec j) (hlen : av.length ≤ j.2.2.1) (k : tw_T none d j M 0 (av.map some ++ List.replicate (j.2.2.1 - av.length) none) [] Q) : tw_C (d + 1) j av M Q := by
  intro l G cs ad hinj
  refine Met.ofW (cc := j.2.1) (maxL := j.2.2.1) (ret := j.2.2.2.1) hy rfl ?_
  intro p e s m args below meth c s₁ B hml hv
  obtain ⟨rfl, hP, hK⟩ := hv
  have hts := atoms_spec (ws := tw_ws j) B.pre
  have hown : s.vm.findClass j.1.cls = some m.cls := findClass_of_methodNamed B.named
  have hl := lv_entry (av.map (tw_v ad)) (n := j.2.2.1) (by rw [tw_sl]; exact hlen)
  rw [lg_entry_eq]
  refine k p l e _ s m _ below meth c G cs ad s.heap 0 0 _ ⟨B.exec, B.bytes, hml, hown, fun w h => hts w (List.mem_cons_of_mem _ h), hK, hinj, ⟨Nat.le_refl _, by show 40 * d + 40 ≤ 40 * (d + 1); omega, Nat.zero_le _, Nat.zero_le _⟩, (fun _ _ h => by cases h), hd⟩ ?_ s.heap [] _ hP va_S.rf ⟨hl.1, hl.2.1, ?_⟩
  · intro r M' hQ hn H locs ls pc' hP' hS' hdg
    cases r with
    | none =>
      cases hret : j.2.2.2.1 with
      | some ty => rw [hret] at hn; exact hn.elim
      | none => exact W.vret B.exec B.bytes (B.returns.trans hret) (fun t ht hW => ⟨⟨none, M', rfl, hQ, by rw [ht]; exact hP'⟩, hS'.F ht⟩) hS'.2.2 hdg B.notSynchronized
    | some v =>
      cases hret : j.2.2.2.1 with
      | none => rw [hret] at hn; exact hn.elim
      | some ty =>
        rw [hret] at hn
        exact W.zret B.exec B.bytes (B.returns.trans hret) hn (fun t ht hW => ⟨⟨some v, M', rfl, hQ, by rw [ht]; exact hP'⟩, hS'.F ht⟩) hS'.2.2 hdg B.notSynchronized
  · intro i v hi
    have h1 : av[i]? = some v := by
      by_cases h : i < av.length
      · rw [List.getElem?_append_left (by simpa using h), List.getElem?_map] at hi
        cases ha : av[i]? with
        | none => rw [ha] at hi; cases hi
        | some w => rw [ha] at hi; simpa using hi
      · rw [List.getElem?_append_right (by simp; omega)] at hi
        have h2 := List.eq_of_mem_replicate (List.mem_of_getElem? hi)
        cases h2
    have h2 := hl.2.2 _ (tw_args_mem ad av 0 i v h1)
    simpa using h2

section TWR
variable {sc : tw_Sc} {d : Nat} {j : tw_J} {M : tw_M} {pc : Nat} {lv : List (Option tw_V)} {st : List tw_V} {Q : tw_P}
def tw_pr (ad : Nat → Nat) (lv : List (Option tw_V)) : List (Nat × Value) := (List.range lv.length).filterMap fun i => (lv.getD i none).map fun v => (i, tw_v ad v)
theorem tw_pr_mem {ad : Nat → Nat} {lv : List (Option tw_V)} {q : Nat × Value} : q ∈ tw_pr ad lv ↔ ∃ (i : Nat) (v : tw_V), lv[i]? = some (some v) ∧ q = (i, tw_v ad v) := by
  constructor
  · intro h
    obtain ⟨i, h1, h2⟩ := List.mem_filterMap.mp h
    have hi := List.mem_range.mp h1
    cases hv : lv[i]? with
    | none =>
      rw [List.getElem?_eq_none_iff] at hv
      omega
    | some o =>
      rw [List.getD_eq_getElem?_getD, hv] at h2
      cases o with
      | none => cases h2
      | some v => exact ⟨i, v, hv, (Option.some.inj h2).symm⟩
  · rintro ⟨i, v, h, rfl⟩
    refine List.mem_filterMap.mpr ⟨i, List.mem_range.mpr (List.getElem?_eq_some_iff.mp h).1, ?_⟩
    rw [List.getD_eq_getElem?_getD, h]
    rfl
theorem tw_L_has {ad : Nat → Nat} {ls : Array Slot} {nL : Nat} {lv : List (Option tw_V)} (h : tw_L ad ls nL lv) : lv_has ls nL (tw_pr ad lv) := by
  refine ⟨h.1, h.2.1, fun q hq => ?_⟩
  obtain ⟨i, v, h1, rfl⟩ := tw_pr_mem.mp hq
  exact h.2.2 i v h1
theorem tw_L_set {ad : Nat → Nat} {ls : Array Slot} {nL i : Nat} {lv : List (Option tw_V)} {v : tw_V} (h : lv_has ls nL ((i, tw_v ad v) :: (tw_pr ad lv).filter (fun q => !(q.1 == i) && !(q.1 + 1 == i && q.2.category == 2)))) : tw_L ad ls nL (lv.set i (some v)) := by
  refine ⟨h.1, h.2.1, fun k w hk => ?_⟩
  rw [List.getElem?_set] at hk
  by_cases e : i = k
  · subst e
    rw [if_pos rfl] at hk
    by_cases hi : i < lv.length
    · rw [if_pos hi] at hk
      cases hk
      exact h.2.2 _ List.mem_cons_self
    · rw [if_neg hi] at hk
      cases hk
  · rw [if_neg e] at hk
    refine h.2.2 (k, tw_v ad w) (List.mem_cons_of_mem _ (List.mem_filter.mpr ⟨tw_pr_mem.mpr ⟨k, w, hk, rfl⟩, ?_⟩))
    have h1 : ¬ k = i := fun q => e q.symm
    simp [tw_cat, h1]
theorem tw_in {i : Int32} {n : Nat} (h : 0 ≤ i.toInt ∧ i.toInt < n) : vp_in i n := by
  intro q
  rcases q with q | q
  · have h1 := Int32.lt_iff_toInt_lt.mp q
    have z : (0 : Int32).toInt = 0 := rfl
    omega
  · have h1 : i.toNatClampNeg = i.toInt.toNat := rfl
    omega
theorem tw_ne {x y : Int32} (h : ¬ x = y) : ¬ x.toInt = y.toInt := fun q => h (Int32.toInt_inj.mp q)
theorem tw_nlt {x y : Int32} (h : ¬ x < y) : ¬ x.toInt < y.toInt := fun q => h (Int32.lt_iff_toInt_lt.mpr q)
theorem tw_nle {x y : Int32} (h : ¬ x ≤ y) : ¬ x.toInt ≤ y.toInt := fun q => h (Int32.le_iff_toInt_le.mpr q)

theorem tw_iconst {n : Int} {v : Int32} (h : tw_ins j pc = some (.iconst n, 1)) (hv : Int32.ofInt n = v) (k : tw_T sc d j M (pc + 1) lv (.inl v :: st) Q) : tw_T sc d j M pc lv (st) Q := fun p l e R s m args below meth c G cs ad H0 cells slots Qm X hr H locs ls hP hS hl => lv_iconst X.1 X.2.1 (X.2.2.2.2.2.2.2.2.2 _ _ h) hv (k p l e R s m args below meth c G cs ad H0 cells slots Qm X hr H locs ls hP hS hl)
theorem tw_bipush {n : Int} {v : Int32} (h : tw_ins j pc = some (.bipush n, 2)) (hv : (Int8.ofInt n).toInt32 = v) (k : tw_T sc d j M (pc + 2) lv (.inl v :: st) Q) : tw_T sc d j M pc lv (st) Q := fun p l e R s m args below meth c G cs ad H0 cells slots Qm X hr H locs ls hP hS hl => lv_bipush X.1 X.2.1 (X.2.2.2.2.2.2.2.2.2 _ _ h) hv (k p l e R s m args below meth c G cs ad H0 cells slots Qm X hr H locs ls hP hS hl)
theorem tw_sipush {n : Int} {v : Int32} (h : tw_ins j pc = some (.sipush n, 3)) (hv : (Int16.ofInt n).toInt32 = v) (k : tw_T sc d j M (pc + 3) lv (.inl v :: st) Q) : tw_T sc d j M pc lv (st) Q := fun p l e R s m args below meth c G cs ad H0 cells slots Qm X hr H locs ls hP hS hl => lv_sipush X.1 X.2.1 (X.2.2.2.2.2.2.2.2.2 _ _ h) hv (k p l e R s m args below meth c G cs ad H0 cells slots Qm X hr H locs ls hP hS hl)
theorem tw_ldc {idx : Nat} {v : Int32} (h : tw_ins j pc = some (.ldc idx, 2)) (hw : Jvm.Cond.constant j.1.cls idx v ∈ tw_WS) (k : tw_T sc d j M (pc + 2) lv (.inl v :: st) Q) : tw_T sc d j M pc lv (st) Q := fun p l e R s m args below meth c G cs ad H0 cells slots Qm X hr H locs ls hP hS hl => lv_ldc X.1 X.2.1 X.2.2.2.1 (X.2.2.2.2.1 _ hw) (X.2.2.2.2.2.2.2.2.2 _ _ h) (k p l e R s m args below meth c G cs ad H0 cells slots Qm X hr H locs ls hP hS hl)
theorem tw_iload_n {n : Fin 4} {x : Int32} (h : tw_ins j pc = some (.iload_n n, 1)) (hx : lv[(n : Nat)]? = some (some (.inl x))) (k : tw_T sc d j M (pc + 1) lv (.inl x :: st) Q) : tw_T sc d j M pc lv (st) Q := fun p l e R s m args below meth c G cs ad H0 cells slots Qm X hr H locs ls hP hS hl => lv_iload_n X.1 X.2.1 (X.2.2.2.2.2.2.2.2.2 _ _ h) rfl (hl.2.2 _ _ hx) (k p l e R s m args below meth c G cs ad H0 cells slots Qm X hr H locs ls hP hS hl)
theorem tw_iload {i : Nat} {x : Int32} (h : tw_ins j pc = some (.iload i, 2)) (hx : lv[i]? = some (some (.inl x))) (k : tw_T sc d j M (pc + 2) lv (.inl x :: st) Q) : tw_T sc d j M pc lv (st) Q := fun p l e R s m args below meth c G cs ad H0 cells slots Qm X hr H locs ls hP hS hl => lv_iload X.1 X.2.1 (X.2.2.2.2.2.2.2.2.2 _ _ h) (hl.2.2 _ _ hx) (k p l e R s m args below meth c G cs ad H0 cells slots Qm X hr H locs ls hP hS hl)
theorem tw_istore_n {n : Fin 4} {x : Int32} (h : tw_ins j pc = some (.istore_n n, 1)) (hn : (n : Nat) < j.2.2.1) (k : tw_T sc d j M (pc + 1) (lv.set (n : Nat) (some (.inl x))) st Q) : tw_T sc d j M pc lv (.inl x :: st) Q := fun p l e R s m args below meth c G cs ad H0 cells slots Qm X hr H locs ls hP hS hl => lv_istore_n X.1 X.2.1 (X.2.2.2.2.2.2.2.2.2 _ _ h) rfl (tw_L_has hl) hn rfl (fun ls' hl' => k p l e R s m args below meth c G cs ad H0 cells slots Qm X hr H locs ls' hP hS (tw_L_set hl'))
theorem tw_istore {i : Nat} {x : Int32} (h : tw_ins j pc = some (.istore i, 2)) (hn : i < j.2.2.1) (k : tw_T sc d j M (pc + 2) (lv.set i (some (.inl x))) st Q) : tw_T sc d j M pc lv (.inl x :: st) Q := fun p l e R s m args below meth c G cs ad H0 cells slots Qm X hr H locs ls hP hS hl => lv_istore X.1 X.2.1 (X.2.2.2.2.2.2.2.2.2 _ _ h) (tw_L_has hl) hn rfl (fun ls' hl' => k p l e R s m args below meth c G cs ad H0 cells slots Qm X hr H locs ls' hP hS (tw_L_set hl'))
theorem tw_aload_n {n : Fin 4} {x : Nat} (h : tw_ins j pc = some (.aload_n n, 1)) (hx : lv[(n : Nat)]? = some (some (.inr x))) (k : tw_T sc d j M (pc + 1) lv (.inr x :: st) Q) : tw_T sc d j M pc lv (st) Q := fun p l e R s m args below meth c G cs ad H0 cells slots Qm X hr H locs ls hP hS hl => lv_aload_n X.1 X.2.1 (X.2.2.2.2.2.2.2.2.2 _ _ h) rfl (hl.2.2 _ _ hx) (k p l e R s m args below meth c G cs ad H0 cells slots Qm X hr H locs ls hP hS hl)
theorem tw_aload {i : Nat} {x : Nat} (h : tw_ins j pc = some (.aload i, 2)) (hx : lv[i]? = some (some (.inr x))) (k : tw_T sc d j M (pc + 2) lv (.inr x :: st) Q) : tw_T sc d j M pc lv (st) Q := fun p l e R s m args below meth c G cs ad H0 cells slots Qm X hr H locs ls hP hS hl => lv_aload X.1 X.2.1 (X.2.2.2.2.2.2.2.2.2 _ _ h) (hl.2.2 _ _ hx) (k p l e R s m args below meth c G cs ad H0 cells slots Qm X hr H locs ls hP hS hl)
theorem tw_astore_n {n : Fin 4} {x : Nat} (h : tw_ins j pc = some (.astore_n n, 1)) (hn : (n : Nat) < j.2.2.1) (k : tw_T sc d j M (pc + 1) (lv.set (n : Nat) (some (.inr x))) st Q) : tw_T sc d j M pc lv (.inr x :: st) Q := fun p l e R s m args below meth c G cs ad H0 cells slots Qm X hr H locs ls hP hS hl => lv_astore_n X.1 X.2.1 (X.2.2.2.2.2.2.2.2.2 _ _ h) rfl (tw_L_has hl) hn rfl (fun ls' hl' => k p l e R s m args below meth c G cs ad H0 cells slots Qm X hr H locs ls' hP hS (tw_L_set hl'))
theorem tw_astore {i : Nat} {x : Nat} (h : tw_ins j pc = some (.astore i, 2)) (hn : i < j.2.2.1) (k : tw_T sc d j M (pc + 2) (lv.set i (some (.inr x))) st Q) : tw_T sc d j M pc lv (.inr x :: st) Q := fun p l e R s m args below meth c G cs ad H0 cells slots Qm X hr H locs ls hP hS hl => lv_astore X.1 X.2.1 (X.2.2.2.2.2.2.2.2.2 _ _ h) (tw_L_has hl) hn rfl (fun ls' hl' => k p l e R s m args below meth c G cs ad H0 cells slots Qm X hr H locs ls' hP hS (tw_L_set hl'))
theorem tw_iinc {i : Nat} {n : Int} {x v : Int32} (h : tw_ins j pc = some (.iinc i n, 3)) (hx : lv[i]? = some (some (.inl x))) (hv : Int32.ofInt n = v) (hn : i < j.2.2.1) (k : tw_T sc d j M (pc + 3) (lv.set i (some (.inl (x + v)))) st Q) : tw_T sc d j M pc lv st Q := by
  intro p l e R s m args below meth c G cs ad H0 cells slots Qm X hr H locs ls hP hS hl
  obtain ⟨kk, hk⟩ := List.getElem?_of_mem (tw_pr_mem (ad := ad).mpr ⟨i, .inl x, hx, rfl⟩)
  subst hv
  exact lv_iinc (k := kk) X.1 X.2.1 (X.2.2.2.2.2.2.2.2.2 _ _ h) (tw_L_has hl) hk rfl hn rfl (fun ls' hl' => k p l e R s m args below meth c G cs ad H0 cells slots Qm X hr H locs ls' hP hS (tw_L_set (v := .inl (x + Int32.ofInt n)) hl'))
theorem tw_iadd {x y : Int32} (h : tw_ins j pc = some (.iadd, 1)) (k : tw_T sc d j M (pc + 1) lv (.inl (x + y) :: st) Q) : tw_T sc d j M pc lv (.inl y :: .inl x :: st) Q := fun p l e R s m args below meth c G cs ad H0 cells slots Qm X hr H locs ls hP hS hl => lv_iadd X.1 X.2.1 (X.2.2.2.2.2.2.2.2.2 _ _ h) (k p l e R s m args below meth c G cs ad H0 cells slots Qm X hr H locs ls hP hS hl)
theorem tw_isub {x y : Int32} (h : tw_ins j pc = some (.isub, 1)) (k : tw_T sc d j M (pc + 1) lv (.inl (x - y) :: st) Q) : tw_T sc d j M pc lv (.inl y :: .inl x :: st) Q := fun p l e R s m args below meth c G cs ad H0 cells slots Qm X hr H locs ls hP hS hl => lv_isub X.1 X.2.1 (X.2.2.2.2.2.2.2.2.2 _ _ h) (k p l e R s m args below meth c G cs ad H0 cells slots Qm X hr H locs ls hP hS hl)
theorem tw_imul {x y : Int32} (h : tw_ins j pc = some (.imul, 1)) (k : tw_T sc d j M (pc + 1) lv (.inl (x * y) :: st) Q) : tw_T sc d j M pc lv (.inl y :: .inl x :: st) Q := fun p l e R s m args below meth c G cs ad H0 cells slots Qm X hr H locs ls hP hS hl => lv_imul X.1 X.2.1 (X.2.2.2.2.2.2.2.2.2 _ _ h) (k p l e R s m args below meth c G cs ad H0 cells slots Qm X hr H locs ls hP hS hl)
theorem tw_iand {x y : Int32} (h : tw_ins j pc = some (.iand, 1)) (k : tw_T sc d j M (pc + 1) lv (.inl (x &&& y) :: st) Q) : tw_T sc d j M pc lv (.inl y :: .inl x :: st) Q := fun p l e R s m args below meth c G cs ad H0 cells slots Qm X hr H locs ls hP hS hl => lv_iand X.1 X.2.1 (X.2.2.2.2.2.2.2.2.2 _ _ h) (k p l e R s m args below meth c G cs ad H0 cells slots Qm X hr H locs ls hP hS hl)
theorem tw_ior {x y : Int32} (h : tw_ins j pc = some (.ior, 1)) (k : tw_T sc d j M (pc + 1) lv (.inl (x ||| y) :: st) Q) : tw_T sc d j M pc lv (.inl y :: .inl x :: st) Q := fun p l e R s m args below meth c G cs ad H0 cells slots Qm X hr H locs ls hP hS hl => lv_ior X.1 X.2.1 (X.2.2.2.2.2.2.2.2.2 _ _ h) (k p l e R s m args below meth c G cs ad H0 cells slots Qm X hr H locs ls hP hS hl)
theorem tw_ixor {x y : Int32} (h : tw_ins j pc = some (.ixor, 1)) (k : tw_T sc d j M (pc + 1) lv (.inl (x ^^^ y) :: st) Q) : tw_T sc d j M pc lv (.inl y :: .inl x :: st) Q := fun p l e R s m args below meth c G cs ad H0 cells slots Qm X hr H locs ls hP hS hl => lv_ixor X.1 X.2.1 (X.2.2.2.2.2.2.2.2.2 _ _ h) (k p l e R s m args below meth c G cs ad H0 cells slots Qm X hr H locs ls hP hS hl)
theorem tw_dup {v : tw_V} (h : tw_ins j pc = some (.dup, 1)) (k : tw_T sc d j M (pc + 1) lv (v :: v :: st) Q) : tw_T sc d j M pc lv (v :: st) Q := fun p l e R s m args below meth c G cs ad H0 cells slots Qm X hr H locs ls hP hS hl => lv_dup X.1 X.2.1 (X.2.2.2.2.2.2.2.2.2 _ _ h) (tw_cat ad v) (k p l e R s m args below meth c G cs ad H0 cells slots Qm X hr H locs ls hP hS hl)
theorem tw_pop {v : tw_V} (h : tw_ins j pc = some (.pop, 1)) (k : tw_T sc d j M (pc + 1) lv st Q) : tw_T sc d j M pc lv (v :: st) Q := fun p l e R s m args below meth c G cs ad H0 cells slots Qm X hr H locs ls hP hS hl => lv_pop X.1 X.2.1 (X.2.2.2.2.2.2.2.2.2 _ _ h) (tw_cat ad v) (k p l e R s m args below meth c G cs ad H0 cells slots Qm X hr H locs ls hP hS hl)
theorem tw_dup2 {v w : tw_V} (h : tw_ins j pc = some (.dup2, 1)) (k : tw_T sc d j M (pc + 1) lv (v :: w :: v :: w :: st) Q) : tw_T sc d j M pc lv (v :: w :: st) Q := fun p l e R s m args below meth c G cs ad H0 cells slots Qm X hr H locs ls hP hS hl => lv_dup2_11 X.1 X.2.1 (X.2.2.2.2.2.2.2.2.2 _ _ h) (tw_cat ad v) (tw_cat ad w) (k p l e R s m args below meth c G cs ad H0 cells slots Qm X hr H locs ls hP hS hl)
theorem tw_dup_x1 {v w : tw_V} (h : tw_ins j pc = some (.dup_x1, 1)) (k : tw_T sc d j M (pc + 1) lv (v :: w :: v :: st) Q) : tw_T sc d j M pc lv (v :: w :: st) Q := fun p l e R s m args below meth c G cs ad H0 cells slots Qm X hr H locs ls hP hS hl => lv_dup_x1 X.1 X.2.1 (X.2.2.2.2.2.2.2.2.2 _ _ h) (tw_cat ad v) (tw_cat ad w) (k p l e R s m args below meth c G cs ad H0 cells slots Qm X hr H locs ls hP hS hl)
theorem tw_dup_x2 {v w u : tw_V} (h : tw_ins j pc = some (.dup_x2, 1)) (k : tw_T sc d j M (pc + 1) lv (v :: w :: u :: v :: st) Q) : tw_T sc d j M pc lv (v :: w :: u :: st) Q := fun p l e R s m args below meth c G cs ad H0 cells slots Qm X hr H locs ls hP hS hl => lv_dup_x2 X.1 X.2.1 (X.2.2.2.2.2.2.2.2.2 _ _ h) (tw_cat ad v) (tw_cat ad w) (tw_cat ad u) (k p l e R s m args below meth c G cs ad H0 cells slots Qm X hr H locs ls hP hS hl)
theorem tw_goto {off : Int} {tgt : Nat} (h : tw_ins j pc = some (.goto off, 3)) (ht : (pc : Int) + off = (tgt : Int)) (k : tw_T sc d j M tgt lv st Q) : tw_T sc d j M pc lv (st) Q := fun p l e R s m args below meth c G cs ad H0 cells slots Qm X hr H locs ls hP hS hl => lv_goto X.1 X.2.1 (X.2.2.2.2.2.2.2.2.2 _ _ h) ht (k p l e R s m args below meth c G cs ad H0 cells slots Qm X hr H locs ls hP hS hl)
theorem tw_icmp_eq {x y : Int32} {off : Int} {tgt : Nat} (h : tw_ins j pc = some (.if_icmp .eq off, 3)) (ht : (pc : Int) + off = (tgt : Int)) (kt : (x = y ∧ x.toInt = y.toInt) → tw_T sc d j M tgt lv st Q) (kf : (¬ x = y ∧ ¬ x.toInt = y.toInt) → tw_T sc d j M (pc + 3) lv st Q) : tw_T sc d j M pc lv (.inl y :: .inl x :: st) Q := fun p l e R s m args below meth c G cs ad H0 cells slots Qm X hr H locs ls hP hS hl => lv_icmp_eq X.1 X.2.1 (X.2.2.2.2.2.2.2.2.2 _ _ h) ht (fun q => kt ⟨q, congrArg Int32.toInt q⟩ p l e R s m args below meth c G cs ad H0 cells slots Qm X hr H locs ls hP hS hl) (fun q => kf ⟨q, tw_ne q⟩ p l e R s m args below meth c G cs ad H0 cells slots Qm X hr H locs ls hP hS hl)
theorem tw_if_eq {x : Int32} {off : Int} {tgt : Nat} (h : tw_ins j pc = some (.ifCond .eq off, 3)) (ht : (pc : Int) + off = (tgt : Int)) (kt : (x = 0 ∧ x.toInt = (0 : Int32).toInt) → tw_T sc d j M tgt lv st Q) (kf : (¬ x = 0 ∧ ¬ x.toInt = (0 : Int32).toInt) → tw_T sc d j M (pc + 3) lv st Q) : tw_T sc d j M pc lv (.inl x :: st) Q := fun p l e R s m args below meth c G cs ad H0 cells slots Qm X hr H locs ls hP hS hl => lv_if_eq X.1 X.2.1 (X.2.2.2.2.2.2.2.2.2 _ _ h) ht (fun q => kt ⟨q, congrArg Int32.toInt q⟩ p l e R s m args below meth c G cs ad H0 cells slots Qm X hr H locs ls hP hS hl) (fun q => kf ⟨q, tw_ne q⟩ p l e R s m args below meth c G cs ad H0 cells slots Qm X hr H locs ls hP hS hl)
theorem tw_icmp_ne {x y : Int32} {off : Int} {tgt : Nat} (h : tw_ins j pc = some (.if_icmp .ne off, 3)) (ht : (pc : Int) + off = (tgt : Int)) (kt : (¬ x = y ∧ ¬ x.toInt = y.toInt) → tw_T sc d j M tgt lv st Q) (kf : (x = y ∧ x.toInt = y.toInt) → tw_T sc d j M (pc + 3) lv st Q) : tw_T sc d j M pc lv (.inl y :: .inl x :: st) Q := fun p l e R s m args below meth c G cs ad H0 cells slots Qm X hr H locs ls hP hS hl => lv_icmp_ne X.1 X.2.1 (X.2.2.2.2.2.2.2.2.2 _ _ h) ht (fun q => kt ⟨q, tw_ne q⟩ p l e R s m args below meth c G cs ad H0 cells slots Qm X hr H locs ls hP hS hl) (fun q => kf ⟨q, congrArg Int32.toInt q⟩ p l e R s m args below meth c G cs ad H0 cells slots Qm X hr H locs ls hP hS hl)
theorem tw_if_ne {x : Int32} {off : Int} {tgt : Nat} (h : tw_ins j pc = some (.ifCond .ne off, 3)) (ht : (pc : Int) + off = (tgt : Int)) (kt : (¬ x = 0 ∧ ¬ x.toInt = (0 : Int32).toInt) → tw_T sc d j M tgt lv st Q) (kf : (x = 0 ∧ x.toInt = (0 : Int32).toInt) → tw_T sc d j M (pc + 3) lv st Q) : tw_T sc d j M pc lv (.inl x :: st) Q := fun p l e R s m args below meth c G cs ad H0 cells slots Qm X hr H locs ls hP hS hl => lv_if_ne X.1 X.2.1 (X.2.2.2.2.2.2.2.2.2 _ _ h) ht (fun q => kt ⟨q, tw_ne q⟩ p l e R s m args below meth c G cs ad H0 cells slots Qm X hr H locs ls hP hS hl) (fun q => kf ⟨q, congrArg Int32.toInt q⟩ p l e R s m args below meth c G cs ad H0 cells slots Qm X hr H locs ls hP hS hl)
theorem tw_icmp_lt {x y : Int32} {off : Int} {tgt : Nat} (h : tw_ins j pc = some (.if_icmp .lt off, 3)) (ht : (pc : Int) + off = (tgt : Int)) (kt : (x.toInt < y.toInt) → tw_T sc d j M tgt lv st Q) (kf : (¬ x.toInt < y.toInt) → tw_T sc d j M (pc + 3) lv st Q) : tw_T sc d j M pc lv (.inl y :: .inl x :: st) Q := fun p l e R s m args below meth c G cs ad H0 cells slots Qm X hr H locs ls hP hS hl => lv_icmp_lt X.1 X.2.1 (X.2.2.2.2.2.2.2.2.2 _ _ h) ht (fun q => kt (Int32.lt_iff_toInt_lt.mp q) p l e R s m args below meth c G cs ad H0 cells slots Qm X hr H locs ls hP hS hl) (fun q => kf (tw_nlt q) p l e R s m args below meth c G cs ad H0 cells slots Qm X hr H locs ls hP hS hl)
theorem tw_if_lt {x : Int32} {off : Int} {tgt : Nat} (h : tw_ins j pc = some (.ifCond .lt off, 3)) (ht : (pc : Int) + off = (tgt : Int)) (kt : (x.toInt < (0 : Int32).toInt) → tw_T sc d j M tgt lv st Q) (kf : (¬ x.toInt < (0 : Int32).toInt) → tw_T sc d j M (pc + 3) lv st Q) : tw_T sc d j M pc lv (.inl x :: st) Q := fun p l e R s m args below meth c G cs ad H0 cells slots Qm X hr H locs ls hP hS hl => lv_if_lt X.1 X.2.1 (X.2.2.2.2.2.2.2.2.2 _ _ h) ht (fun q => kt (Int32.lt_iff_toInt_lt.mp q) p l e R s m args below meth c G cs ad H0 cells slots Qm X hr H locs ls hP hS hl) (fun q => kf (tw_nlt q) p l e R s m args below meth c G cs ad H0 cells slots Qm X hr H locs ls hP hS hl)
theorem tw_icmp_ge {x y : Int32} {off : Int} {tgt : Nat} (h : tw_ins j pc = some (.if_icmp .ge off, 3)) (ht : (pc : Int) + off = (tgt : Int)) (kt : (y.toInt ≤ x.toInt) → tw_T sc d j M tgt lv st Q) (kf : (¬ y.toInt ≤ x.toInt) → tw_T sc d j M (pc + 3) lv st Q) : tw_T sc d j M pc lv (.inl y :: .inl x :: st) Q := fun p l e R s m args below meth c G cs ad H0 cells slots Qm X hr H locs ls hP hS hl => lv_icmp_ge X.1 X.2.1 (X.2.2.2.2.2.2.2.2.2 _ _ h) ht (fun q => kt (Int32.le_iff_toInt_le.mp q) p l e R s m args below meth c G cs ad H0 cells slots Qm X hr H locs ls hP hS hl) (fun q => kf (tw_nle q) p l e R s m args below meth c G cs ad H0 cells slots Qm X hr H locs ls hP hS hl)
theorem tw_if_ge {x : Int32} {off : Int} {tgt : Nat} (h : tw_ins j pc = some (.ifCond .ge off, 3)) (ht : (pc : Int) + off = (tgt : Int)) (kt : ((0 : Int32).toInt ≤ x.toInt) → tw_T sc d j M tgt lv st Q) (kf : (¬ (0 : Int32).toInt ≤ x.toInt) → tw_T sc d j M (pc + 3) lv st Q) : tw_T sc d j M pc lv (.inl x :: st) Q := fun p l e R s m args below meth c G cs ad H0 cells slots Qm X hr H locs ls hP hS hl => lv_if_ge X.1 X.2.1 (X.2.2.2.2.2.2.2.2.2 _ _ h) ht (fun q => kt (Int32.le_iff_toInt_le.mp q) p l e R s m args below meth c G cs ad H0 cells slots Qm X hr H locs ls hP hS hl) (fun q => kf (tw_nle q) p l e R s m args below meth c G cs ad H0 cells slots Qm X hr H locs ls hP hS hl)
theorem tw_icmp_gt {x y : Int32} {off : Int} {tgt : Nat} (h : tw_ins j pc = some (.if_icmp .gt off, 3)) (ht : (pc : Int) + off = (tgt : Int)) (kt : (y.toInt < x.toInt) → tw_T sc d j M tgt lv st Q) (kf : (¬ y.toInt < x.toInt) → tw_T sc d j M (pc + 3) lv st Q) : tw_T sc d j M pc lv (.inl y :: .inl x :: st) Q := fun p l e R s m args below meth c G cs ad H0 cells slots Qm X hr H locs ls hP hS hl => lv_icmp_gt X.1 X.2.1 (X.2.2.2.2.2.2.2.2.2 _ _ h) ht (fun q => kt (Int32.lt_iff_toInt_lt.mp q) p l e R s m args below meth c G cs ad H0 cells slots Qm X hr H locs ls hP hS hl) (fun q => kf (tw_nlt q) p l e R s m args below meth c G cs ad H0 cells slots Qm X hr H locs ls hP hS hl)
theorem tw_if_gt {x : Int32} {off : Int} {tgt : Nat} (h : tw_ins j pc = some (.ifCond .gt off, 3)) (ht : (pc : Int) + off = (tgt : Int)) (kt : ((0 : Int32).toInt < x.toInt) → tw_T sc d j M tgt lv st Q) (kf : (¬ (0 : Int32).toInt < x.toInt) → tw_T sc d j M (pc + 3) lv st Q) : tw_T sc d j M pc lv (.inl x :: st) Q := fun p l e R s m args below meth c G cs ad H0 cells slots Qm X hr H locs ls hP hS hl => lv_if_gt X.1 X.2.1 (X.2.2.2.2.2.2.2.2.2 _ _ h) ht (fun q => kt (Int32.lt_iff_toInt_lt.mp q) p l e R s m args below meth c G cs ad H0 cells slots Qm X hr H locs ls hP hS hl) (fun q => kf (tw_nlt q) p l e R s m args below meth c G cs ad H0 cells slots Qm X hr H locs ls hP hS hl)
theorem tw_icmp_le {x y : Int32} {off : Int} {tgt : Nat} (h : tw_ins j pc = some (.if_icmp .le off, 3)) (ht : (pc : Int) + off = (tgt : Int)) (kt : (x.toInt ≤ y.toInt) → tw_T sc d j M tgt lv st Q) (kf : (¬ x.toInt ≤ y.toInt) → tw_T sc d j M (pc + 3) lv st Q) : tw_T sc d j M pc lv (.inl y :: .inl x :: st) Q := fun p l e R s m args below meth c G cs ad H0 cells slots Qm X hr H locs ls hP hS hl => lv_icmp_le X.1 X.2.1 (X.2.2.2.2.2.2.2.2.2 _ _ h) ht (fun q => kt (Int32.le_iff_toInt_le.mp q) p l e R s m args below meth c G cs ad H0 cells slots Qm X hr H locs ls hP hS hl) (fun q => kf (tw_nle q) p l e R s m args below meth c G cs ad H0 cells slots Qm X hr H locs ls hP hS hl)
theorem tw_if_le {x : Int32} {off : Int} {tgt : Nat} (h : tw_ins j pc = some (.ifCond .le off, 3)) (ht : (pc : Int) + off = (tgt : Int)) (kt : (x.toInt ≤ (0 : Int32).toInt) → tw_T sc d j M tgt lv st Q) (kf : (¬ x.toInt ≤ (0 : Int32).toInt) → tw_T sc d j M (pc + 3) lv st Q) : tw_T sc d j M pc lv (.inl x :: st) Q := fun p l e R s m args below meth c G cs ad H0 cells slots Qm X hr H locs ls hP hS hl => lv_if_le X.1 X.2.1 (X.2.2.2.2.2.2.2.2.2 _ _ h) ht (fun q => kt (Int32.le_iff_toInt_le.mp q) p l e R s m args below meth c G cs ad H0 cells slots Qm X hr H locs ls hP hS hl) (fun q => kf (tw_nle q) p l e R s m args below meth c G cs ad H0 cells slots Qm X hr H locs ls hP hS hl)
theorem tw_tabIn {dflt lo hi : Int} {offs : Array Int} {len : Nat} {x : Int32} {off : Int} {tgt : Nat} (n : Nat) (h : tw_ins j pc = some (.tableswitch dflt lo hi offs, len)) (hx : x.toInt = lo + (n : Int)) (h2 : lo + (n : Int) ≤ hi) (ho : offs[n]? = some off) (ht : (pc : Int) + off = (tgt : Int)) (k : tw_T sc d j M tgt lv st Q) : tw_T sc d j M pc lv (.inl x :: st) Q := fun p l e R s m args below meth c G cs ad H0 cells slots Qm X hr H locs ls hP hS hl => lv_tableIn X.1 X.2.1 (X.2.2.2.2.2.2.2.2.2 _ _ h) (by rw [hx]; omega) (by rw [hx]; omega) (by rw [hx, show (lo + (n : Int) - lo).toNat = n by omega]; exact ho) ht (k p l e R s m args below meth c G cs ad H0 cells slots Qm X hr H locs ls hP hS hl)
theorem tw_tabOut {dflt lo hi : Int} {offs : Array Int} {len : Nat} {x : Int32} {tgt : Nat} (h : tw_ins j pc = some (.tableswitch dflt lo hi offs, len)) (hx : x.toInt < lo ∨ hi < x.toInt) (ht : (pc : Int) + dflt = (tgt : Int)) (k : tw_T sc d j M tgt lv st Q) : tw_T sc d j M pc lv (.inl x :: st) Q := fun p l e R s m args below meth c G cs ad H0 cells slots Qm X hr H locs ls hP hS hl => lv_tableOut X.1 X.2.1 (X.2.2.2.2.2.2.2.2.2 _ _ h) hx ht (k p l e R s m args below meth c G cs ad H0 cells slots Qm X hr H locs ls hP hS hl)
theorem tw_ireturn {x : Int32} (h : tw_ins j pc = some (.ireturn, 1)) (hn : tw_nr j.2.2.2.1 (some x)) (k : Q (some x) M) : tw_T sc d j M pc lv [.inl x] Q := fun p l e R s m args below meth c G cs ad H0 cells slots Qm X hr H locs ls hP hS hl => hr (some x) M k hn H locs ls pc hP hS (X.2.2.2.2.2.2.2.2.2 _ _ h)
theorem tw_return (h : tw_ins j pc = some (.return_, 1)) (hn : tw_nr j.2.2.2.1 none) (k : Q none M) : tw_T sc d j M pc lv [] Q := fun p l e R s m args below meth c G cs ad H0 cells slots Qm X hr H locs ls hP hS hl => hr none M k hn H locs ls pc hP hS (X.2.2.2.2.2.2.2.2.2 _ _ h)
def tw_fl (own : String) (idx ci k : Nat) : Prop := ∃ (C : String) (T : u_T) (N : Nat), tw_cl[ci]? = some (C, T, N) ∧ k < N ∧ (∀ w ∈ u_ws C T N, w ∈ tw_WS) ∧ Cond.fieldLink own idx (T k).1 (T k).2.1 (T k).2.2.1 ∈ tw_WS
def tw_fp (own : String) (idx ci k : Nat) (ty : FieldType) : Prop := ∃ (C : String) (T : u_T) (N : Nat) (ty0 : Nat → FieldType), tw_cl[ci]? = some (C, T, N) ∧ k < N ∧ (∀ w ∈ u_ws C T N, w ∈ tw_WS) ∧ Cond.fieldLink own idx (T k).1 (T k).2.1 (T k).2.2.1 ∈ tw_WS ∧ (∀ k, k < N → parseFieldDescriptor (T k).2.2.1 = some (ty0 k)) ∧ (∀ a, a < N → ∀ b, b < N → a ≠ b → (T a).2.1 ≠ (T b).2.1) ∧ (T k).2.2.2 = false ∧ parseFieldDescriptor (T k).2.2.1 = some ty
theorem tw_getI {idx ci f q : Nat} {L : List (Option Nat)} (h : tw_ins j pc = some (.getfield idx, 3)) (hf : tw_fl j.1.cls idx ci f) (hy : tw_lay q = .inl (ci, L)) (hk : L[f]? = some none) (k : tw_T sc d j M (pc + 3) lv (.inl (M q f) :: st) Q) : tw_T sc d j M pc lv (.inr q :: st) Q := by
  intro p l e R s m args below meth c G cs ad H0 cells slots Qm X hr H locs ls hP hS hl
  obtain ⟨C, T, N, h1, h2, h3, h4⟩ := hf
  exact va_get (D := G) (v := .int (M q f)) X.1 X.2.1 X.2.2.2.2.1 h3 X.2.2.2.1 X.2.2.2.2.2.1 hP q (by rw [tw_w_get (tw_lay_lt hy (by simp)), hy]; rfl) h1 f h2 (X.2.2.2.2.1 _ h4) (fun _ z => z) (tw_fs_get hk) (X.2.2.2.2.2.2.2.2.2 _ _ h) (k p l e R s m args below meth c G cs ad H0 cells slots Qm X hr H locs ls hP hS hl)
theorem tw_getR {idx ci f q q' : Nat} {L : List (Option Nat)} (h : tw_ins j pc = some (.getfield idx, 3)) (hf : tw_fl j.1.cls idx ci f) (hy : tw_lay q = .inl (ci, L)) (hk : L[f]? = some (some q')) (k : tw_T sc d j M (pc + 3) lv (.inr q' :: st) Q) : tw_T sc d j M pc lv (.inr q :: st) Q := by
  intro p l e R s m args below meth c G cs ad H0 cells slots Qm X hr H locs ls hP hS hl
  obtain ⟨C, T, N, h1, h2, h3, h4⟩ := hf
  exact va_get (D := G) (v := .ref (ad q')) X.1 X.2.1 X.2.2.2.2.1 h3 X.2.2.2.1 X.2.2.2.2.2.1 hP q (by rw [tw_w_get (tw_lay_lt hy (by simp)), hy]; rfl) h1 f h2 (X.2.2.2.2.1 _ h4) (fun _ z => z) (tw_fs_get hk) (X.2.2.2.2.2.2.2.2.2 _ _ h) (k p l e R s m args below meth c G cs ad H0 cells slots Qm X hr H locs ls hP hS hl)
theorem tw_putI {idx ci f q : Nat} {x : Int32} {ty : FieldType} {L : List (Option Nat)} (h : tw_ins j pc = some (.putfield idx, 3)) (hf : tw_fp j.1.cls idx ci f ty) (hn : narrow ty (.int x) = .int x) (hfit : fits ty (.int x) = true) (hy : tw_lay q = .inl (ci, L)) (hk : L[f]? = some none) (k : tw_T sc d j (tw_set M q f x) (pc + 3) lv st Q) : tw_T sc d j M pc lv (.inl x :: .inr q :: st) Q := by
  intro p l e R s m args below meth c G cs ad H0 cells slots Qm X hr H locs ls hP hS hl
  obtain ⟨C, T, N, ty0, h1, h2, h3, h4, h5, h6, h7, h8⟩ := hf
  have hlen : f < (L.mapIdx fun k e => tw_fv ad (M q) k e).length := by simpa using (List.getElem?_eq_some_iff.mp hk).1
  refine va_put (D := G) (v := .int x) X.1 X.2.1 X.2.2.2.2.1 h3 ty0 h5 h6 X.2.2.2.1 X.2.2.2.2.2.1 hP (tw_w_D X.2.2.2.2.2.2.1 M) hS q (by rw [tw_w_get (tw_lay_lt hy (by simp)), hy]; rfl) h1 f h2 (X.2.2.2.2.1 _ h4) (fun _ z => z) h7 h8 hn hfit hlen (X.2.2.2.2.2.2.2.2.2 _ _ h) (fun H1 locs1 hP1 hD1 hS1 => ?_)
  refine k p l e R s m args below meth c G cs ad H0 cells slots Qm X hr H1 locs1 ls ?_ hS1 hl
  rw [tw_w_set (by rw [hy, tw_fs_set hk]; rfl)] at hP1
  exact hP1
theorem tw_iald {q n b : Nat} {i : Int32} (h : tw_ins j pc = some (.iaload, 1)) (hy : tw_lay q = .inr (0, n, b)) (hin : 0 ≤ i.toInt ∧ i.toInt < (n : Int)) (k : tw_T sc d j M (pc + 1) lv (.inl (M q i.toInt.toNat) :: st) Q) : tw_T sc d j M pc lv (.inl i :: .inr q :: st) Q := fun p l e R s m args below meth c G cs ad H0 cells slots Qm X hr H locs ls hP hS hl =>
  va_iald (D := G) X.1 X.2.1 X.2.2.2.2.2.1 hP q 0 (by rw [tw_w_get (tw_lay_lt hy (by simp)), hy]; rfl) rfl (tw_in hin) (X.2.2.2.2.2.2.2.2.2 _ _ h) (k p l e R s m args below meth c G cs ad H0 cells slots Qm X hr H locs ls hP hS hl)
theorem tw_bald {q n b : Nat} {i : Int32} (h : tw_ins j pc = some (.baload, 1)) (hy : tw_lay q = .inr (1, n, b)) (hin : 0 ≤ i.toInt ∧ i.toInt < (n : Int)) (k : tw_T sc d j M (pc + 1) lv (.inl (M q i.toInt.toNat) :: st) Q) : tw_T sc d j M pc lv (.inl i :: .inr q :: st) Q := fun p l e R s m args below meth c G cs ad H0 cells slots Qm X hr H locs ls hP hS hl =>
  va_zald (D := G) X.1 X.2.1 X.2.2.2.2.2.1 hP q 1 (by rw [tw_w_get (tw_lay_lt hy (by simp)), hy]; rfl) rfl (tw_in hin) (X.2.2.2.2.2.2.2.2.2 _ _ h) (k p l e R s m args below meth c G cs ad H0 cells slots Qm X hr H locs ls hP hS hl)
theorem tw_aald {q n b : Nat} {i : Int32} (h : tw_ins j pc = some (.aaload, 1)) (hy : tw_lay q = .inr (2, n, b)) (hin : 0 ≤ i.toInt ∧ i.toInt < (n : Int)) (k : tw_T sc d j M (pc + 1) lv (.inr (b + i.toInt.toNat) :: st) Q) : tw_T sc d j M pc lv (.inl i :: .inr q :: st) Q := by
  intro p l e R s m args below meth c G cs ad H0 cells slots Qm X hr H locs ls hP hS hl
  have hin' := tw_in hin
  have hlt : i.toNatClampNeg < n := Nat.not_le.mp fun z => hin' (Or.inr z)
  have hc : va_at G tw_cl (ad q, .inl (cs 2, n, .inr (.inr (.inr (.inr fun i => some (ad (b + i))))))) H := hP q _ (by rw [tw_w_get (tw_lay_lt hy (by simp)), hy]; rfl)
  exact W.aald (v := .ref (ad (b + i.toInt.toNat))) (ty := .array .int) X.1 X.2.1 hc ((X.2.2.2.2.2.1.2 2 (cs 2, .array .int) rfl).1 n (fun j => va_rf (some (ad (b + j))))) rfl (fun z => by cases z) (by show ¬ (i < 0 ∨ (arrV _ _ _).slots.size ≤ _); rw [arrV_size]; exact hin') (by show (arrV _ _ _).slots[_]? = _; rw [arrV_read _ _ hlt]; rfl) rfl rfl (X.2.2.2.2.2.2.2.2.2 _ _ h) (k p l e R s m args below meth c G cs ad H0 cells slots Qm X hr H locs ls hP hS hl)
theorem tw_iast {q n b : Nat} {i x : Int32} (h : tw_ins j pc = some (.iastore, 1)) (hy : tw_lay q = .inr (0, n, b)) (hin : 0 ≤ i.toInt ∧ i.toInt < (n : Int)) (k : tw_T sc d j (tw_set M q i.toInt.toNat x) (pc + 1) lv st Q) : tw_T sc d j M pc lv (.inl x :: .inl i :: .inr q :: st) Q := by
  intro p l e R s m args below meth c G cs ad H0 cells slots Qm X hr H locs ls hP hS hl
  refine va_iast (D := G) X.1 X.2.1 X.2.2.2.2.2.1 hP (tw_w_D X.2.2.2.2.2.2.1 M) hS q 0 (by rw [tw_w_get (tw_lay_lt hy (by simp)), hy]; rfl) rfl (tw_in hin) (X.2.2.2.2.2.2.2.2.2 _ _ h) (fun H1 locs1 hP1 hD1 hS1 => ?_)
  refine k p l e R s m args below meth c G cs ad H0 cells slots Qm X hr H1 locs1 ls ?_ hS1 hl
  rw [tw_w_set (x := x) (k := i.toInt.toNat) (by rw [hy]; rfl)] at hP1
  exact hP1
theorem tw_bast {q n b : Nat} {i x : Int32} (h : tw_ins j pc = some (.bastore, 1)) (hy : tw_lay q = .inr (1, n, b)) (hin : 0 ≤ i.toInt ∧ i.toInt < (n : Int)) (hx : vp_nar .boolean x = x) (k : tw_T sc d j (tw_set M q i.toInt.toNat x) (pc + 1) lv st Q) : tw_T sc d j M pc lv (.inl x :: .inl i :: .inr q :: st) Q := by
  intro p l e R s m args below meth c G cs ad H0 cells slots Qm X hr H locs ls hP hS hl
  refine va_zast (D := G) X.1 X.2.1 X.2.2.2.2.2.1 hP (tw_w_D X.2.2.2.2.2.2.1 M) hS q 1 (by rw [tw_w_get (tw_lay_lt hy (by simp)), hy]; rfl) rfl (tw_in hin) (X.2.2.2.2.2.2.2.2.2 _ _ h) (fun H1 locs1 hP1 hD1 hS1 => ?_)
  refine k p l e R s m args below meth c G cs ad H0 cells slots Qm X hr H1 locs1 ls ?_ hS1 hl
  rw [hx, tw_w_set (x := x) (k := i.toInt.toNat) (by rw [hy]; rfl)] at hP1
  exact hP1
theorem tw_sld {L : Nat} {xs : Nat → Int32} {i : Int32} (h : tw_ins j pc = some (.iaload, 1)) (hin : 0 ≤ i.toInt ∧ i.toInt < (L : Int)) (k : tw_T (some (L, xs)) d j M (pc + 1) lv (.inl (xs i.toInt.toNat) :: st) Q) : tw_T (some (L, xs)) d j M pc lv (.inl i :: .inr tw_NC :: st) Q := by
  intro p l e R s m args below meth c G cs ad H0 cells slots Qm X hr H locs ls hP hS hl
  obtain ⟨h1, h2, h3⟩ := X.2.2.2.2.2.2.2.2.1 L xs rfl
  exact va_sld X.1 X.2.1 h1 h2 h3 hS (tw_in hin) (X.2.2.2.2.2.2.2.2.2 _ _ h) (k p l e R s m args below meth c G cs ad H0 cells slots Qm X hr H locs ls hP hS hl)
theorem tw_slen {L : Nat} {xs : Nat → Int32} (h : tw_ins j pc = some (.arraylength, 1)) (k : tw_T (some (L, xs)) d j M (pc + 1) lv (.inl (Int32.ofNat L) :: st) Q) : tw_T (some (L, xs)) d j M pc lv (.inr tw_NC :: st) Q := by
  intro p l e R s m args below meth c G cs ad H0 cells slots Qm X hr H locs ls hP hS hl
  obtain ⟨h1, h2, h3⟩ := X.2.2.2.2.2.2.2.2.1 L xs rfl
  exact va_slen X.1 X.2.1 h1 h2 h3 hS (X.2.2.2.2.2.2.2.2.2 _ _ h) (k p l e R s m args below meth c G cs ad H0 cells slots Qm X hr H locs ls hP hS hl)
def tw_push (r : Option Int32) (st : List tw_V) : List tw_V := match r with
  | none => st
  | some v => .inl v :: st
theorem tw_push_map (ad : Nat → Nat) (r : Option Int32) (st : List tw_V) : (tw_push r st).map (tw_v ad) = (r.map Value.int).toList ++ st.map (tw_v ad) := by cases r <;> rfl
theorem tw_cats (ad : Nat → Nat) (st : List tw_V) : ((st.map (tw_v ad)).map fun v => v.category).sum = st.length := by
  induction st with
  | nil => rfl
  | cons a as ih => simp only [List.map_cons, List.sum_cons, List.length_cons, tw_cat, ih]; omega
def tw_lk0 (own : String) (idx : Nat) (y : tw_J) (n : Nat) : Prop := (∀ w ∈ tw_ws y, w ∈ tw_WS) ∧ Cond.methodLink own idx y.1 ∈ tw_WS ∧ Cond.initialized y.1.cls ∈ tw_WS ∧ (y.1.cls ≠ "java/lang/invoke/MethodHandle" ∧ y.1.cls ≠ "java/lang/invoke/VarHandle" ∧ (parseMethodDescriptor y.1.desc).map (fun d => d.parameters.length) = some n) ∧ y.2.2.1 ≤ 20
def tw_lk (own : String) (idx : Nat) (y : tw_J) (n : Nat) : Prop := tw_lk0 own idx y n ∧ Cond.instanceMethod y.1 ∈ tw_WS ∧ Cond.selects y.1.cls y.1 y.1 ∈ tw_WS
def tw_lks (own : String) (idx : Nat) (y : tw_J) (n : Nat) : Prop := tw_lk0 own idx y n ∧ Cond.static y.1 ∈ tw_WS
theorem tw_blind (G : va_G) (cs : Nat → ClassId) (ad : Nat → Nat) (av : List tw_V) (M : tw_M) : FrameBlind (tw_Pc G cs ad av M) := by
  intro a U g mk q
  obtain ⟨q0, qP, qK⟩ := q
  exact ⟨q0, qP, va_K.moved (u := U) (U := U.calling g mk a) (Vm.Alike.refl U.vm) qK⟩
theorem tw_cont {p : Program} {l : Launch} {e : Env} {R : Room} {s : State} {m : MethodId} {args : Array Value} {below : List Frame} {meth : Method} {c : Code} {G : va_G} {cs : Nat → ClassId} {ad : Nat → Nat} {H0 H : Heap} {locs : List Loc} {cells slots : Nat} {Qm : State → Prop} {ls : Array Slot} {st0 rest : List Value} {Qc : tw_P} {a : Array Value}
    (hr : va_Run p l e R s m args below meth c H locs cells slots 0 0 (F0 m pc ls st0) rest (tw_Qc G cs ad Qc a) (tw_A ad)) (hS : va_S (tw_A ad) H0 H locs)
    (kk : ∀ (r : Option Int32) (M' : tw_M) (H1 : Heap) (locs1 : List Loc), Qc r M' → va_P G tw_cl (tw_w cs ad M') H1 → va_S (tw_A ad) H0 H1 locs1 → W p l e R s m args below meth c H1 locs1 cells slots Qm (F0 m (pc + 3) ls ((r.map Value.int).toList ++ rest))) : W p l e R s m args below meth c H locs cells slots Qm (F0 m pc ls st0) := by
  intro T hT X
  obtain ⟨v, st₀, t, T', L, h0, X', hL, e1, e2, ⟨⟨r, M', hv, hq, hp⟩, hz, hk⟩, st⟩ := hr T hT X
  cases hv
  rw [h0] at hz hk
  obtain ⟨t2, a1, b1⟩ := kk r M' T'.heap (locs ++ L) hq (by rw [e1]; exact hp)
    ⟨Nat.le_trans hS.1 (by rw [e1]; exact hz), fun q h1 h2 => by rw [e1, hk q (Nat.lt_of_lt_of_le h1 hS.1) h2]; exact hS.2.1 q h1 h2, fun q hq => by
      rcases List.mem_append.mp hq with h | h
      · exact hS.2.2 q h
      · exact hL q h⟩ T' rfl X'
  exact ⟨t2, st t2 a1, b1⟩
theorem tw_inv {idx n q ci : Nat} {y : tw_J} {L : List (Option Nat)} {T : u_T} {N : Nat} {st0 : List tw_V} (av : List tw_V) (h : tw_ins j pc = some (.invokevirtual idx, 3)) (hlk : tw_lk j.1.cls idx y n) (hn : av.length = n) (hst : st0 = av.reverse ++ .inr q :: st) (hr8 : st.length ≤ 8) (hy : tw_lay q = .inl (ci, L)) (hc : tw_cl[ci]? = some (y.1.cls, T, N))
    (k : tw_C d y (.inr q :: av) M (fun r M1 => tw_T sc d j M1 (pc + 3) lv (tw_push r st) Q)) : tw_T sc d j M pc lv st0 Q := by
  intro p l e R s m args below meth c G cs ad H0 cells slots Qm X hr H locs ls hP hS hl
  subst hst
  obtain ⟨⟨w1, w2, w3, w4, w5⟩, w6, w7⟩ := hlk
  obtain ⟨x1, x2, x3, x4, x5, x6, x7, x8, x9, x10⟩ := X
  have he : (tw_w cs ad M)[q]? = some (ad q, .inr (ci, L.mapIdx fun k e => tw_fv ad (M q) k e)) := by rw [tw_w_get (tw_lay_lt hy (by simp)), hy]; rfl
  refine tw_cont (rest := st.map (tw_v ad)) (va_runV (b := ad q) (As := av.map (tw_v ad)) (rest := st.map (tw_v ad)) (C := y.1.cls) (Ts := tw_WS) ⟨x1, x2, x3, x4, x5⟩ (k l G cs ad x7) (cwV n x5 (tw_good ?_) rfl rfl rfl ⟨rfl, w4⟩ ⟨x8.1, by show 8 + (y.2.2.1 + 11) + 40 * d ≤ R.locals; omega⟩)
    ⟨tw_blind G cs ad _ M, va_recv x6 hP hc he, fun U hU hW => ⟨rfl, by rw [hU]; exact hP, va_K.moved hW.alike x6⟩⟩ rfl (by rw [List.length_map]; exact hn) hl.1 (by show (av.reverse ++ .inr q :: st).map (tw_v ad) = _; rw [List.map_append, List.map_reverse]; rfl) (lv_room (by rw [tw_cats]; exact hr8)) (x10 _ _ h) ⟨by show cells + 0 ≤ R.cells; omega, by show slots + 0 ≤ R.slots; omega⟩) hS (fun r M' H1 locs1 hQ hP1 hS1 => ?_)
  · intro w hw
    simp only [wsV, List.cons_append, List.nil_append, List.mem_cons] at hw
    rcases hw with rfl | rfl | rfl | rfl | hw
    · exact w2
    · exact w6
    · exact w7
    · exact w3
    · exact w1 w (by simpa using hw)
  · have h1 := hQ p l e R s m args below meth c G cs ad H0 cells slots Qm ⟨x1, x2, x3, x4, x5, x6, x7, x8, x9, x10⟩ hr H1 locs1 ls hP1 hS1 hl
    rw [tw_push_map] at h1
    exact h1
theorem tw_invs {idx n : Nat} {y : tw_J} {st0 : List tw_V} (av : List tw_V) (h : tw_ins j pc = some (.invokestatic idx, 3)) (hlk : tw_lks j.1.cls idx y n) (hown : y.1.cls = j.1.cls) (hn : av.length = n) (hst : st0 = av.reverse ++ st) (hr8 : st.length ≤ 8)
    (k : tw_C d y av M (fun r M1 => tw_T sc d j M1 (pc + 3) lv (tw_push r st) Q)) : tw_T sc d j M pc lv st0 Q := by
  intro p l e R s m args below meth c G cs ad H0 cells slots Qm X hr H locs ls hP hS hl
  subst hst
  obtain ⟨⟨w1, w2, w3, w4, w5⟩, w6⟩ := hlk
  obtain ⟨x1, x2, x3, x4, x5, x6, x7, x8, x9, x10⟩ := X
  refine tw_cont (rest := st.map (tw_v ad)) (va_runS (As := av.map (tw_v ad)) (rest := st.map (tw_v ad)) (Ts := tw_WS) ⟨x1, x2, x3, x4, x5⟩ (k l G cs ad x7) (cwS n x5 (tw_good ?_) rfl rfl rfl ⟨hown, w4⟩ ⟨x8.1, by show 8 + (y.2.2.1 + 11) + 40 * d ≤ R.locals; omega⟩)
    ⟨tw_blind G cs ad _ M, fun U hU hW => ⟨rfl, by rw [hU]; exact hP, va_K.moved hW.alike x6⟩⟩ rfl (by rw [List.length_map]; exact hn) hl.1 (by show (av.reverse ++ st).map (tw_v ad) = _; rw [List.map_append, List.map_reverse]) (lv_room (by rw [tw_cats]; exact hr8)) (x10 _ _ h) ⟨by show cells + 0 ≤ R.cells; omega, by show slots + 0 ≤ R.slots; omega⟩) hS (fun r M' H1 locs1 hQ hP1 hS1 => ?_)
  · intro w hw
    simp only [wsS, List.cons_append, List.nil_append, List.mem_cons] at hw
    rcases hw with rfl | rfl | rfl | hw
    · exact w2
    · exact w6
    · rw [← hown]; exact w3
    · exact w1 w (by simpa using hw)
  · have h1 := hQ p l e R s m args below meth c G cs ad H0 cells slots Qm ⟨x1, x2, x3, x4, x5, x6, x7, x8, x9, x10⟩ hr H1 locs1 ls hP1 hS1 hl
    rw [tw_push_map] at h1
    exact h1
theorem tw_inv0 {idx q ci : Nat} {y : tw_J} {L : List (Option Nat)} {T : u_T} {N : Nat} (h : tw_ins j pc = some (.invokevirtual idx, 3)) (hlk : tw_lk j.1.cls idx y 0) (hr8 : st.length ≤ 8) (hy : tw_lay q = .inl (ci, L)) (hc : tw_cl[ci]? = some (y.1.cls, T, N)) (k : tw_C d y [.inr q] M (fun r M1 => tw_T sc d j M1 (pc + 3) lv (tw_push r st) Q)) : tw_T sc d j M pc lv (.inr q :: st) Q := tw_inv [] h hlk rfl rfl hr8 hy hc k
theorem tw_inv1 {idx q ci : Nat} {y : tw_J} {L : List (Option Nat)} {T : u_T} {N : Nat} {v0 : tw_V} (h : tw_ins j pc = some (.invokevirtual idx, 3)) (hlk : tw_lk j.1.cls idx y 1) (hr8 : st.length ≤ 8) (hy : tw_lay q = .inl (ci, L)) (hc : tw_cl[ci]? = some (y.1.cls, T, N)) (k : tw_C d y [.inr q, v0] M (fun r M1 => tw_T sc d j M1 (pc + 3) lv (tw_push r st) Q)) : tw_T sc d j M pc lv (v0 :: .inr q :: st) Q := tw_inv [v0] h hlk rfl rfl hr8 hy hc k
theorem tw_invs1 {idx : Nat} {y : tw_J} {v0 : tw_V} (h : tw_ins j pc = some (.invokestatic idx, 3)) (hlk : tw_lks j.1.cls idx y 1) (hown : y.1.cls = j.1.cls) (hr8 : st.length ≤ 8) (k : tw_C d y [v0] M (fun r M1 => tw_T sc d j M1 (pc + 3) lv (tw_push r st) Q)) : tw_T sc d j M pc lv (v0 :: st) Q := tw_invs [v0] h hlk hown rfl rfl hr8 k
theorem tw_inv2 {idx q ci : Nat} {y : tw_J} {L : List (Option Nat)} {T : u_T} {N : Nat} {v0 v1 : tw_V} (h : tw_ins j pc = some (.invokevirtual idx, 3)) (hlk : tw_lk j.1.cls idx y 2) (hr8 : st.length ≤ 8) (hy : tw_lay q = .inl (ci, L)) (hc : tw_cl[ci]? = some (y.1.cls, T, N)) (k : tw_C d y [.inr q, v0, v1] M (fun r M1 => tw_T sc d j M1 (pc + 3) lv (tw_push r st) Q)) : tw_T sc d j M pc lv (v1 :: v0 :: .inr q :: st) Q := tw_inv [v0, v1] h hlk rfl rfl hr8 hy hc k
theorem tw_invs2 {idx : Nat} {y : tw_J} {v0 v1 : tw_V} (h : tw_ins j pc = some (.invokestatic idx, 3)) (hlk : tw_lks j.1.cls idx y 2) (hown : y.1.cls = j.1.cls) (hr8 : st.length ≤ 8) (k : tw_C d y [v0, v1] M (fun r M1 => tw_T sc d j M1 (pc + 3) lv (tw_push r st) Q)) : tw_T sc d j M pc lv (v1 :: v0 :: st) Q := tw_invs [v0, v1] h hlk hown rfl rfl hr8 k
theorem tw_inv3 {idx q ci : Nat} {y : tw_J} {L : List (Option Nat)} {T : u_T} {N : Nat} {v0 v1 v2 : tw_V} (h : tw_ins j pc = some (.invokevirtual idx, 3)) (hlk : tw_lk j.1.cls idx y 3) (hr8 : st.length ≤ 8) (hy : tw_lay q = .inl (ci, L)) (hc : tw_cl[ci]? = some (y.1.cls, T, N)) (k : tw_C d y [.inr q, v0, v1, v2] M (fun r M1 => tw_T sc d j M1 (pc + 3) lv (tw_push r st) Q)) : tw_T sc d j M pc lv (v2 :: v1 :: v0 :: .inr q :: st) Q := tw_inv [v0, v1, v2] h hlk rfl rfl hr8 hy hc k
theorem tw_invs3 {idx : Nat} {y : tw_J} {v0 v1 v2 : tw_V} (h : tw_ins j pc = some (.invokestatic idx, 3)) (hlk : tw_lks j.1.cls idx y 3) (hown : y.1.cls = j.1.cls) (hr8 : st.length ≤ 8) (k : tw_C d y [v0, v1, v2] M (fun r M1 => tw_T sc d j M1 (pc + 3) lv (tw_push r st) Q)) : tw_T sc d j M pc lv (v2 :: v1 :: v0 :: st) Q := tw_invs [v0, v1, v2] h hlk hown rfl rfl hr8 k
theorem tw_inv4 {idx q ci : Nat} {y : tw_J} {L : List (Option Nat)} {T : u_T} {N : Nat} {v0 v1 v2 v3 : tw_V} (h : tw_ins j pc = some (.invokevirtual idx, 3)) (hlk : tw_lk j.1.cls idx y 4) (hr8 : st.length ≤ 8) (hy : tw_lay q = .inl (ci, L)) (hc : tw_cl[ci]? = some (y.1.cls, T, N)) (k : tw_C d y [.inr q, v0, v1, v2, v3] M (fun r M1 => tw_T sc d j M1 (pc + 3) lv (tw_push r st) Q)) : tw_T sc d j M pc lv (v3 :: v2 :: v1 :: v0 :: .inr q :: st) Q := tw_inv [v0, v1, v2, v3] h hlk rfl rfl hr8 hy hc k
theorem tw_invs4 {idx : Nat} {y : tw_J} {v0 v1 v2 v3 : tw_V} (h : tw_ins j pc = some (.invokestatic idx, 3)) (hlk : tw_lks j.1.cls idx y 4) (hown : y.1.cls = j.1.cls) (hr8 : st.length ≤ 8) (k : tw_C d y [v0, v1, v2, v3] M (fun r M1 => tw_T sc d j M1 (pc + 3) lv (tw_push r st) Q)) : tw_T sc d j M pc lv (v3 :: v2 :: v1 :: v0 :: st) Q := tw_invs [v0, v1, v2, v3] h hlk hown rfl rfl hr8 k
theorem tw_inv5 {idx q ci : Nat} {y : tw_J} {L : List (Option Nat)} {T : u_T} {N : Nat} {v0 v1 v2 v3 v4 : tw_V} (h : tw_ins j pc = some (.invokevirtual idx, 3)) (hlk : tw_lk j.1.cls idx y 5) (hr8 : st.length ≤ 8) (hy : tw_lay q = .inl (ci, L)) (hc : tw_cl[ci]? = some (y.1.cls, T, N)) (k : tw_C d y [.inr q, v0, v1, v2, v3, v4] M (fun r M1 => tw_T sc d j M1 (pc + 3) lv (tw_push r st) Q)) : tw_T sc d j M pc lv (v4 :: v3 :: v2 :: v1 :: v0 :: .inr q :: st) Q := tw_inv [v0, v1, v2, v3, v4] h hlk rfl rfl hr8 hy hc k
theorem tw_invs5 {idx : Nat} {y : tw_J} {v0 v1 v2 v3 v4 : tw_V} (h : tw_ins j pc = some (.invokestatic idx, 3)) (hlk : tw_lks j.1.cls idx y 5) (hown : y.1.cls = j.1.cls) (hr8 : st.length ≤ 8) (k : tw_C d y [v0, v1, v2, v3, v4] M (fun r M1 => tw_T sc d j M1 (pc + 3) lv (tw_push r st) Q)) : tw_T sc d j M pc lv (v4 :: v3 :: v2 :: v1 :: v0 :: st) Q := tw_invs [v0, v1, v2, v3, v4] h hlk hown rfl rfl hr8 k
theorem tw_C_mono {y : tw_J} {av : List tw_V} {Q' : tw_P} (h : tw_C d y av M Q) (hq : ∀ r M', Q r M' → Q' r M') : tw_C d y av M Q' := by
  intro l G cs ad hinj
  have h0 := h l G cs ad hinj
  unfold Met at h0 ⊢
  refine Jvm.Free.MetFree.mono h0 (fun _ _ q => q) (fun _ _ _ _ _ q => q) (fun a st o t _ hx => ⟨?_, hx.2⟩)
  obtain ⟨⟨r, M', h1, h2, h3⟩, h4⟩ := hx.1
  exact ⟨⟨r, M', h1, hq r M' h2, h3⟩, h4⟩
theorem tw_T_mono {Q' : tw_P} (h : tw_T sc d j M pc lv st Q) (hq : ∀ r M', Q r M' → Q' r M') : tw_T sc d j M pc lv st Q' := fun p l e R s m args below meth c G cs ad H0 cells slots Qm X hr => h p l e R s m args below meth c G cs ad H0 cells slots Qm X (fun r M' q => hr r M' (hq r M' q))
theorem tw_getV {idx ci f q : Nat} {v : Int32} {L : List (Option Nat)} (h : tw_ins j pc = some (.getfield idx, 3)) (hf : tw_fl j.1.cls idx ci f) (hy : tw_lay q = .inl (ci, L)) (hk : L[f]? = some none) (hv : M q f = v) (k : tw_T sc d j M (pc + 3) lv (.inl v :: st) Q) : tw_T sc d j M pc lv (.inr q :: st) Q := by
  subst hv
  exact tw_getI h hf hy hk k
theorem tw_ialdV {q n b : Nat} {i v : Int32} (h : tw_ins j pc = some (.iaload, 1)) (hy : tw_lay q = .inr (0, n, b)) (hin : 0 ≤ i.toInt ∧ i.toInt < (n : Int)) (hv : M q i.toInt.toNat = v) (k : tw_T sc d j M (pc + 1) lv (.inl v :: st) Q) : tw_T sc d j M pc lv (.inl i :: .inr q :: st) Q := by
  subst hv
  exact tw_iald h hy hin k
theorem tw_addI {x y : Int32} (h : -2147483648 ≤ x.toInt + y.toInt ∧ x.toInt + y.toInt < 2147483648) : (x + y).toInt = x.toInt + y.toInt := by
  rw [Int32.toInt_add]
  exact Int.bmod_eq_of_le (by omega) (by omega)
theorem tw_subI {x y : Int32} (h : -2147483648 ≤ x.toInt - y.toInt ∧ x.toInt - y.toInt < 2147483648) : (x - y).toInt = x.toInt - y.toInt := by
  rw [Int32.toInt_sub]
  exact Int.bmod_eq_of_le (by omega) (by omega)
theorem tw_mulI {x y : Int32} (h : -2147483648 ≤ x.toInt * y.toInt ∧ x.toInt * y.toInt < 2147483648) : (x * y).toInt = x.toInt * y.toInt := by
  rw [Int32.toInt_mul]
  exact Int.bmod_eq_of_le (by omega) (by omega)
theorem tw_iaddF {x y : Int32} (h : tw_ins j pc = some (.iadd, 1)) (hb : -2147483648 ≤ x.toInt + y.toInt ∧ x.toInt + y.toInt < 2147483648) (k : (x + y).toInt = x.toInt + y.toInt → tw_T sc d j M (pc + 1) lv (.inl (x + y) :: st) Q) : tw_T sc d j M pc lv (.inl y :: .inl x :: st) Q := tw_iadd h (k (tw_addI hb))
theorem tw_isubF {x y : Int32} (h : tw_ins j pc = some (.isub, 1)) (hb : -2147483648 ≤ x.toInt - y.toInt ∧ x.toInt - y.toInt < 2147483648) (k : (x - y).toInt = x.toInt - y.toInt → tw_T sc d j M (pc + 1) lv (.inl (x - y) :: st) Q) : tw_T sc d j M pc lv (.inl y :: .inl x :: st) Q := tw_isub h (k (tw_subI hb))
theorem tw_imulF {x y : Int32} (h : tw_ins j pc = some (.imul, 1)) (hb : -2147483648 ≤ x.toInt * y.toInt ∧ x.toInt * y.toInt < 2147483648) (k : (x * y).toInt = x.toInt * y.toInt → tw_T sc d j M (pc + 1) lv (.inl (x * y) :: st) Q) : tw_T sc d j M pc lv (.inl y :: .inl x :: st) Q := tw_imul h (k (tw_mulI hb))
theorem tw_imul5F {y : Int32} (h : tw_ins j pc = some (.imul, 1)) (hb : 0 ≤ y.toInt ∧ y.toInt ≤ 1000) (k : ((5 : Int32) * y).toInt = 5 * y.toInt → tw_T sc d j M (pc + 1) lv (.inl ((5 : Int32) * y) :: st) Q) : tw_T sc d j M pc lv (.inl y :: .inl (5 : Int32) :: st) Q := by
  have z : (5 : Int32).toInt = 5 := by decide
  have e : ((5 : Int32) * y).toInt = (5 : Int32).toInt * y.toInt := tw_mulI (by rw [z]; omega)
  exact tw_imul h (k (by rw [e, z]))
theorem tw_iincF {i : Nat} {n : Int} {x v : Int32} (h : tw_ins j pc = some (.iinc i n, 3)) (hx : lv[i]? = some (some (.inl x))) (hv : Int32.ofInt n = v) (hn : i < j.2.2.1) (hb : -2147483648 ≤ x.toInt + v.toInt ∧ x.toInt + v.toInt < 2147483648) (k : (x + v).toInt = x.toInt + v.toInt → tw_T sc d j M (pc + 3) (lv.set i (some (.inl (x + v)))) st Q) : tw_T sc d j M pc lv st Q := tw_iinc h hx hv hn (k (tw_addI hb))
end TWR
