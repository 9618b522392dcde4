def tb_up (S : Nat → va_E) (k : Nat) (E : va_E) : Nat → va_E := fun q => if q = k then E else S q
def tb_w (ad : Nat → Nat) (n : Nat) (S : Nat → va_E) : va_W := (List.range n).map fun q => (ad q, S q)
def tb_A (B a : Nat) : Prop := B ≤ a
theorem tb_w_get {ad : Nat → Nat} {n q : Nat} {S : Nat → va_E} (h : q < n) : (tb_w ad n S)[q]? = some (ad q, S q) := by
  simp [tb_w, List.getElem?_map, List.getElem?_range h]
theorem tb_w_out {ad : Nat → Nat} {n q : Nat} {S : Nat → va_E} {x : Nat × va_E} (h : (tb_w ad n S)[q]? = some x) : q < n ∧ x = (ad q, S q) := by
  have hq : q < n := by
    have h1 := (List.getElem?_eq_some_iff.mp h).1
    simpa [tb_w] using h1
  rw [tb_w_get hq] at h
  exact ⟨hq, (Option.some.inj h).symm⟩
theorem tb_w_set {ad : Nat → Nat} {n q : Nat} {S : Nat → va_E} {E : va_E} : (tb_w ad n S).set q (ad q, E) = tb_w ad n (tb_up S q E) := by
  apply List.ext_getElem?
  intro i
  by_cases hi : i < n
  · rw [tb_w_get hi, List.getElem?_set]
    by_cases e : q = i
    · subst e
      have h1 : q < (tb_w ad n S).length := by simpa [tb_w] using hi
      rw [if_pos rfl, if_pos h1]
      simp [tb_up]
    · rw [if_neg e, tb_w_get hi]
      simp [tb_up, show ¬ i = q from fun h => e h.symm]
  · have h1 : (tb_w ad n (tb_up S q E)).length ≤ i := by simp only [tb_w, List.length_map, List.length_range]; omega
    have h2 : ((tb_w ad n S).set q (ad q, E)).length ≤ i := by simp only [tb_w, List.length_set, List.length_map, List.length_range]; omega
    rw [List.getElem?_eq_none h1, List.getElem?_eq_none h2]
theorem tb_w_D {ad : Nat → Nat} {B n : Nat} {S : Nat → va_E} (had : ∀ q, q < 116 → ad q = B + q) (hn : n ≤ 116) : va_D (tb_A B) (tb_w ad n S) := by
  refine ⟨fun i j x y hi hj e => ?_, fun k x hk => ?_⟩
  · obtain ⟨a1, rfl⟩ := tb_w_out hi
    obtain ⟨a2, rfl⟩ := tb_w_out hj
    have e2 : ad i = ad j := e
    rw [had i (by omega), had j (by omega)] at e2
    omega
  · obtain ⟨a1, rfl⟩ := tb_w_out hk
    show B ≤ ad k
    rw [had k (by omega)]
    omega
theorem tb_grow {G : va_G} {ad : Nat → Nat} {n n' : Nat} {S S' : Nat → va_E} {H H' : Heap} (hP : va_P G tw_cl (tb_w ad n S) H) (ho : ∀ q, q < H.size → H'[q]? = H[q]?) (hs : ∀ q, q < n → S' q = S q) (hn : ∀ q, n ≤ q → q < n' → va_at G tw_cl (ad q, S' q) H') : va_P G tw_cl (tb_w ad n' S') H' := by
  intro k x hk
  obtain ⟨a1, rfl⟩ := tb_w_out hk
  by_cases e : k < n
  · rw [hs k e]
    have h1 := hP k _ (tb_w_get e)
    exact h1.kept (ho _ h1.lt)
  · exact hn k (by omega) a1
theorem tb_S_grow {B : Nat} {H0 H H' : Heap} {locs : List Loc} (hB : B ≤ H.size) (h : va_S (tb_A B) H0 H locs) (hz : H.size ≤ H'.size) (ho : ∀ q, q < H.size → H'[q]? = H[q]?) : va_S (tb_A B) H0 H' locs := by
  refine ⟨Nat.le_trans h.1 hz, fun q h1 h2 => ?_, h.2.2⟩
  rw [ho q (Nat.lt_of_lt_of_le h1 h.1)]
  exact h.2.1 q h1 h2
def tb_N (U : State) : Prop := va_Nw (.methodLinkNest "TaskWeaver" 11 ⟨"TaskWeaver$Domain", "<init>", "()V"⟩ "TaskWeaver") U ∧ va_Nw (.methodLinkNest "TaskWeaver$Search" 11 ⟨"TaskWeaver$Row", "<init>", "()V"⟩ "TaskWeaver") U ∧ va_Nw (.methodLinkNest "TaskWeaver$Checker" 11 ⟨"TaskWeaver$Row", "<init>", "()V"⟩ "TaskWeaver") U ∧ (Cond.arrayOver (.array .int)).before #[] U = true
theorem tb_O {u U : State} (e : u.vm = U.vm) (h : (Cond.arrayOver (.array .int)).before #[] u = true) : (Cond.arrayOver (.array .int)).before #[] U = true := by
  have h1 : (Cond.arrayOver (.array .int)).before #[] U = (fun vm => (Cond.arrayOver (.array .int)).before #[] (u.setVm vm)) U.vm := rfl
  rw [h1, ← e]
  exact h
theorem tb_N_warm {s U : State} (hW : s.WarmedH U.vm) (h : tb_N s) : tb_N U := ⟨va_Nw.warmM hW h.1, va_Nw.warmM hW h.2.1, va_Nw.warmM hW h.2.2.1, tb_O (rfl : (s.setVm U.vm).vm = U.vm) (by rw [Cond.arrayOver_setVmC hW.alike]; exact h.2.2.2)⟩
theorem tb_N_same {u U : State} (e : u.vm = U.vm) (h : tb_N u) : tb_N U := ⟨va_Nw.same rfl e h.1, va_Nw.same rfl e h.2.1, va_Nw.same rfl e h.2.2.1, tb_O e h.2.2.2⟩
abbrev tb_Q : Type := Nat → Nat → Nat → (Nat → va_E) → Nat → List (Option tw_V) → List tw_V → Prop
def tb_X (G : va_G) (cs : Nat → ClassId) (ad : Nat → Nat) (B CC SS d : Nat) (j : tw_J) (p : Program) (R : Room) (s : State) (m : MethodId) (args : Array Value) (meth : Method) (c : Code) : Prop :=
  p.tables.exec = Jvm.exec ∧ c.code = j.2.1 ∧ c.maxLocals = j.2.2.1 ∧ s.vm.findClass j.1.cls = some m.cls ∧ (∀ w ∈ tw_WS, w.before args s = true) ∧ va_K G tw_cl (tw_tys cs) s ∧ (d + 1 ≤ R.frames ∧ 40 * d + 40 ≤ R.locals ∧ CC ≤ R.cells ∧ SS ≤ R.slots) ∧ tb_N s ∧ tw_dec j ∧ (∀ q, q < 116 → ad q = B + q) ∧ (j.1.name = "<init>" → meth.name = "<init>")
def tb_T (G : va_G) (cs : Nat → ClassId) (ad : Nat → Nat) (B CC SS d : Nat) (j : tw_J) (cells slots n : Nat) (S : Nat → va_E) (pc : Nat) (lv : List (Option tw_V)) (st : List tw_V) (Q : tb_Q) : Prop :=
  ∀ (p : Program) (l : Launch) (e : Env) (R : Room) (s : State) (m : MethodId) (args : Array Value) (below : List Frame) (meth : Method) (c : Code) (H0 : Heap) (Qm : State → Prop), tb_X G cs ad B CC SS d j p R s m args meth c →
  (∀ (cells' slots' n' : Nat) (S' : Nat → va_E) (pc' : Nat) (lv' : List (Option tw_V)) (st' : List tw_V), Q cells' slots' n' S' pc' lv' st' → ∀ (H : Heap) (locs : List Loc) (ls : Array Slot), H.size = B + n' → va_P G tw_cl (tb_w ad n' S') H → va_S (tb_A B) H0 H locs → tw_L ad ls j.2.2.1 lv' → W p l e R s m args below meth c H locs cells' slots' Qm (F0 m pc' ls (st'.map (tw_v ad)))) →
  ∀ (H : Heap) (locs : List Loc) (ls : Array Slot), H.size = B + n → va_P G tw_cl (tb_w ad n S) H → va_S (tb_A B) H0 H locs → tw_L ad ls j.2.2.1 lv → W p l e R s m args below meth c H locs cells slots Qm (F0 m pc ls (st.map (tw_v ad)))
section TBR
variable {G : va_G} {cs : Nat → ClassId} {ad : Nat → Nat} {B CC SS d : Nat} {j : tw_J} {cells slots n : Nat} {S : Nat → va_E} {pc : Nat} {lv : List (Option tw_V)} {st : List tw_V} {Q : tb_Q}
theorem tb_stop (h : Q cells slots n S pc lv st) : tb_T G cs ad B CC SS d j cells slots n S pc lv st Q := fun p l e R s m args below meth c H0 Qm X hr H locs ls hz hP hS hl => hr cells slots n S pc lv st h H locs ls hz hP hS hl
theorem tb_iconst {k : Int} {v : Int32} (h : tw_ins j pc = some (.iconst k, 1)) (hv : Int32.ofInt k = v) (kk : tb_T G cs ad B CC SS d j cells slots n S (pc + 1) lv (.inl v :: st) Q) : tb_T G cs ad B CC SS d j cells slots n S pc lv st Q := fun p l e R s m args below meth c H0 Qm X hr H locs ls hz hP hS hl => lv_iconst X.1 X.2.1 (X.2.2.2.2.2.2.2.2.1 _ _ h) hv (kk p l e R s m args below meth c H0 Qm X hr H locs ls hz hP hS hl)
theorem tb_bipush {k : Int} {v : Int32} (h : tw_ins j pc = some (.bipush k, 2)) (hv : (Int8.ofInt k).toInt32 = v) (kk : tb_T G cs ad B CC SS d j cells slots n S (pc + 2) lv (.inl v :: st) Q) : tb_T G cs ad B CC SS d j cells slots n S pc lv st Q := fun p l e R s m args below meth c H0 Qm X hr H locs ls hz hP hS hl => lv_bipush X.1 X.2.1 (X.2.2.2.2.2.2.2.2.1 _ _ h) hv (kk p l e R s m args below meth c H0 Qm X hr H locs ls hz hP hS hl)
theorem tb_sipush {k : Int} {v : Int32} (h : tw_ins j pc = some (.sipush k, 3)) (hv : (Int16.ofInt k).toInt32 = v) (kk : tb_T G cs ad B CC SS d j cells slots n S (pc + 3) lv (.inl v :: st) Q) : tb_T G cs ad B CC SS d j cells slots n S pc lv st Q := fun p l e R s m args below meth c H0 Qm X hr H locs ls hz hP hS hl => lv_sipush X.1 X.2.1 (X.2.2.2.2.2.2.2.2.1 _ _ h) hv (kk p l e R s m args below meth c H0 Qm X hr H locs ls hz hP hS hl)
theorem tb_aload_n {k : Fin 4} {x : Nat} (h : tw_ins j pc = some (.aload_n k, 1)) (hx : lv[(k : Nat)]? = some (some (.inr x))) (kk : tb_T G cs ad B CC SS d j cells slots n S (pc + 1) lv (.inr x :: st) Q) : tb_T G cs ad B CC SS d j cells slots n S pc lv st Q := fun p l e R s m args below meth c H0 Qm X hr H locs ls hz hP hS hl => lv_aload_n X.1 X.2.1 (X.2.2.2.2.2.2.2.2.1 _ _ h) rfl (hl.2.2 _ _ hx) (kk p l e R s m args below meth c H0 Qm X hr H locs ls hz hP hS hl)
theorem tb_dup {v : tw_V} (h : tw_ins j pc = some (.dup, 1)) (kk : tb_T G cs ad B CC SS d j cells slots n S (pc + 1) lv (v :: v :: st) Q) : tb_T G cs ad B CC SS d j cells slots n S pc lv (v :: st) Q := fun p l e R s m args below meth c H0 Qm X hr H locs ls hz hP hS hl => lv_dup X.1 X.2.1 (X.2.2.2.2.2.2.2.2.1 _ _ h) (tw_cat ad v) (kk p l e R s m args below meth c H0 Qm X hr H locs ls hz hP hS hl)
theorem tb_astore_n {k : Fin 4} {x : Nat} (h : tw_ins j pc = some (.astore_n k, 1)) (hn : (k : Nat) < j.2.2.1) (kk : tb_T G cs ad B CC SS d j cells slots n S (pc + 1) (lv.set (k : Nat) (some (.inr x))) st Q) : tb_T G cs ad B CC SS d j cells slots n S pc lv (.inr x :: st) Q := fun p l e R s m args below meth c H0 Qm X hr H locs ls hz hP hS hl => lv_astore_n X.1 X.2.1 (X.2.2.2.2.2.2.2.2.1 _ _ h) rfl (tw_L_has hl) hn rfl (fun ls' hl' => kk p l e R s m args below meth c H0 Qm X hr H locs ls' hz hP hS (tw_L_set hl'))
theorem tb_istore_n {k : Fin 4} {x : Int32} (h : tw_ins j pc = some (.istore_n k, 1)) (hn : (k : Nat) < j.2.2.1) (kk : tb_T G cs ad B CC SS d j cells slots n S (pc + 1) (lv.set (k : Nat) (some (.inl x))) st Q) : tb_T G cs ad B CC SS d j cells slots n S pc lv (.inl x :: st) Q := fun p l e R s m args below meth c H0 Qm X hr H locs ls hz hP hS hl => lv_istore_n X.1 X.2.1 (X.2.2.2.2.2.2.2.2.1 _ _ h) rfl (tw_L_has hl) hn rfl (fun ls' hl' => kk p l e R s m args below meth c H0 Qm X hr H locs ls' hz hP hS (tw_L_set hl'))
theorem tb_objInit {idx x : Nat} (h : tw_ins j pc = some (.invokespecial idx, 3)) (h1 : Cond.methodLink j.1.cls idx Lib.objectInit ∈ tw_WS) (h2 : Cond.instanceMethod Lib.objectInit ∈ tw_WS) (h3 : Cond.code Lib.objectInit ⟨#[0xb1]⟩ 1 none ∈ tw_WS) (hr8 : st.length ≤ 8) (kk : tb_T G cs ad B CC SS d j cells slots n S (pc + 3) lv st Q) : tb_T G cs ad B CC SS d j cells slots n S pc lv (.inr x :: st) Q := fun p l e R s m args below meth c H0 Qm X hr H locs ls hz hP hS hl => W.objInit X.1 X.2.1 X.2.2.2.1 (X.2.2.2.2.1 _ h1) (X.2.2.2.2.1 _ h2) (X.2.2.2.2.1 _ h3) rfl (by rw [X.2.2.1]; exact hl.1) rfl (X.2.2.2.2.2.2.2.2.1 _ _ h) (by have := X.2.2.2.2.2.2.1.1; omega) (by have h1 := X.2.2.2.2.2.2.1.2.1; have h2 := lv_room (m := m) (pc := pc) (ls := ls) (rest := (tw_v ad (.inr x) :: st.map (tw_v ad))) (st := st.map (tw_v ad)) (by rw [tw_cats]; exact hr8); show 2 * (F0 m pc ls (tw_v ad (.inr x) :: st.map (tw_v ad))).monitorRoom + _ + 12 ≤ R.locals; omega) (kk p l e R s m args below meth c H0 Qm X hr H locs ls hz hP hS hl)
theorem tb_newI {x : Int32} {N : Nat} (h : tw_ins j pc = some (.newarray .int, 2)) (hw : Cond.arrayClass .int ∈ tw_WS) (hx : x.toInt = (N : Int)) (hN : N ≤ 1000) (hn : n < 116) (hc : cells + 1 ≤ CC) (hs : slots + N ≤ SS) (kk : tb_T G cs ad B CC SS d j (cells + 1) (slots + N) (n + 1) (tb_up S n (.inl (cs 0, N, .inl (fun _ => 0)))) (pc + 2) lv (.inr n :: st) Q) : tb_T G cs ad B CC SS d j cells slots n S pc lv (.inl x :: st) Q := by
  intro p l e R s m args below meth c H0 Qm X hr H locs ls hz hP hS hl
  have z0 : (0 : Int32).toInt = 0 := by decide
  refine va_newaK (atype := .int) X.1 X.2.1 (X.2.2.2.2.1 _ hw) rfl (X.2.2.2.2.2.2.2.2.1 _ _ h) rfl (fun q => by have := Int32.lt_iff_toInt_lt.mp q; omega) (show x.toInt.toNat = N by omega) (by show N * 4 ≤ 536870912; omega) (by have := X.2.2.2.2.2.2.1.2.2.1; omega) (by have := X.2.2.2.2.2.2.1.2.2.2; omega) hz (fun H' cA e1 z1 o1 hA hF => ?_)
  have hcA : cA = cs 0 := Option.some.inj (hF.symm.trans (X.2.2.2.2.2.1.2 0 (cs 0, .int) rfl).2)
  subst hcA
  have ea : ad n = B + n := X.2.2.2.2.2.2.2.2.2.1 n hn
  have hg := kk p l e R s m args below meth c H0 Qm X hr H' locs ls (by rw [z1]; omega) (tb_grow hP (fun q hq => o1 q (by omega)) (fun q hq => by simp [tb_up, show ¬ q = n by omega]) (fun q h1 h2 => by
    have hq : q = n := by omega
    subst hq
    show va_at G tw_cl (ad q, tb_up S q (.inl (cs 0, N, .inl (fun _ => 0))) q) H'
    rw [ea]
    simp only [tb_up, if_true]
    exact e1)) (tb_S_grow (by omega) hS (by omega) (fun q hq => o1 q (by omega))) hl
  rw [List.map_cons] at hg
  have e2 : tw_v ad (.inr n) = Value.ref (B + n) := by show Value.ref (ad n) = _; rw [ea]
  rw [e2] at hg
  exact hg
theorem tb_newZ {x : Int32} {N : Nat} (h : tw_ins j pc = some (.newarray .boolean, 2)) (hw : Cond.arrayClass .boolean ∈ tw_WS) (hx : x.toInt = (N : Int)) (hN : N ≤ 1000) (hn : n < 116) (hc : cells + 1 ≤ CC) (hs : slots + N ≤ SS) (kk : tb_T G cs ad B CC SS d j (cells + 1) (slots + N) (n + 1) (tb_up S n (.inl (cs 1, N, .inl (fun _ => 0)))) (pc + 2) lv (.inr n :: st) Q) : tb_T G cs ad B CC SS d j cells slots n S pc lv (.inl x :: st) Q := by
  intro p l e R s m args below meth c H0 Qm X hr H locs ls hz hP hS hl
  have z0 : (0 : Int32).toInt = 0 := by decide
  refine va_newaK (atype := .boolean) X.1 X.2.1 (X.2.2.2.2.1 _ hw) rfl (X.2.2.2.2.2.2.2.2.1 _ _ h) rfl (fun q => by have := Int32.lt_iff_toInt_lt.mp q; omega) (show x.toInt.toNat = N by omega) (by show N * 1 ≤ 536870912; omega) (by have := X.2.2.2.2.2.2.1.2.2.1; omega) (by have := X.2.2.2.2.2.2.1.2.2.2; omega) hz (fun H' cA e1 z1 o1 hA hF => ?_)
  have hcA : cA = cs 1 := Option.some.inj (hF.symm.trans (X.2.2.2.2.2.1.2 1 (cs 1, .boolean) rfl).2)
  subst hcA
  have ea : ad n = B + n := X.2.2.2.2.2.2.2.2.2.1 n hn
  have hg := kk p l e R s m args below meth c H0 Qm X hr H' locs ls (by rw [z1]; omega) (tb_grow hP (fun q hq => o1 q (by omega)) (fun q hq => by simp [tb_up, show ¬ q = n by omega]) (fun q h1 h2 => by
    have hq : q = n := by omega
    subst hq
    show va_at G tw_cl (ad q, tb_up S q (.inl (cs 1, N, .inl (fun _ => 0))) q) H'
    rw [ea]
    simp only [tb_up, if_true]
    exact e1)) (tb_S_grow (by omega) hS (by omega) (fun q hq => o1 q (by omega))) hl
  rw [List.map_cons] at hg
  have e2 : tw_v ad (.inr n) = Value.ref (B + n) := by show Value.ref (ad n) = _; rw [ea]
  rw [e2] at hg
  exact hg
section WB
variable {p : Program} {l : Launch} {e : Env} {R : Room} {s : State} {m : MethodId} {args : Array Value} {below : List Frame} {meth : Method} {c : Code} {H : Heap} {locs : List Loc} {Qm : State → Prop} {cc : ByteArray} {ls : Array Slot} {rest : List Value} {D : va_G} {A : Nat → Prop} {a : Nat} {tys : List (ClassId × FieldType)} {ws : va_W} {H0 : Heap}
theorem wb_put (hexec : p.tables.exec = Jvm.exec) (hb : c.code = cc) {own C : String} {T : u_T} {N ci index : Nat} {Ts : List Cond} (hts : ∀ w ∈ Ts, w.before args s = true) (hin : ∀ w ∈ u_ws C T N, w ∈ Ts) (ty0 : Nat → FieldType) (hty : ∀ k, k < N → parseFieldDescriptor (T k).2.2.1 = some (ty0 k)) (hnm : ∀ a, a < N → ∀ b, b < N → a ≠ b → (T a).2.1 ≠ (T b).2.1) (hown : s.vm.findClass own = some m.cls) (hK : va_K D tw_cl tys s) (hP : va_P D tw_cl ws H) (hD : va_D A ws) (hS0 : va_S A H0 H locs) (q0 : Nat) {fs : List Value} (he : ws[q0]? = some (a, .inr (ci, fs))) (hc : tw_cl[ci]? = some (C, T, N)) (k : Nat) (hk : k < N) (hlink : (Cond.fieldLink own index (T k).1 (T k).2.1 (T k).2.2.1).before args s = true) (hfin : (T k).2.2.2 = false) {ty : FieldType} {v : Value} (hd : parseFieldDescriptor (T k).2.2.1 = some ty) (hn : narrow ty v = v) (hfit : fits ty v = true) (hl : k < fs.length) (hdg : decode cc pc = .ok (.putfield index, 3))
    (kk : ∀ (H1 : Heap) (locs1 : List Loc), H1.size = H.size → va_P D tw_cl (ws.set q0 (a, .inr (ci, fs.set k v))) H1 → va_S A H0 H1 locs1 → W p l e R s m args below meth c H1 locs1 cells slots Qm (F0 m (pc + 3) ls rest)) : W p l e R s m args below meth c H locs cells slots Qm (F0 m pc ls (v :: .ref a :: rest)) := by
  have hap := va_apart (own := own) hts hin ty0 hty hnm hK hc
  obtain ⟨r, h1, cell, q1, q2, q3, q4⟩ := hP q0 _ he
  have hr : r = (C, T, N) := Option.some.inj (h1.symm.trans hc)
  subst hr
  obtain ⟨hS, hfc, kC, hkC, hkind⟩ := hK.1 ci _ hc
  obtain ⟨cf, kf, fi, f, hi, hsl⟩ := hS k hk
  have hlay := hts _ (hin _ (u_in_lay hk))
  unfold u_lay at hlay
  rw [if_neg (by rw [hfin]; decide)] at hlay
  have hst := (u_facts hfc hkC (u_lays hts hin hk) hi).1
  have h6 := u_store hfc hkC hkind hlay hi hd hn hfit
  refine W.putK hexec hb (f := f) ⟨hown, hlink, ⟨_, _, _, hi⟩, hst⟩ (by rw [q2]; exact h6) q1 q3 (by rw [hsl]; exact k2_hasslot (q4 k hk)) rfl rfl hdg fun H' e1 e2 e3 => ?_
  rw [hsl] at e1 ⊢
  exact kk H' _ e2 (hP.set hD he ⟨_, hc, t_OB.to (V := updV (vp_V fs) k v) ⟨_, e1, q2, q3, t_set q4 hap hk v⟩ (fun j _ => vp_updV_set hl v j)⟩ e3) (hS0.put e2 e3 (hD.2 q0 _ he))
theorem wb_putF (hexec : p.tables.exec = Jvm.exec) (hb : c.code = cc) {own C : String} {T : u_T} {N ci index : Nat} {Ts : List Cond} (hts : ∀ w ∈ Ts, w.before args s = true) (hin : ∀ w ∈ u_ws C T N, w ∈ Ts) (ty0 : Nat → FieldType) (hty : ∀ k, k < N → parseFieldDescriptor (T k).2.2.1 = some (ty0 k)) (hnm : ∀ a, a < N → ∀ b, b < N → a ≠ b → (T a).2.1 ≠ (T b).2.1) (hown : s.vm.findClass own = some m.cls) (hK : va_K D tw_cl tys s) (hP : va_P D tw_cl ws H) (hD : va_D A ws) (hS0 : va_S A H0 H locs) (q0 : Nat) {fs : List Value} (he : ws[q0]? = some (a, .inr (ci, fs))) (hc : tw_cl[ci]? = some (C, T, N)) (k : Nat) (hk : k < N) (hlink : (Cond.fieldLink own index (T k).1 (T k).2.1 (T k).2.2.1).before args s = true) (hfin : (T k).2.2.2 = true) (hin2 : meth.name = "<init>") (hdecl : (T k).1 = own) {ty : FieldType} {v : Value} (hd : parseFieldDescriptor (T k).2.2.1 = some ty) (hn : narrow ty v = v) (hfit : fits ty v = true) (hl : k < fs.length) (hdg : decode cc pc = .ok (.putfield index, 3))
    (kk : ∀ (H1 : Heap) (locs1 : List Loc), H1.size = H.size → va_P D tw_cl (ws.set q0 (a, .inr (ci, fs.set k v))) H1 → va_S A H0 H1 locs1 → W p l e R s m args below meth c H1 locs1 cells slots Qm (F0 m (pc + 3) ls rest)) : W p l e R s m args below meth c H locs cells slots Qm (F0 m pc ls (v :: .ref a :: rest)) := by
  have hap := va_apart (own := own) hts hin ty0 hty hnm hK hc
  obtain ⟨r, h1, cell, q1, q2, q3, q4⟩ := hP q0 _ he
  have hr : r = (C, T, N) := Option.some.inj (h1.symm.trans hc)
  subst hr
  obtain ⟨hS, hfc, kC, hkC, hkind⟩ := hK.1 ci _ hc
  obtain ⟨cf, kf, fi, f, hi, hsl⟩ := hS k hk
  have hlay := hts _ (hin _ (u_in_lay hk))
  unfold u_lay at hlay
  rw [if_pos hfin] at hlay
  have hst := (u_facts hfc hkC (u_lays hts hin hk) hi).1
  have hcf : m.cls = cf := by
    obtain ⟨_, _, c', _, _, _, -, -, hf', -, -, -, hown2, -⟩ := Cond.laysFinal_spec hlay
    have e1 : c' = cf := by have := hi.symm.trans hf'; simp at this; exact this.1.symm
    rw [hdecl] at hown2
    rw [← e1]; exact Option.some.inj (hown.symm.trans hown2)
  have h6 := u_fits hfc hkC hkind (Or.inr hlay) hi hd hn hfit
  refine W.putFinK hexec hb hown hlink hi hst hcf hin2 (by rw [q2]; exact h6) q1 q3 (by rw [hsl]; exact k2_hasslot (q4 k hk)) rfl rfl hdg fun H' e1 e2 e3 => ?_
  rw [hsl] at e1 ⊢
  exact kk H' _ e2 (hP.set hD he ⟨_, hc, t_OB.to (V := updV (vp_V fs) k v) ⟨_, e1, q2, q3, t_set q4 hap hk v⟩ (fun j _ => vp_updV_set hl v j)⟩ e3) (hS0.put e2 e3 (hD.2 q0 _ he))
end WB
def tb_fp (own : String) (idx ci f : Nat) (fin : Bool) (ty : FieldType) : Prop := ∃ (C : String) (T : u_T) (N : Nat) (ty0 : Nat → FieldType), tw_cl[ci]? = some (C, T, N) ∧ f < N ∧ (∀ w ∈ u_ws C T N, w ∈ tw_WS) ∧ Cond.fieldLink own idx (T f).1 (T f).2.1 (T f).2.2.1 ∈ tw_WS ∧ (∀ k, k < N → parseFieldDescriptor (T k).2.2.1 = some (ty0 k)) ∧ (∀ a, a < N → ∀ b, b < N → a ≠ b → (T a).2.1 ≠ (T b).2.1) ∧ (T f).2.2.2 = fin ∧ (T f).1 = own ∧ parseFieldDescriptor (T f).2.2.1 = some ty
theorem tb_putF {idx ci f q r : Nat} {fs : List Value} {ty : FieldType} (h : tw_ins j pc = some (.putfield idx, 3)) (hf : tb_fp j.1.cls idx ci f true ty) (hini : j.1.name = "<init>") (hna : ∀ a : Nat, narrow ty (.ref a) = .ref a) (hfit : ∀ a : Nat, fits ty (.ref a) = true) (hn : n ≤ 116) (hq : q < n) (hS0 : S q = .inr (ci, fs)) (hl0 : f < fs.length)
    (kk : tb_T G cs ad B CC SS d j cells slots n (tb_up S q (.inr (ci, fs.set f (.ref (ad r))))) (pc + 3) lv st Q) : tb_T G cs ad B CC SS d j cells slots n S pc lv (.inr r :: .inr q :: st) Q := by
  intro p l e R s m args below meth c H0 Qm X hr H locs ls hz hP hS hl
  obtain ⟨C, T, N, ty0, g1, g2, g3, g4, g5, g6, g7, g8, g9⟩ := hf
  refine wb_putF (D := G) (v := .ref (ad r)) X.1 X.2.1 X.2.2.2.2.1 g3 ty0 g5 g6 X.2.2.2.1 X.2.2.2.2.2.1 hP (tb_w_D X.2.2.2.2.2.2.2.2.2.1 hn) hS q (by rw [tb_w_get hq, hS0]) g1 f g2 (X.2.2.2.2.1 _ g4) g7 (X.2.2.2.2.2.2.2.2.2.2 hini) g8 g9 (hna _) (hfit _) hl0 (X.2.2.2.2.2.2.2.2.1 _ _ h) (fun H1 locs1 hz1 hP1 hS1 => ?_)
  rw [tb_w_set] at hP1
  exact kk p l e R s m args below meth c H0 Qm X hr H1 locs1 ls (hz1.trans hz) hP1 hS1 hl
theorem tb_putI {idx ci f q : Nat} {x : Int32} {fs : List Value} (h : tw_ins j pc = some (.putfield idx, 3)) (hf : tb_fp j.1.cls idx ci f false .int) (hn : n ≤ 116) (hq : q < n) (hS0 : S q = .inr (ci, fs)) (hl0 : f < fs.length)
    (kk : tb_T G cs ad B CC SS d j cells slots n (tb_up S q (.inr (ci, fs.set f (.int x)))) (pc + 3) lv st Q) : tb_T G cs ad B CC SS d j cells slots n S pc lv (.inl x :: .inr q :: st) Q := by
  intro p l e R s m args below meth c H0 Qm X hr H locs ls hz hP hS hl
  obtain ⟨C, T, N, ty0, g1, g2, g3, g4, g5, g6, g7, g8, g9⟩ := hf
  refine wb_put (D := G) (v := .int x) X.1 X.2.1 X.2.2.2.2.1 g3 ty0 g5 g6 X.2.2.2.1 X.2.2.2.2.2.1 hP (tb_w_D X.2.2.2.2.2.2.2.2.2.1 hn) hS q (by rw [tb_w_get hq, hS0]) g1 f g2 (X.2.2.2.2.1 _ g4) g7 g9 rfl rfl hl0 (X.2.2.2.2.2.2.2.2.1 _ _ h) (fun H1 locs1 hz1 hP1 hS1 => ?_)
  rw [tb_w_set] at hP1
  exact kk p l e R s m args below meth c H0 Qm X hr H1 locs1 ls (hz1.trans hz) hP1 hS1 hl
theorem tb_getR {idx ci f q r : Nat} {fs : List Value} (h : tw_ins j pc = some (.getfield idx, 3)) (hf : tw_fl j.1.cls idx ci f) (hq : q < n) (hS0 : S q = .inr (ci, fs)) (hv : fs[f]? = some (.ref (ad r))) (kk : tb_T G cs ad B CC SS d j cells slots n S (pc + 3) lv (.inr r :: st) Q) : tb_T G cs ad B CC SS d j cells slots n S pc lv (.inr q :: st) Q := by
  intro p l e R s m args below meth c H0 Qm X hr H locs ls hz hP hS hl
  obtain ⟨C, T, N, h1, h2, h3, h4⟩ := hf
  exact va_get (D := G) (v := .ref (ad r)) X.1 X.2.1 X.2.2.2.2.1 h3 X.2.2.2.1 X.2.2.2.2.2.1 hP q (by rw [tb_w_get hq, hS0]) h1 f h2 (X.2.2.2.2.1 _ h4) (fun _ z => z) hv (X.2.2.2.2.2.2.2.2.1 _ _ h) (kk p l e R s m args below meth c H0 Qm X hr H locs ls hz hP hS hl)
theorem tb_new {idx ci : Nat} {C : String} {T : u_T} {N : Nat} {fs : List Value} (ty0 : Nat → FieldType) (h : tw_ins j pc = some (.new idx, 3)) (hcl : tw_cl[ci]? = some (C, T, N)) (hu : ∀ w ∈ u_ws C T N, w ∈ tw_WS) (hty : ∀ k, k < N → parseFieldDescriptor (T k).2.2.1 = some (ty0 k)) (w1 : Cond.classLink j.1.cls idx C ∈ tw_WS) (w2 : Cond.instantiable C N ∈ tw_WS) (w3 : Cond.initialized C ∈ tw_WS) (hfs : ∀ k, k < N → defaultValue (ty0 k) = vp_V fs k) (hn : n < 116) (hc : cells + 1 ≤ CC) (hs : slots + N ≤ SS)
    (kk : tb_T G cs ad B CC SS d j (cells + 1) (slots + N) (n + 1) (tb_up S n (.inr (ci, fs))) (pc + 3) lv (.inr n :: st) Q) : tb_T G cs ad B CC SS d j cells slots n S pc lv st Q := by
  intro p l e R s m args below meth c H0 Qm X hr H locs ls hz hP hS hl
  have hKn := X.2.2.2.2.2.1.1 ci _ hcl
  have ea : ad n = B + n := X.2.2.2.2.2.2.2.2.2.1 n hn
  refine W.newcK X.1 X.2.1 X.2.2.2.1 (X.2.2.2.2.1 _ w1) (X.2.2.2.2.1 _ w2) (X.2.2.2.2.1 _ w3) rfl (X.2.2.2.2.2.2.2.2.1 _ _ h) (by have := X.2.2.2.2.2.2.1.2.2.1; omega) (by have := X.2.2.2.2.2.2.1.2.2.2; omega) hKn.2.1 hz (fun H' kC hkC e1 z1 o1 => ?_)
  have hat : va_at G tw_cl (B + n, .inr (ci, fs)) H' := ⟨(C, T, N), hcl, t_OB.to (u_born ty0 X.2.2.2.2.1 hu hKn hkC e1 hty) (fun k hk => hfs k hk)⟩
  have hg := kk p l e R s m args below meth c H0 Qm X hr H' locs ls (by rw [z1]; omega) (tb_grow hP (fun q hq => o1 q (by omega)) (fun q hq => by simp [tb_up, show ¬ q = n by omega]) (fun q h1 h2 => by
    have hq : q = n := by omega
    subst hq
    show va_at G tw_cl (ad q, tb_up S q (.inr (ci, fs)) q) H'
    rw [ea]
    simp only [tb_up, if_true]
    exact hat)) (tb_S_grow (by omega) hS (by omega) (fun q hq => o1 q (by omega))) hl
  rw [List.map_cons] at hg
  have e2 : tw_v ad (.inr n) = Value.ref (B + n) := by show Value.ref (ad n) = _; rw [ea]
  rw [e2] at hg
  exact hg
end TBR
