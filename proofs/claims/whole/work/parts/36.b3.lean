theorem tb_outer (c : ClassId) (N h0 : Nat) : ∀ i : Nat, Jvm.Free.Multi.outerC c N h0 i = arrV c N (fun j => va_rf (if j < i then some (h0 + 1 + j) else none)) := by
  intro i
  induction i with
  | zero =>
    show ({ cls := c, slots := Array.replicate N .null, vm := .none } : Cell) = _
    rw [arrV_new]
    refine congrArg (arrV c N) (funext fun j => ?_)
    simp [va_rf]
  | succ i ih =>
    show (Jvm.Free.Multi.outerC c N h0 i).setSlot i (.ref (h0 + 1 + i)) = _
    rw [ih, arrV_store]
    refine congrArg (arrV c N) (funext fun j => ?_)
    by_cases e : j = i
    · subst e
      simp [updV, va_rf]
    · by_cases h : j < i
      · simp [updV, e, h, Nat.lt_succ_of_lt h]
      · simp [updV, e, h, show ¬ j < i + 1 by omega]
theorem arrV_congr {c : ClassId} {N : Nat} {f g : Nat → Value} (h : ∀ i, i < N → f i = g i) : arrV c N f = arrV c N g := by
  unfold arrV
  congr 1
  apply Array.ext
  · simp
  · intro i h1 h2
    have hi : i < N := by simpa using h1
    simp [h i hi]
section WBM
variable {p : Program} {l : Launch} {e : Env} {R : Room} {s : State} {m : MethodId} {args : Array Value} {below : List Frame} {meth : Method} {c : Code} {H : Heap} {locs : List Loc} {cells slots : Nat} {Qm : State → Prop} {cc : ByteArray} {pc : Nat} {ls : Array Slot} {rest : List Value}
theorem wb_mna (hexec : p.tables.exec = Jvm.exec) (hb : c.code = cc) {own : String} {index : Nat} (hown : s.vm.findClass own = some m.cls) (hclink : (Cond.classLink own index ("[" ++ (FieldType.array .int).toString)).before args s = true) (hover : (Cond.arrayOver (.array .int)).before args s = true) (harr : (Cond.arrayClass .int).before args s = true) {n k : Int32} (hn : ¬ n < 0) (hk : ¬ k < 0) (hb1 : n.toNatClampNeg * 4 ≤ 536870912) (hb2 : k.toNatClampNeg * componentBytes .int ≤ 536870912) (hb3 : k.toNatClampNeg ≤ 536870912) (hcells : cells + (1 + n.toNatClampNeg) ≤ R.cells) (hslots : slots + (n.toNatClampNeg + n.toNatClampNeg * k.toNatClampNeg) ≤ R.slots) (hdg : decode cc pc = .ok (.multianewarray index 2, 4))
    (kk : ∀ (cA comp : ClassId) (H1 : Heap), s.vm.findClass ("[" ++ (FieldType.array .int).toString) = some cA → s.vm.findClass (FieldType.array .int).toString = some comp → H1.size = H.size + 1 + n.toNatClampNeg → (∀ q, q < H.size → H1[q]? = H[q]?) → H1[H.size]? = some (arrV cA n.toNatClampNeg (fun j => va_rf (some (H.size + 1 + j)))) → (∀ i, i < n.toNatClampNeg → H1[H.size + 1 + i]? = some (arrV comp k.toNatClampNeg (fun _ => .int 0))) →
      W p l e R s m args below meth c H1 locs (cells + 1 + n.toNatClampNeg) (slots + n.toNatClampNeg + n.toNatClampNeg * k.toNatClampNeg) Qm (F0 m (pc + 4) ls (.ref H.size :: rest))) : W p l e R s m args below meth c H locs cells slots Qm (F0 m pc ls (.int k :: .int n :: rest)) := by
  intro T hT Xs
  obtain ⟨vm₁, cA, comp, -, fA, fC, -, -, X', step⟩ := Xs.multianewarray2F hexec hown hclink hover harr (g := F0 m pc ls (.int k :: .int n :: rest)) rfl (by rw [hb]; exact hdg) rfl hn hk hb1 hb2 hb3 rfl rfl hcells hslots
  have hTh : (T.setVm vm₁).heap = H := hT
  obtain ⟨f1, f2, -, -⟩ := Jvm.Free.Multi.fill_facts (T.setVm vm₁) cA comp n.toNatClampNeg k.toNatClampNeg (defaultValue .int) n.toNatClampNeg
  have hold : ∀ x : Nat, x < H.size → (Jvm.Free.Multi.fill (T.setVm vm₁) cA comp n.toNatClampNeg k.toNatClampNeg (defaultValue .int) n.toNatClampNeg).heap[x]? = H[x]? := fun x hx => by
    have := Jvm.Free.Multi.fill_old (T.setVm vm₁) cA comp n.toNatClampNeg k.toNatClampNeg (defaultValue .int) (a := x) (by rw [hTh]; exact hx) n.toNatClampNeg
    rw [hTh] at this
    exact this
  have hrow : ∀ i : Nat, i < n.toNatClampNeg → (Jvm.Free.Multi.fill (T.setVm vm₁) cA comp n.toNatClampNeg k.toNatClampNeg (defaultValue .int) n.toNatClampNeg).heap[H.size + 1 + i]? = some (arrV comp k.toNatClampNeg (fun _ => .int 0)) := fun i hi => by
    have := Jvm.Free.Multi.fill_inner (T.setVm vm₁) cA comp n.toNatClampNeg k.toNatClampNeg (defaultValue .int) n.toNatClampNeg i hi
    rw [hTh] at this
    rw [this]
    show some ({ cls := comp, slots := Array.replicate k.toNatClampNeg (.int 0), vm := .none } : Cell) = _
    rw [arrV_new]
  generalize Jvm.Free.Multi.fill (T.setVm vm₁) cA comp n.toNatClampNeg k.toNatClampNeg (defaultValue .int) n.toNatClampNeg = F at *
  rw [hTh] at f1 f2
  rw [tb_outer] at f2
  have f3 : F.heap[H.size]? = some (arrV cA n.toNatClampNeg (fun j => va_rf (some (H.size + 1 + j)))) := by
    rw [f2]
    exact congrArg some (arrV_congr (fun i hi => by rw [if_pos hi]))
  obtain ⟨t, a1, b1⟩ := kk cA comp F.heap fA fC f1 hold f3 hrow F rfl X'
  refine ⟨t, step t ?_, b1⟩
  rw [hT]
  exact a1
end WBM
def tb_mat (cs : Nat → ClassId) (ad : Nat → Nat) (S : Nat → va_E) (n N K : Nat) : Nat → va_E := fun q => if q = n then .inl (cs 2, N, .inr (.inr (.inr (.inr fun i => some (ad (n + 1 + i)))))) else if n < q ∧ q < n + 1 + N then .inl (cs 0, K, .inl (fun _ => 0)) else S q
def tb_rm (d mc ms : Nat) : Room := { frames := d, cells := mc, slots := ms, locals := 40 * d }
abbrev tb_Pc (G : va_G) (cs : Nat → ClassId) (ad : Nat → Nat) (B : Nat) (av : List tw_V) (n : Nat) (S : Nat → va_E) : Array Value → State → Prop := va_Pc (av.map (tw_v ad)) (fun U => U.heap.size = B + n ∧ va_P G tw_cl (tb_w ad n S) U.heap ∧ va_K G tw_cl (tw_tys cs) U ∧ tb_N U)
def tb_Qc (G : va_G) (ad : Nat → Nat) (B n' : Nat) (S' : Nat → va_E) : Array Value → State → Outcome → State → Prop := fun _ st oc t => (oc = .returned none ∧ t.heap.size = B + n' ∧ va_P G tw_cl (tb_w ad n' S') t.heap) ∧ va_F (tb_A B) st t
def tb_C (G : va_G) (cs : Nat → ClassId) (ad : Nat → Nat) (B d mc ms : Nat) (y : tw_J) (av : List tw_V) (n : Nat) (S : Nat → va_E) (n' : Nat) (S' : Nat → va_E) : Prop := ∀ l : Launch, Met l y.1 (tw_ws y) (tb_rm d mc ms) (tb_Pc G cs ad B av n S) (tb_Qc G ad B n' S') mc ms (tb_A B)
section TBC
variable {G : va_G} {cs : Nat → ClassId} {ad : Nat → Nat} {B CC SS d : Nat} {j : tw_J} {cells slots n : Nat} {S : Nat → va_E} {pc : Nat} {lv : List (Option tw_V)} {st : List tw_V} {Q : tb_Q}
theorem tb_mna {idx N K : Nat} {x y : Int32} (h : tw_ins j pc = some (.multianewarray idx 2, 4)) (w1 : Cond.classLink j.1.cls idx "[[I" ∈ tw_WS) (w2 : Cond.arrayClass .int ∈ tw_WS) (hx : x.toInt = (N : Int)) (hy : y.toInt = (K : Int)) (hN : N ≤ 1000) (hK : K ≤ 1000) (hn : n + 1 + N ≤ 116) (hc : cells + (1 + N) ≤ CC) (hs : slots + (N + N * K) ≤ SS) (kk : tb_T G cs ad B CC SS d j (cells + 1 + N) (slots + N + N * K) (n + 1 + N) (tb_mat cs ad S n N K) (pc + 4) lv (.inr n :: st) Q) : tb_T G cs ad B CC SS d j cells slots n S pc lv (.inl y :: .inl x :: st) Q := by
  intro p l e R s m args below meth c H0 Qm X hr H locs ls hz hP hS hl
  have z0 : (0 : Int32).toInt = 0 := by decide
  have ex : x.toNatClampNeg = N := by show x.toInt.toNat = N; omega
  have ey : y.toNatClampNeg = K := by show y.toInt.toNat = K; omega
  have had := X.2.2.2.2.2.2.2.2.2.1
  refine wb_mna X.1 X.2.1 X.2.2.2.1 (X.2.2.2.2.1 _ w1) X.2.2.2.2.2.2.2.1.2.2.2 (X.2.2.2.2.1 _ w2) (fun q => by have := Int32.lt_iff_toInt_lt.mp q; omega) (fun q => by have := Int32.lt_iff_toInt_lt.mp q; omega) (by rw [ex]; omega) (by rw [ey]; show K * 4 ≤ 536870912; omega) (by rw [ey]; omega) (by rw [ex]; have := X.2.2.2.2.2.2.1.2.2.1; omega) (by rw [ex, ey]; have := X.2.2.2.2.2.2.1.2.2.2; omega) (X.2.2.2.2.2.2.2.2.1 _ _ h) (fun cA comp H1 hF1 hF2 z1 o1 e1 e2 => ?_)
  rw [ex] at z1 e1 e2
  rw [ey] at e2
  rw [ex, ey]
  have hcA : cA = cs 2 := Option.some.inj (hF1.symm.trans (X.2.2.2.2.2.1.2 2 (cs 2, .array .int) rfl).2)
  have hcC : comp = cs 0 := Option.some.inj (hF2.symm.trans (X.2.2.2.2.2.1.2 0 (cs 0, .int) rfl).2)
  subst hcA
  subst hcC
  have ea : ad n = B + n := had n (by omega)
  have hg := kk p l e R s m args below meth c H0 Qm X hr H1 locs ls (by rw [z1]; omega) (tb_grow hP o1 (fun q hq => by simp [tb_mat, show ¬ q = n by omega, show ¬ n < q by omega]) (fun q h1 h2 => by
    by_cases hq : q = n
    · subst hq
      rw [ea]
      simp only [tb_mat, if_true]
      show H1[B + q]? = some (arrV (cs 2) N (fun j => va_rf (some (ad (q + 1 + j)))))
      rw [← hz, e1]
      refine congrArg some (arrV_congr (fun i hi => ?_))
      show va_rf _ = va_rf _
      rw [had (q + 1 + i) (by omega), hz]
      congr 2
      omega
    · have h3 : tb_mat cs ad S n N K q = .inl (cs 0, K, .inl (fun _ => 0)) := by simp [tb_mat, hq, show n < q by omega, h2]
      rw [h3, had q (by omega)]
      show H1[B + q]? = some (arrV (cs 0) K (fun _ => .int 0))
      have h4 := e2 (q - n - 1) (by omega)
      rw [show H.size + 1 + (q - n - 1) = B + q by omega] at h4
      exact h4)) (tb_S_grow (by omega) hS (by omega) o1) hl
  rw [List.map_cons] at hg
  have e3 : tw_v ad (.inr n) = Value.ref H.size := by show Value.ref (ad n) = _; rw [ea, hz]
  rw [e3] at hg
  exact hg
theorem tb_enter {mc ms n' : Nat} {S' : Nat → va_E} {av : List tw_V} {y : tw_J} (had : ∀ q, q < 116 → ad q = B + q) (hy : plainName y.1.cls = true) (hd : tw_dec y) (hret : y.2.2.2.1 = none) (hlen : av.length ≤ y.2.2.1) (k : tb_T G cs ad B mc ms d y 0 0 n S 0 (av.map some ++ List.replicate (y.2.2.1 - av.length) none) [] (fun c s n2 S2 pc _ st => c = mc ∧ s = ms ∧ n2 = n' ∧ S2 = S' ∧ st = [] ∧ tw_ins y pc = some (.return_, 1))) : tb_C G cs ad B (d + 1) mc ms y av n S n' S' := by
  intro l
  refine Met.ofW (cc := y.2.1) (maxL := y.2.2.1) (ret := y.2.2.2.1) hy rfl ?_
  intro p e s m args below meth c s₁ Bd hml hv
  obtain ⟨rfl, hz, hP, hK, hN⟩ := hv
  have hts := atoms_spec (ws := tw_ws y) Bd.pre
  have hown : s.vm.findClass y.1.cls = some m.cls := findClass_of_methodNamed Bd.named
  have hl := lv_entry (av.map (tw_v ad)) (n := y.2.2.1) (by rw [tw_sl]; exact hlen)
  have hnm : meth.name = y.1.name := (name_of_methodNamed Bd.named Bd.method).1
  rw [lg_entry_eq]
  refine k p l e _ s m _ below meth c s.heap _ ⟨Bd.exec, Bd.bytes, hml, hown, fun w h => hts w (List.mem_cons_of_mem _ h), hK, ⟨Nat.le_refl _, by show 40 * d + 40 ≤ 40 * (d + 1); omega, Nat.le_refl _, Nat.le_refl _⟩, hN, hd, had, fun q => hnm.trans q⟩ ?_ s.heap [] _ hz hP va_S.rf ⟨hl.1, hl.2.1, ?_⟩
  · intro c' s' n2 S2 pc' lv' st' hq H locs ls hz' hP' hS' hl'
    obtain ⟨rfl, rfl, rfl, rfl, rfl, hi⟩ := hq
    exact W.vret Bd.exec Bd.bytes (Bd.returns.trans hret) (fun t ht hW => ⟨⟨rfl, by rw [ht]; exact hz', by rw [ht]; exact hP'⟩, hS'.F ht⟩) hS'.2.2 (hd _ _ hi) Bd.notSynchronized
  · intro i v hi
    have h1 : av[i]? = some v := by
      by_cases h : i < av.length
      · rw [List.getElem?_append_left (by simpa using h), List.getElem?_map] at hi
        cases ha : av[i]? with
        | none => rw [ha] at hi; cases hi
        | some w => rw [ha] at hi; simpa using hi
      · rw [List.getElem?_append_right (by simp; omega)] at hi
        have h2 := List.eq_of_mem_replicate (List.mem_of_getElem? hi)
        cases h2
    have h2 := hl.2.2 _ (tw_args_mem ad av 0 i v h1)
    simpa using h2
theorem tb_cont {p : Program} {l : Launch} {e : Env} {R : Room} {s : State} {m : MethodId} {args : Array Value} {below : List Frame} {meth : Method} {c : Code} {H0 H : Heap} {locs : List Loc} {mc ms n' : Nat} {S' : Nat → va_E} {Qm : State → Prop} {ls : Array Slot} {st0 rest : List Value} {a : Array Value}
    (hr : va_Run p l e R s m args below meth c H locs cells slots mc ms (F0 m pc ls st0) rest (tb_Qc G ad B n' S' a) (tb_A B)) (hS : va_S (tb_A B) H0 H locs)
    (kk : ∀ (H1 : Heap) (locs1 : List Loc), H1.size = B + n' → va_P G tw_cl (tb_w ad n' S') H1 → va_S (tb_A B) H0 H1 locs1 → W p l e R s m args below meth c H1 locs1 (cells + mc) (slots + ms) Qm (F0 m (pc + 3) ls rest)) : W p l e R s m args below meth c H locs cells slots Qm (F0 m pc ls st0) := by
  intro T hT X
  obtain ⟨v, st₀, t, T', L, h0, X', hL, e1, e2, ⟨⟨hv, hz1, hp⟩, hz, hk⟩, st⟩ := hr T hT X
  cases hv
  rw [h0] at hz hk
  obtain ⟨t2, a1, b1⟩ := kk T'.heap (locs ++ L) (by rw [e1]; exact hz1) (by rw [e1]; exact hp)
    ⟨Nat.le_trans hS.1 (by rw [e1]; exact hz), fun q h1 h2 => by rw [e1, hk q (Nat.lt_of_lt_of_le h1 hS.1) h2]; exact hS.2.1 q h1 h2, fun q hq => by
      rcases List.mem_append.mp hq with h | h
      · exact hS.2.2 q h
      · exact hL q h⟩ T' rfl X'
  exact ⟨t2, st t2 a1, b1⟩
theorem tb_blind (av : List tw_V) : FrameBlind (tb_Pc G cs ad B av n S) := by
  intro a U g mk q
  obtain ⟨q0, qz, qP, qK, qN⟩ := q
  exact ⟨q0, qz, qP, va_K.moved (u := U) (U := U.calling g mk a) (Vm.Alike.refl U.vm) qK, tb_N_same (u := U) rfl qN⟩
def tb_lk (y : tw_J) (k : Nat) : Prop := (∀ w ∈ tw_ws y, w ∈ tw_WS) ∧ Cond.initialized y.1.cls ∈ tw_WS ∧ Cond.instanceMethod y.1 ∈ tw_WS ∧ (y.1.cls ≠ "java/lang/invoke/MethodHandle" ∧ y.1.cls ≠ "java/lang/invoke/VarHandle" ∧ (parseMethodDescriptor y.1.desc).map (fun d => d.parameters.length) = some k) ∧ y.2.2.1 ≤ 20 ∧ y.1.name = "<init>" ∧ y.2.2.2.1 = none
theorem tb_init {idx k q mc ms n' : Nat} {S' : Nat → va_E} {y : tw_J} {st0 : List tw_V} (av : List tw_V) (h : tw_ins j pc = some (.invokespecial idx, 3)) (hlk : tb_lk y k) (hl : Cond.methodLink j.1.cls idx y.1 ∈ tw_WS) (hn : av.length = k) (hst : st0 = av.reverse ++ .inr q :: st) (hr8 : st.length ≤ 8) (hc : cells + mc ≤ CC) (hs : slots + ms ≤ SS) (hC : tb_C G cs ad B d mc ms y (.inr q :: av) n S n' S')
    (kk : tb_T G cs ad B CC SS d j (cells + mc) (slots + ms) n' S' (pc + 3) lv st Q) : tb_T G cs ad B CC SS d j cells slots n S pc lv st0 Q := by
  intro p l e R s m args below meth c H0 Qm X hr H locs ls hz hP hS hlv
  subst hst
  obtain ⟨w1, w2, w3, w4, w5, w6, w7⟩ := hlk
  obtain ⟨x1, x2, x3, x4, x5, x6, x7, x8, x9, x10, x11⟩ := id X
  have hcode : tw_ws y = Cond.code y.1 y.2.1 y.2.2.1 none :: tw_WS := by unfold tw_ws; rw [w7]
  refine tb_cont (va_runI (bytes := y.2.1) (maxL := y.2.2.1) (b := ad q) (As := av.map (tw_v ad)) (rest := st.map (tw_v ad)) (Ts := tw_WS) ⟨x1, x2, x3, x4, x5⟩ (hC l) (cwI k x5 (tw_good w1) hcode rfl rfl (x5 _ w2) (x5 _ hl) (x5 _ w3) w6 w4 ⟨x7.1, by show 8 + (y.2.2.1 + 11) + 40 * d ≤ R.locals; omega⟩)
    ⟨tb_blind (.inr q :: av), fun U hU hW => ⟨rfl, by rw [hU]; exact hz, by rw [hU]; exact hP, va_K.moved hW.alike x6, tb_N_warm hW x8⟩⟩ rfl (by rw [List.length_map]; exact hn) hlv.1 (by show (av.reverse ++ .inr q :: st).map (tw_v ad) = _; rw [List.map_append, List.map_reverse]; rfl) (lv_room (by rw [tw_cats]; exact hr8)) (x9 _ _ h) ⟨by omega, by omega⟩) hS (fun H1 locs1 hz1 hP1 hS1 => ?_)
  exact kk p l e R s m args below meth c H0 Qm X hr H1 locs1 ls hz1 hP1 hS1 hlv
theorem tb_initN {idx k q mc ms n' : Nat} {S' : Nat → va_E} {y : tw_J} {st0 : List tw_V} (av : List tw_V) (h : tw_ins j pc = some (.invokespecial idx, 3)) (hlk : tb_lk y k) (hl : ∀ s, tb_N s → va_Nw (.methodLinkNest j.1.cls idx y.1 "TaskWeaver") s) (hn : av.length = k) (hst : st0 = av.reverse ++ .inr q :: st) (hr8 : st.length ≤ 8) (hc : cells + mc ≤ CC) (hs : slots + ms ≤ SS) (hC : tb_C G cs ad B d mc ms y (.inr q :: av) n S n' S')
    (kk : tb_T G cs ad B CC SS d j (cells + mc) (slots + ms) n' S' (pc + 3) lv st Q) : tb_T G cs ad B CC SS d j cells slots n S pc lv st0 Q := by
  intro p l e R s m args below meth c H0 Qm X hr H locs ls hz hP hS hlv
  subst hst
  obtain ⟨w1, w2, w3, w4, w5, w6, w7⟩ := hlk
  obtain ⟨x1, x2, x3, x4, x5, x6, x7, x8, x9, x10, x11⟩ := id X
  have hcode : tw_ws y = Cond.code y.1 y.2.1 y.2.2.1 none :: tw_WS := by unfold tw_ws; rw [w7]
  refine tb_cont (va_runIN (bytes := y.2.1) (maxL := y.2.2.1) (b := ad q) (As := av.map (tw_v ad)) (rest := st.map (tw_v ad)) (Ts := tw_WS) ⟨x1, x2, x3, x4, x5⟩ (hC l) ⟨va_cnB k x5 (tw_good w1) hcode rfl rfl (hl s x8) (x5 _ w2) w4 ⟨x7.1, by show 8 + (y.2.2.1 + 11) + 40 * d ≤ R.locals; omega⟩, w6, x5 _ w3⟩
    ⟨tb_blind (.inr q :: av), fun U hU hW => ⟨rfl, by rw [hU]; exact hz, by rw [hU]; exact hP, va_K.moved hW.alike x6, tb_N_warm hW x8⟩⟩ rfl (by rw [List.length_map]; exact hn) hlv.1 (by show (av.reverse ++ .inr q :: st).map (tw_v ad) = _; rw [List.map_append, List.map_reverse]; rfl) (lv_room (by rw [tw_cats]; exact hr8)) (x9 _ _ h) ⟨by omega, by omega⟩) hS (fun H1 locs1 hz1 hP1 hS1 => ?_)
  exact kk p l e R s m args below meth c H0 Qm X hr H1 locs1 ls hz1 hP1 hS1 hlv
end TBC
