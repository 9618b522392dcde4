def R_law : String := "TaskWeaverLaw"
def lw_P (b : Addr) (xs : List Int32) (args : Array Value) (s : State) : Prop := args = #[.ref b] ∧ s.IntsAt b xs ∧ xs.length ≤ 3072 ∧ (Jvm.Cond.and given_1 narrow_1).before args s = true
def lw_Q (_ : Array Value) (s : State) (o : Outcome) (t : State) : Prop := o = .returned (some (.int 1)) ∧ Framed s o t [] 600000 7302250
def lw_Z (below : List Frame) (a : Array Value) (s : State) : State → Prop := fun t => ∃ o, t.status = .running ∧ Ended t below o ∧ lw_Q a s o t
theorem lw_ret {p : Program} {l : Launch} {e : Env} {s : State} {m : MethodId} {below : List Frame} {meth : Method} {c : Code} {b : Nat} (hx : p.tables.exec = Jvm.exec) (hb : c.code = code) (hr : meth.sig.returnType = ret) (hlocks : meth.locks = false) {pc : Nat} {H : Heap} {ls : Array Slot} (hdg : decode code pc = .ok (.ireturn, 1)) : W p l e room_1 s m #[Value.ref b] below meth c H [] 600000 7302250 (lw_Z below #[Value.ref b] s) (F0 m pc ls [.int 1]) := by
  intro T hT X
  obtain ⟨fs, hret, hrun, hended, hW, hframe⟩ := X.leave (v := some (.int 1)) (hlocks := hlocks) (fun h => by rw [hr] at h; cases h)
  have hmeth' : T.vm.method? m = some meth := X.method'
  refine ⟨T.setFrames fs, ?_, .returned (some (.int 1)), hrun, hended, rfl, ⟨_, rfl⟩, hW, hframe⟩
  jvm_step X.here [X.here.top, hx, hb, hdg, hmeth', hr, ret, narrow_b1]
  (try refine ⟨rfl, ?_⟩); (try refine ⟨rfl, ?_⟩)
  first | (intro acts; rw [hret _ acts rfl rfl rfl]) | rw [hret _ _ rfl rfl rfl]
  exact Steps.refl _
def lw_At (p : Program) (s : State) (m : MethodId) (meth : Method) (c : Code) (b L : Nat) (xs : Nat → Int32) : Prop :=
  p.tables.exec = Jvm.exec ∧ c.code = code ∧ meth.sig.returnType = ret ∧ c.maxLocals = 4 ∧ s.vm.findClass R_law = some m.cls ∧ (∀ w ∈ lw_tbl, w.before #[Value.ref b] s = true) ∧ va_X b L xs s s.heap ∧ b < s.heap.size ∧ meth.locks = false ∧ (Jvm.Cond.and given_1 narrow_1).before #[Value.ref b] s = true
theorem whole_go {p : Program} {e : Env} {s : State} {m : MethodId} {below : List Frame} {meth : Method} {c : Code} (l : Launch) {b L : Nat} {xs : Nat → Int32} (hL : L ≤ 3072) (hx : p.tables.exec = Jvm.exec) (hb : c.code = code) (hr : meth.sig.returnType = ret) (hml : c.maxLocals = 4) (hown : s.vm.findClass R_law = some m.cls) (hWS : ∀ w ∈ tw_WS, w.before #[Value.ref b] s = true) (hX : va_X b L xs s s.heap) (hbl : b < s.heap.size) (hlocks : meth.locks = false) (hN : tb_N s) (G : va_G) (cs : Nat → ClassId) (hK : va_K G tw_cl (tw_tys cs) s) : W p l e room_1 s m #[Value.ref b] below meth c s.heap [] 0 0 (lw_Z below #[Value.ref b] s) (entryFrame m ([Value.ref b] : List Value).toArray 4) := by
  obtain ⟨ad, had, hab⟩ : ∃ ad : Nat → Nat, (∀ q, q < 116 → ad q = s.heap.size + q) ∧ ad 116 = b := ⟨fun q => if q = 116 then b else s.heap.size + q, fun q hq => if_neg (by omega), if_pos rfl⟩
  have hinj : tw_inj ad := fun i j hi hj he => by
    rw [had i hi, had j hj] at he
    omega
  have hl := lv_entry ([Value.ref b]) (n := 4) (Nat.le_of_ble_eq_true rfl)
  rw [lg_entry_eq]
  refine lw_build (G := G) (cs := cs) (S := fun _ => .inr (0, [])) had p l e room_1 s m _ below meth c s.heap _ ⟨hx, hb, hml, hown, hWS, hK, ⟨Nat.le_of_ble_eq_true rfl, Nat.le_of_ble_eq_true rfl, Nat.le_of_ble_eq_true rfl, Nat.le_of_ble_eq_true rfl⟩, hN, dc_LW_law, had, fun h => absurd h (by decide)⟩ ?_ s.heap [] _ rfl ?_ va_S.rf ⟨hl.1, hl.2.1, ?_⟩
  · intro c' s' n' S' pc' lv' st' hq H locs ls hz hP hS hl2
    obtain ⟨rfl, rfl, rfl, rfl, rfl, rfl, rfl⟩ := hq
    have hP1 : va_P G tw_cl (tw_w cs ad M0) H := fun k x hk => by
      obtain ⟨hk1, rfl⟩ := tw_w_out hk
      have h1 := hP k _ (tb_w_get hk1)
      rw [M0_fits k hk1] at h1
      exact h1
    refine va_forget (fun q h => hS.2.2 q h) ?_
    refine law_loop (d := 0) (xs := xs) hL 512 0 M0 0 (by decide) (by omega) (by omega) IV_M0 p l e room_1 s m _ below meth c G cs ad H 116 5316 _ ⟨hx, hb, hml, hown, hWS, hK, hinj, ⟨Nat.le_of_ble_eq_true rfl, Nat.le_of_ble_eq_true rfl, Nat.le_of_ble_eq_true rfl, Nat.le_of_ble_eq_true rfl⟩, ?_, dc_LW_law⟩ ?_ H [] ls hP1 va_S.rf hl2
    · intro L' xs' he
      cases he
      refine ⟨?_, ?_, ?_⟩
      · show va_X (ad 116) L xs s H
        rw [hab]
        exact hX.kept (hS.2.1 b hbl (fun h => by have h2 : s.heap.size ≤ b := h; omega))
      · show ad 116 < H.size
        rw [hab, hz]
        omega
      · intro h
        obtain ⟨q, hq, he⟩ := h
        have h2 : ad q = ad 116 := he
        rw [hab, had q hq] at h2
        omega
    · intro r M' hQ hn H2 locs2 ls2 pc2 hP2 hS2 hdg
      subst hQ
      refine va_forget (fun q h => ?_) ?_
      · obtain ⟨k, hk, he⟩ := hS2.2.2 q h
        rw [← he, had k hk]
        omega
      · exact W.widen (k := 600000) (n := 7302250) (by omega) (by omega) (lw_ret hx hb hr hlocks hdg)
  · intro k x hk
    obtain ⟨h1, -⟩ := tb_w_out hk
    omega
  · intro i v hi
    match i, hi with
    | 0, hi =>
      have hv : v = .inr 116 := by cases hi; rfl
      subst hv
      have h2 := hl.2.2 (0, .ref b) (List.mem_cons_self)
      show _ = some (Slot.val (Value.ref (ad 116)))
      rw [hab]
      exact h2
    | 1, hi => cases hi
    | 2, hi => cases hi
    | 3, hi => cases hi
    | n + 4, hi => cases hi
theorem whole_start {p : Program} {e : Env} {s : State} {m : MethodId} {below : List Frame} {meth : Method} {c : Code} (l : Launch) {b L : Nat} {xs : Nat → Int32} (hL : L ≤ 3072) (C0 : lw_At p s m meth c b L xs) : W p l e room_1 s m #[Value.ref b] below meth c s.heap [] 0 0 (lw_Z below #[Value.ref b] s) (entryFrame m ([Value.ref b] : List Value).toArray 4) := by
  obtain ⟨hx, hb, hr, hml, hown, hts, hX, hbl, hlocks, hgv⟩ := C0
  have hWS : ∀ w ∈ tw_WS, w.before #[Value.ref b] s = true := fun w hw => hts w (List.mem_filter.mp hw).1
  obtain ⟨c0, i0, k0⟩ := u_known (C := R_CK) (T := F_CK) (N := 5) (n := 5) hWS u_CK (hWS (Cond.instantiable "TaskWeaver$Checker" 5) (tw_in_1 174 rfl rfl))
  obtain ⟨c1, i1, k1⟩ := u_known (C := R_CF) (T := F_CF) (N := 5) (n := 5) hWS u_CF (hWS (Cond.instantiable "TaskWeaver$CycleFinder" 5) (tw_in_1 81 rfl rfl))
  obtain ⟨c2, i2, k2⟩ := u_known (C := R_DM) (T := F_DM) (N := 18) (n := 18) hWS u_DM (hWS (Cond.instantiable "TaskWeaver$Domain" 18) (tw_in_1 17 rfl rfl))
  obtain ⟨c3, i3, k3⟩ := u_known (C := R_RW) (T := F_RW) (N := 6) (n := 6) hWS u_RW (hWS (Cond.instantiable "TaskWeaver$Row" 6) (tw_in_1 109 rfl rfl))
  obtain ⟨c4, i4, k4⟩ := u_known (C := R_SE) (T := F_SE) (N := 13) (n := 13) hWS u_SE (hWS (Cond.instantiable "TaskWeaver$Search" 13) (tw_in_1 103 rfl rfl))
  obtain ⟨c5, i5, k5⟩ := u_known (C := R_TW) (T := F_TW) (N := 4) (n := 4) hWS u_TW (hWS (Cond.instantiable "TaskWeaver" 4) (tw_in_1 9 rfl rfl))
  obtain ⟨c6, i6, k6⟩ := u_known (C := R_MD) (T := F_MD) (N := 47) (n := 47) hWS u_MD (hWS (Cond.instantiable "TaskWeaverModel" 47) (tw_in_3 99 rfl rfl))
  obtain ⟨a0, ka0, co0, f0, g0, t0⟩ := Cond.arrayClass_spec (hWS (Cond.arrayClass .int) (tw_in_1 79 rfl rfl))
  obtain ⟨a1, ka1, co1, f1, g1, t1⟩ := Cond.arrayClass_spec (hWS (Cond.arrayClass .boolean) (tw_in_4 6 rfl rfl))
  have hov : (Cond.arrayOver (.array .int)).before #[Value.ref b] s = true := hts _ (by decide +kernel)
  have hn1 : (Cond.methodLinkNest "TaskWeaver" 11 ⟨"TaskWeaver$Domain", "<init>", "()V"⟩ "TaskWeaver").before #[Value.ref b] s = true := hts _ (by decide +kernel)
  have hn2 : (Cond.methodLinkNest "TaskWeaver$Search" 11 ⟨"TaskWeaver$Row", "<init>", "()V"⟩ "TaskWeaver").before #[Value.ref b] s = true := hts _ (by decide +kernel)
  have hn3 : (Cond.methodLinkNest "TaskWeaver$Checker" 11 ⟨"TaskWeaver$Row", "<init>", "()V"⟩ "TaskWeaver").before #[Value.ref b] s = true := hts _ (by decide +kernel)
  obtain ⟨co2, a2, ka2, f2c, g2, t2, f2⟩ := Cond.arrayOver_specA hov
  have hN : tb_N s := ⟨hn1, hn2, hn3, hov⟩
  exact whole_go l hL hx hb hr hml hown hWS hX hbl hlocks hN ⟨(fun c => match c with | 0 => c0 | 1 => c1 | 2 => c2 | 3 => c3 | 4 => c4 | 5 => c5 | _ => c6), (fun c => match c with | 0 => i0 | 1 => i1 | 2 => i2 | 3 => i3 | 4 => i4 | 5 => i5 | _ => i6)⟩ (fun k => match k with | 0 => a0 | 1 => a1 | _ => a2)
    ⟨(fun c q hq => match c, hq with
      | 0, hq => by cases hq; exact k0
      | 1, hq => by cases hq; exact k1
      | 2, hq => by cases hq; exact k2
      | 3, hq => by cases hq; exact k3
      | 4, hq => by cases hq; exact k4
      | 5, hq => by cases hq; exact k5
      | 6, hq => by cases hq; exact k6
      | n + 7, hq => by cases hq),
    (fun c q hq => match c, hq with
      | 0, hq => by cases hq; exact ⟨fun n z => ⟨fun k h => (by cases h), ka0, g0, co0, t0⟩, f0⟩
      | 1, hq => by cases hq; exact ⟨fun n z => ⟨fun k h => (by cases h), ka1, g1, co1, t1⟩, f1⟩
      | 2, hq => by cases hq; exact ⟨fun n z => ⟨fun k h => (by cases h), ka2, g2, co2, t2⟩, f2⟩
      | n + 3, hq => by cases hq)⟩
set_option maxHeartbeats 4000000 in
theorem lw_walk (l : Launch) (b : Addr) (xs : List Int32) : MetFree l x (headSpec (Jvm.Cond.code x code maxLocals ret :: tables_1) room_1) (lw_P b xs) (fun _ _ _ _ _ => True) lw_Q := by
  refine MetFree.of_bodyS (code := code) (maxLocals := maxLocals) (ret := ret) (by decide) ?_ ?_
  · intro args s m h hn
    obtain ⟨meth, c, h1, h2, h3, h4, h5, h6, -, -⟩ := Cond.code_spec hn (atoms_spec (ws := Jvm.Cond.code x code maxLocals ret :: tables_1) h _ List.mem_cons_self)
    exact ⟨meth, c, h1, h2, h3, h4, h5, h6⟩
  · intro p e s m args below meth c s₁ B hml0 hP _
    obtain ⟨rfl, hx, hbd, hgv⟩ := hP
    obtain ⟨scr, harrAt, hlist, hof, hsmall⟩ := hx
    obtain ⟨hcb, hkn, -, -⟩ := State.arrayAt?_spec harrAt
    have hown : s.vm.findClass R_law = some m.cls := findClass_of_methodNamed B.named
    have hts0 : ∀ c ∈ (Jvm.Cond.code x code maxLocals ret :: tables_1), c.before #[Value.ref b] s = true := atoms_spec (ws := Jvm.Cond.code x code maxLocals ret :: tables_1) B.pre
    have hts : ∀ w ∈ lw_tbl, w.before #[Value.ref b] s = true := k2_hts_sels lw_privs (fun w hw => hts0 w (List.mem_cons_of_mem _ hw)) lw_privs_ok
    have hml : c.maxLocals = 4 := B.maxLocals_eq (hts0 _ List.mem_cons_self)
    have X₀ : Stand p l e room_1 s m #[Value.ref b] below meth c s₁ [] 0 0 := Stand.of_body B
    have hh0 : s₁.heap = s.heap := by rw [B.state]; rfl
    have hsz : scr.slots.size = xs.length := by rw [← Array.length_toList, hlist, List.length_map]
    have hval : ∀ j : Nat, j < xs.length → scr.slots[j]? = some (.int (xs.getD j 0)) := fun j hj => by
      rw [← Array.getElem?_toList, hlist]
      simp [hj]
    have hbl : b < s.heap.size := (Array.getElem?_eq_some_iff.mp hcb).1
    have hX : va_X b xs.length (fun j => xs.getD j 0) s s.heap := ⟨scr, hcb, hof, hkn, hsz, hval⟩
    have K : W p l e room_1 s m #[Value.ref b] below meth c s₁.heap [] 0 0 (lw_Z below #[Value.ref b] s) (entryFrame m ([Value.ref b] : List Value).toArray 4) := by
      rw [hh0]
      exact whole_start l hbd ⟨B.exec, B.bytes, B.returns, hml, hown, hts, hX, hbl, B.notSynchronized, hgv⟩
    obtain ⟨t, a1, o, b1, b2, b3⟩ := K s₁ rfl X₀
    exact ⟨t, o, a1, b1, b2, b3⟩
theorem lw_pre_spec {args : Array Value} {s : State} (h : (Jvm.Cond.and given_1 narrow_1).before args s = true) (hr : rest_1_c.before args s = true) : ∃ (b : Addr) (xs : List Int32), lw_P b xs args s := by
  have hs := flat_of_before _ h
  have hq := flat_of_before _ hr
  have hc : (Cond.count 1).before args s = true := hs _ (by decide +kernel)
  have harr : (Cond.arrayOf (.arg 0) .int).before args s = true := hs _ (by decide +kernel)
  have hle : (Cond.le (.length (.arg 0)) (.int 3072)).before args s = true := hs _ (by decide +kernel)
  have hlen : (Cond.isInt (.length (.arg 0))).before args s = true := hq _ (by decide +kernel)
  have hall : (Cond.all (.arg 0) (.isInt (.elem (.arg 0) (.index 0)))).before args s = true := hq _ (by decide +kernel)
  obtain ⟨b, xs, hb, hx⟩ := State.ints_of_pre rfl harr hlen hall
  have hsm : xs.length < 2 ^ 31 := hx.choose_spec.2.2.2
  have hev : (Term.length (.arg 0)).eval args s none [] s = some (.int xs.length.toInt32) := hx.length_eval hb
  have hv := Cond.le_ints hev (show (Term.int 3072).eval args s none [] s = some (.int 3072) from rfl)
  have hd : xs.length.toInt32 ≤ 3072 := by
    simpa [Cond.before, Cond.holds, hv] using hle
  have hN : xs.length ≤ 3072 := (Int32.ofNat_le_ofNat hsm (by decide)).mp (show Int32.ofNat xs.length ≤ Int32.ofNat 3072 from hd)
  exact ⟨b, xs, Cond.one_arg hc (show args[0]? = some (.ref b) from hb), hx, hN, h⟩
theorem lw_comes (l : Launch) : Comes l x (Jvm.Cond.code x code maxLocals ret :: tables_1) room_1 (fun tb e args s => Calls_1 tb e args s ∧ rest_1 tb e args s ∧ Pre_1 tb e args s)
    (fun _ _ args s o t => lw_Q args s o t) := by
  intro p e ha hc hk s m args below hf hfit hheap happ hpre
  obtain ⟨b, xs, hP⟩ := lw_pre_spec hpre.2.2 hpre.2.1
  obtain ⟨k, o, h1, h2, h3, hQ⟩ := lw_walk l b xs p e ha hc hk s m args below hf ((Spec.applies_iff_loose hf).mp happ).1 hP trivial
  exact ⟨k, o, h1, h2, h3, hQ⟩
theorem lw_frame {s t : State} {o : Outcome} {args : Array Value} (h : Framed s o t [] 600000 7302250) :
    Framed s o t (fieldLocs frame_1_writes args s ++ arrayLocs frame_1_arrays args s ++ staticLocs frame_1_statics s) 600000 7302250 := h
theorem lw_limb (L : Cond) (hL : ∀ (args : Array Value) (s t : State), L.after args s (.returned (some (.int 1))) t = true) :
    ArmFor flags0 classFile x code maxLocals ret World_1 tables_1 room_1 Calls_1 rest_1 Pre_1
      (fun tb e a s o t => postC L tb e a s o t ∧ Framed s o t (fieldLocs frame_1_writes a s ++ arrayLocs frame_1_arrays a s ++ staticLocs frame_1_statics s) 600000 7302250) := by
  intro l _ _ _ p e ha hc hk s m args below hf hfit hheap happ hpre
  obtain ⟨k, o, h1, h2, h3, rfl, hF⟩ := lw_comes l p e ha hc hk s m args below hf hfit hheap happ hpre
  exact ⟨k, _, h1, h2, h3, hL args s _, lw_frame hF⟩
theorem i_vc : Claimed_1_1 ∧ Claimed_1_2 := ⟨lw_limb limb_1_1 (fun args s t => by simp [limb_1_1, Cond.after, Cond.holds, Cond.value]), lw_limb limb_1_2 (fun args s t => Cond.after_iff.mpr (by
  first | (rw [show limb_1_2 = Cond.eq .result (.int 1) from rfl, Cond.eq_ints (x := 1) (y := 1) rfl rfl]; simp; done) | (simp [limb_1_2, Cond.value, Term.eval]; done)))⟩
