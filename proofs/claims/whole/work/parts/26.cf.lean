def keepF (M M' : tw_M) : Prop := ∀ q, q < 67 ∨ 69 < q → M' q = M q
theorem keepF_rf (M : tw_M) : keepF M M := fun _ _ => rfl
theorem keepF.tr {A B C : tw_M} (h1 : keepF A B) (h2 : keepF B C) : keepF A C := fun q hq => (h2 q hq).trans (h1 q hq)
def pathC (M : tw_M) (n : Nat) (P : Nat → Nat) : Prop := ∀ i, i < n → (M 69 i).toInt = 16 + (P i : Int)
def markC (M : tw_M) (mz : Nat → Int32) : Prop := ∀ k, k < 12 → M 68 k = mz k
def foundC (M : tw_M) (n : Nat) (P : Nat → Nat) (to : Nat) : Prop := (M 67 4).toInt = (n : Int) ∧ (∃ i, i < n ∧ P i = to ∧ (M 67 3).toInt = (i : Int)) ∧ pathC M n P
def cyQ (M : tw_M) (n : Nat) (r : cy_R) (Q : tw_P) : Prop := (∀ (mz' : Nat → Int32) (M' : tw_M), r = .inr mz' → keepF M M' → markC M' mz' → (∀ i, i < n → M' 69 i = M 69 i) → Q (some 0) M') ∧ (∀ (n' : Nat) (P' : Nat → Nat) (to : Nat) (M' : tw_M), r = .inl (n', P', to) → keepF M M' → foundC M' n' P' to → Q (some 1) M')
theorem cyQ_then {M : tw_M} {n : Nat} {r : cy_R} {F : (Nat → Int32) → cy_R} {Q : tw_P} (h : cyQ M n (cy_then r F) Q) : (∀ (mz' : Nat → Int32) (M' : tw_M), r = .inr mz' → keepF M M' → markC M' mz' → (∀ i, i < n → M' 69 i = M 69 i) → cyQ M' n (F mz') Q) ∧ (∀ (n' : Nat) (P' : Nat → Nat) (to : Nat) (M' : tw_M), r = .inl (n', P', to) → keepF M M' → foundC M' n' P' to → Q (some 1) M') := by
  refine ⟨fun mz' M' hr hk hm hp => ?_, fun n' P' to M' hr hk hf => h.2 n' P' to M' (by rw [hr]; rfl) hk hf⟩
  subst hr
  exact ⟨fun mz2 M2 h2 hk2 hm2 hp2 => h.1 mz2 M2 h2 (hk.tr hk2) hm2 (fun i hi => (hp2 i hi).trans (hp i hi)), fun n' P' to M2 h2 hk2 hf2 => h.2 n' P' to M2 h2 (hk.tr hk2) hf2⟩
theorem keepF_DR {M M' N : tw_M} (h : keepF M M') (hD : DR M N) : DR M' N := DR_congr hD ⟨fun q hq => h q (by omega), fun _ _ _ => rfl, fun _ _ => rfl⟩
def gOK (M : tw_M) (G : Nat → List (List Int32)) : Prop := ∀ s : Nat, (s : Int) < (M 1 8).toInt → G s = Gr M s
theorem gl_congr {M M' : tw_M} {c : Nat} (h8 : M' (8 + c) = M (8 + c)) (h65 : M' 65 = M 65) : ∀ (n j : Nat), (∀ k, j ≤ k → k < j + n → M' (25 + (M (8 + c) k).toInt.toNat) = M (25 + (M (8 + c) k).toInt.toNat)) → gl M' c j n = gl M c j n := by
  intro n
  induction n with
  | zero => intro j _; rfl
  | succ n ih =>
    intro j h
    simp only [gl]
    rw [h8, h65, h j (by omega) (by omega), ih (j + 1) (fun k h1 h2 => h k (by omega) (by omega))]
theorem gOK_keep {M M' N : tw_M} {G : Nat → List (List Int32)} (hD : DR M N) (h : keepF M M') (hG : gOK M G) : gOK M' G := by
  intro s hs
  rw [h 1 (by omega)] at hs
  have hI8 := hD.1.2.1
  have hI14 := hD.1.2.2.1
  have h20 := hD.1.2.2.2.2.1 s (by omega)
  rw [hG s hs]
  unfold Gr
  rw [h 20 (by omega)]
  refine (gl_congr (h (8 + s) (by omega)) (h 65 (by omega)) _ 0 (fun k _ hk => h _ ?_)).symm
  have := hD.2.2.2.2.2.2.2.1 s k hs (by omega)
  omega
theorem lp_CF_keepCycle {d : Nat} {Q : tw_P} {M0 : tw_M} {n s : Nat} {P : Nat → Nat} {t dp : Int32} (hp : pathC M0 n P) (hn : n ≤ 12) (hd : dp.toInt = (n : Int)) (ht : t.toInt = 16 + (s : Int)) (hx : ∃ i, i < n ∧ P i = s) (h : ∀ M', (∀ q, q ≠ 67 → M' q = M0 q) → M' 67 4 = dp → (∃ i, i < n ∧ P i = s ∧ (M' 67 3).toInt = (i : Int)) → Q none M') : ∀ (r i : Nat) (M : tw_M) (iv : Int32), iv.toInt = (i : Int) → i + r = n → (∀ q, q ≠ 67 → M q = M0 q) → M 67 4 = dp → ((∃ k, k < i ∧ P k = s ∧ (M 67 3).toInt = (k : Int)) ∨ ∀ k, k < i → ¬ P k = s) → tw_T none d j_CF_keepCycle M 7 [some (.inr 67), some (.inl t), some (.inl dp), some (.inl iv)] [] Q := by
  intro r
  induction r with
  | zero =>
    intro i M iv hi hr hk h4 hf
    have hf2 : ∃ i, i < n ∧ P i = s ∧ (M 67 3).toInt = (i : Int) := by
      rcases hf with ⟨k, k1, k2, k3⟩ | q
      · exact ⟨k, by omega, k2, k3⟩
      · obtain ⟨k, k1, k2⟩ := hx
        exact absurd k2 (q k (by omega))
    have z0 := tw_ti_0
    have z1 := tw_ti_1
    refine tw_iload_n (pc := 7) rfl rfl ?_
    refine tw_iload_n (pc := 8) rfl rfl ?_
    refine tw_icmp_ge (pc := 9) (tgt := 33) rfl rfl (fun c1 => ?_) (fun c1 => absurd c1 (by omega))
    refine tw_return (pc := 33) rfl trivial ?_
    exact h M hk h4 hf2
  | succ r ih =>
    intro i M iv hi hr hk h4 hf
    have ei : iv.toInt.toNat = i := by omega
    have h69 : (M 69 i).toInt = 16 + (P i : Int) := by rw [hk 69 (by omega)]; exact hp i (by omega)
    have z0 := tw_ti_0
    have z1 := tw_ti_1
    refine tw_iload_n (pc := 7) rfl rfl ?_
    refine tw_iload_n (pc := 8) rfl rfl ?_
    refine tw_icmp_ge (pc := 9) (tgt := 33) rfl rfl (fun c1 => absurd c1 (by omega)) (fun c1 => ?_)
    refine tw_aload_n (pc := 12) rfl rfl ?_
    refine tw_getR (pc := 13) rfl fl_CF_15 rfl rfl ?_
    refine tw_iload_n (pc := 16) rfl rfl ?_
    refine tw_ialdV (pc := 17) (v := (M 69 i)) rfl rfl ⟨by omega, by omega⟩ (by rw [ei]) ?_
    refine tw_iload_n (pc := 18) rfl rfl ?_
    refine tw_icmp_ne (pc := 19) (tgt := 27) rfl rfl (fun c2 => ?_) (fun c2 => ?_)
    · refine tw_iincF (pc := 27) rfl rfl tw_ic_1 (Nat.le_of_ble_eq_true rfl) ⟨by omega, by omega⟩ (fun e3 => ?_)
      refine tw_goto (pc := 30) (tgt := 7) rfl rfl ?_
      have hne : ¬ P i = s := by omega
      exact ih (i + 1) _ _ (by omega) (by omega) hk h4 (by
        rcases hf with ⟨k, k1, k2, k3⟩ | q
        · exact Or.inl ⟨k, by omega, k2, k3⟩
        · refine Or.inr (fun k hk2 => ?_)
          by_cases e : k = i
          · rw [e]; exact hne
          · exact q k (by omega))
    · refine tw_aload_n (pc := 22) rfl rfl ?_
      refine tw_iload_n (pc := 23) rfl rfl ?_
      refine tw_putI (pc := 24) rfl fp_CF_36 rfl rfl rfl rfl ?_
      refine tw_iincF (pc := 27) rfl rfl tw_ic_1 (Nat.le_of_ble_eq_true rfl) ⟨by omega, by omega⟩ (fun e4 => ?_)
      refine tw_goto (pc := 30) (tgt := 7) rfl rfl ?_
      have heq : P i = s := by omega
      exact ih (i + 1) _ _ (by omega) (by omega) (fun q hq => by rw [tw_set_q _ _ hq]; exact hk q hq) h4 (Or.inl ⟨i, by omega, heq, hi⟩)
theorem sp_CF_keepCycle {d : Nat} {M : tw_M} {Q : tw_P} {t dp : Int32} {n s : Nat} {P : Nat → Nat} (hp : pathC M n P) (hn : n ≤ 12) (hd : dp.toInt = (n : Int)) (ht : t.toInt = 16 + (s : Int)) (hx : ∃ i, i < n ∧ P i = s) (h : ∀ M', (∀ q, q ≠ 67 → M' q = M q) → M' 67 4 = dp → (∃ i, i < n ∧ P i = s ∧ (M' 67 3).toInt = (i : Int)) → Q none M') : tw_C (d + 1) j_CF_keepCycle [.inr 67, .inl t, .inl dp] M Q := by
  refine tw_enter pn_CF dc_CF_keepCycle (Nat.le_of_ble_eq_true rfl) ?_
  have z0 := tw_ti_0
  have z1 := tw_ti_1
  refine tw_aload_n (pc := 0) rfl rfl ?_
  refine tw_iload_n (pc := 1) rfl rfl ?_
  refine tw_putI (pc := 2) rfl fp_CF_32 rfl rfl rfl rfl ?_
  refine tw_iconst (pc := 5) rfl tw_ic_0 ?_
  refine tw_istore_n (pc := 6) rfl (Nat.le_of_ble_eq_true rfl) ?_
  exact lp_CF_keepCycle hp hn hd ht hx h n 0 _ _ (by rw [z0]; rfl) (by omega) (fun q hq => tw_set_q _ _ hq) rfl (Or.inr (fun k hk => absurd hk (by omega)))
def visOK (G : Nat → List (List Int32)) (f l : Nat) : Prop := ∀ (M N : tw_M) (n : Nat) (P : Nat → Nat) (mz : Nat → Int32) (s : Nat) (t dp : Int32) (Q : tw_P), DR M N → gOK M G → pathC M n P → markC M mz → cyJ n P mz → cn mz 12 ≤ f → mz s = 0 → (s : Int) < (M 1 8).toInt → t.toInt = 16 + (s : Int) → dp.toInt = (n : Int) → cyQ M n (vis G f n P mz s) Q → tw_C l j_CF_visit [.inr 67, .inl t, .inl dp] M Q
theorem sp_CF_meets {l f : Nat} {G : Nat → List (List Int32)} (IH : visOK G f (l + 1)) {M N : tw_M} {n s : Nat} {P : Nat → Nat} {mz : Nat → Int32} {t dp : Int32} {Q : tw_P} (hD : DR M N) (hG : gOK M G) (hp : pathC M n P) (hm : markC M mz) (hJ : cyJ n P mz) (hc : cn mz 12 ≤ f) (hs : (s : Int) < (M 1 8).toInt) (ht : t.toInt = 16 + (s : Int)) (hd : dp.toInt = (n : Int)) (h : cyQ M n (cy_stp (vis G f n P) n P mz s) Q) : tw_C (l + 2) j_CF_meets [.inr 67, .inl t, .inl dp] M Q := by
  have hI8 := hD.1.2.1
  have hn12 : n ≤ 12 := by have := hJ.2.2; omega
  have es : (t - 16).toInt = (s : Int) := by rw [tw_subI (by rw [tw_ti_16]; omega), tw_ti_16]; omega
  have es2 : (t - 16).toInt.toNat = s := by omega
  have h68 : M 68 s = mz s := hm s (by omega)
  refine tw_enter pn_CF dc_CF_meets (Nat.le_of_ble_eq_true rfl) ?_
  have z0 := tw_ti_0
  have z1 := tw_ti_1
  have z16 := tw_ti_16
  refine tw_aload_n (pc := 0) rfl rfl ?_
  refine tw_getR (pc := 1) rfl fl_CF_9 rfl rfl ?_
  refine tw_iload_n (pc := 4) rfl rfl ?_
  refine tw_bipush (pc := 5) rfl tw_bi_16 ?_
  refine tw_isubF (pc := 7) rfl ⟨by omega, by omega⟩ (fun e1 => ?_)
  refine tw_ialdV (pc := 8) (v := (mz s)) rfl rfl ⟨by omega, by omega⟩ (by rw [es2]; exact h68) ?_
  refine tw_istore_n (pc := 9) rfl (Nat.le_of_ble_eq_true rfl) ?_
  refine tw_iload_n (pc := 10) rfl rfl ?_
  refine tw_iconst (pc := 11) rfl tw_ic_1 ?_
  refine tw_icmp_ne (pc := 12) (tgt := 23) rfl rfl (fun c2 => ?_) (fun c2 => ?_)
  · refine tw_iload_n (pc := 23) rfl rfl ?_
    refine tw_if_ne (pc := 24) (tgt := 40) rfl rfl (fun c3 => ?_) (fun c3 => ?_)
    · refine tw_iconst (pc := 40) rfl tw_ic_0 ?_
      refine tw_ireturn (pc := 41) rfl rfl ?_
      have e : cy_stp (vis G f n P) n P mz s = .inr mz := by unfold cy_stp; rw [if_neg c2.1, if_neg c3.1]
      rw [e] at h
      exact h.1 mz M rfl (keepF_rf M) hm (fun _ _ => rfl)
    · refine tw_aload_n (pc := 27) rfl rfl ?_
      refine tw_iload_n (pc := 28) rfl rfl ?_
      refine tw_iload_n (pc := 29) rfl rfl ?_
      refine tw_inv2 (pc := 30) rfl lk_CF_43 (Nat.le_of_ble_eq_true rfl) rfl rfl (IH M N n P mz s _ _ _ hD hG hp hm hJ hc c3.1 hs ht hd ⟨fun zV MV rV kV aV bV => ?_, fun nV PV toV MV rV kV aV => ?_⟩)
      · refine tw_if_eq (pc := 33) (tgt := 40) rfl rfl (fun _ => ?_) (fun q => absurd q (by decide))
        refine tw_iconst (pc := 40) rfl tw_ic_0 ?_
        refine tw_ireturn (pc := 41) rfl rfl ?_
        have e : cy_stp (vis G f n P) n P mz s = vis G f n P mz s := by unfold cy_stp; rw [if_neg c2.1, if_pos c3.1]
        rw [e] at h
        exact h.1 zV MV rV kV aV bV
      · refine tw_if_eq (pc := 33) (tgt := 40) rfl rfl (fun q => absurd q (by decide)) (fun _ => ?_)
        refine tw_iconst (pc := 36) rfl tw_ic_1 ?_
        refine tw_goto (pc := 37) (tgt := 41) rfl rfl ?_
        refine tw_ireturn (pc := 41) rfl rfl ?_
        have e : cy_stp (vis G f n P) n P mz s = vis G f n P mz s := by unfold cy_stp; rw [if_neg c2.1, if_pos c3.1]
        rw [e] at h
        exact h.2 nV PV toV MV rV kV aV
  · refine tw_aload_n (pc := 15) rfl rfl ?_
    refine tw_iload_n (pc := 16) rfl rfl ?_
    refine tw_iload_n (pc := 17) rfl rfl ?_
    refine tw_inv2 (pc := 18) rfl lk_CF_39 (Nat.le_of_ble_eq_true rfl) rfl rfl (sp_CF_keepCycle (n := n) (s := s) (P := P) hp hn12 hd ht ((hJ.1 s).mp c2.1) (fun MK kK aK bK => ?_))
    refine tw_iconst (pc := 21) rfl tw_ic_1 ?_
    refine tw_ireturn (pc := 22) rfl rfl ?_
    have e : cy_stp (vis G f n P) n P mz s = .inl (n, P, s) := if_pos c2.1
    rw [e] at h
    exact h.2 n P s MK rfl (fun q hq => kK q (by omega)) ⟨by rw [aK]; exact hd, bK, fun i hi => by rw [kK 69 (by omega)]; exact hp i hi⟩
