theorem lp_CF_parts {l f : Nat} {G : Nat → List (List Int32)} (IH : visOK G f (l + 1)) (hGi : ∀ s, s < 12 → ∀ l ∈ G s, cyIn 12 l) {n : Nat} {P : Nat → Nat} {m dp ct : Int32} {Q : tw_P} (hd : dp.toInt = (n : Int)) : ∀ (r k : Nat) (M N : tw_M) (mz : Nat → Int32) (kv : Int32) (x : Option tw_V), DR M N → gOK M G → pathC M n P → markC M mz → cyJ n P mz → cn mz 12 ≤ f → kv.toInt = (k : Int) → ct.toInt = (k : Int) + (r : Int) → (0 < r → (0 ≤ m.toInt ∧ m.toInt < (M 1 14).toInt) ∧ (k : Int) + (r : Int) = (M 65 m.toInt.toNat).toInt) → cyQ M n (goP (vis G f n P) n P (ul (M (25 + m.toInt.toNat)) k r) mz) Q → tw_T none (l + 2) j_CF_meetsInParts M 12 [some (.inr 67), some (.inl m), some (.inl dp), some (.inl ct), some (.inl kv), x] [] Q := by
  intro r
  induction r with
  | zero =>
    intro k M N mz kv x hD hG hp hm hJ hc hk hr hmm h
    have z0 := tw_ti_0
    have z1 := tw_ti_1
    refine tw_iload (pc := 12) rfl rfl ?_
    refine tw_iload_n (pc := 14) rfl rfl ?_
    refine tw_icmp_ge (pc := 15) (tgt := 60) rfl rfl (fun c1 => ?_) (fun c1 => absurd c1 (by omega))
    refine tw_iconst (pc := 60) rfl tw_ic_0 ?_
    refine tw_ireturn (pc := 61) rfl rfl ?_
    exact h.1 mz M rfl (keepF_rf M) hm (fun _ _ => rfl)
  | succ r ih =>
    intro k M N mz kv x hD hG hp hm hJ hc hk hr hmm h
    obtain ⟨hm1, hm2⟩ := hmm (by omega)
    have hI14 := hD.1.2.2.1
    have h65 := hD.1.2.2.2.2.2 m.toInt.toNat (by omega)
    have hI8 := hD.1.2.1
    have hI5 := hD.1.1
    have ek : kv.toInt.toNat = k := by omega
    have ev : pAt M m kv = M (25 + m.toInt.toNat) k := by
      unfold pAt
      rw [if_pos (by omega), ek]
    have htk := hD.2.2.2.2.2.2.2.2.1 m.toInt.toNat k (by omega) (by omega)
    have hD1 := hD.1
    have hul : ul (M (25 + m.toInt.toNat)) k (r + 1) = M (25 + m.toInt.toNat) k :: ul (M (25 + m.toInt.toNat)) (k + 1) r := rfl
    rw [hul] at h
    generalize htt : M (25 + m.toInt.toNat) k = t at *
    have z0 := tw_ti_0
    have z1 := tw_ti_1
    refine tw_iload (pc := 12) rfl rfl ?_
    refine tw_iload_n (pc := 14) rfl rfl ?_
    refine tw_icmp_ge (pc := 15) (tgt := 60) rfl rfl (fun c1 => absurd c1 (by omega)) (fun c1 => ?_)
    refine tw_aload_n (pc := 18) rfl rfl ?_
    refine tw_getR (pc := 19) rfl fl_CF_18 rfl rfl ?_
    refine tw_iload_n (pc := 22) rfl rfl ?_
    refine tw_iload (pc := 23) rfl rfl ?_
    refine tw_inv2 (pc := 25) rfl lk_CF_57 (Nat.le_of_ble_eq_true rfl) rfl rfl (sp_DM_partAt hD1 ev ?_)
    refine tw_istore (pc := 28) rfl (Nat.le_of_ble_eq_true rfl) ?_
    refine tw_aload_n (pc := 30) rfl rfl ?_
    refine tw_getR (pc := 31) rfl fl_CF_18 rfl rfl ?_
    refine tw_iload (pc := 34) rfl rfl ?_
    refine tw_inv1 (pc := 36) rfl lk_CF_22 (Nat.le_of_ble_eq_true rfl) rfl rfl (sp_DM_isCompound hD1 (fun c3 => ?_) (fun c3 => ?_))
    · refine tw_if_eq (pc := 39) (tgt := 54) rfl rfl (fun q => absurd q (by decide)) (fun _ => ?_)
      have hcc : 16 ≤ t.toInt ∧ t.toInt < 16 + (M 1 8).toInt := by assumption
      have es : (t - 16).toInt = t.toInt - 16 := by rw [tw_subI (by rw [tw_ti_16]; omega), tw_ti_16]
      simp only [goP] at h
      rw [if_neg (show ¬ t.toInt < 16 by omega)] at h
      refine tw_aload_n (pc := 42) rfl rfl ?_
      refine tw_iload (pc := 43) rfl rfl ?_
      refine tw_iload_n (pc := 45) rfl rfl ?_
      refine tw_inv2 (pc := 46) rfl lk_CF_28 (Nat.le_of_ble_eq_true rfl) rfl rfl (sp_CF_meets IH (s := (t - 16).toInt.toNat) hD hG hp hm hJ hc (by omega) (by omega) hd ⟨fun zV MV rV kV aV bV => ?_, fun nV PV toV MV rV kV aV => ?_⟩)
      · refine tw_if_eq (pc := 49) (tgt := 54) rfl rfl (fun _ => ?_) (fun q => absurd q (by decide))
        refine tw_iincF (pc := 54) rfl rfl tw_ic_1 (Nat.le_of_ble_eq_true rfl) ⟨by omega, by omega⟩ (fun e5 => ?_)
        refine tw_goto (pc := 57) (tgt := 12) rfl rfl ?_
        have hpp2 : pathC MV n P := fun i hi => by rw [bV i hi]; exact hp i hi
        have e65 : MV 65 = M 65 := kV 65 (by omega)
        have e1 : MV 1 = M 1 := kV 1 (by omega)
        have e25 : MV (25 + m.toInt.toNat) = M (25 + m.toInt.toNat) := kV _ (by omega)
        have hcy := stp_J (V := vis G f n P) (s := (t - 16).toInt.toNat) hJ (fun h0 => vis_J hGi f n P mz _ hJ h0 (by omega))
        rw [rV] at hcy
        have h2 := (cyQ_then h).1 zV MV rV kV aV bV
        rw [← e25] at h2
        exact ih (k + 1) MV N zV _ _ (keepF_DR kV hD) (gOK_keep hD kV hG) hpp2 aV hcy.1 (Nat.le_trans hcy.2 hc) (by omega) (by omega) (fun _ => ⟨by rw [e1]; exact hm1, by rw [e65]; omega⟩) h2
      · refine tw_if_eq (pc := 49) (tgt := 54) rfl rfl (fun q => absurd q (by decide)) (fun _ => ?_)
        refine tw_iconst (pc := 52) rfl tw_ic_1 ?_
        refine tw_ireturn (pc := 53) rfl rfl ?_
        exact (cyQ_then h).2 nV PV toV MV rV kV aV
    · refine tw_if_eq (pc := 39) (tgt := 54) rfl rfl (fun _ => ?_) (fun q => absurd q (by decide))
      refine tw_iincF (pc := 54) rfl rfl tw_ic_1 (Nat.le_of_ble_eq_true rfl) ⟨by omega, by omega⟩ (fun e6 => ?_)
      refine tw_goto (pc := 57) (tgt := 12) rfl rfl ?_
      have hlt : t.toInt < 16 := by
        rcases htk with q | q
        · omega
        · exact absurd q (by assumption)
      simp only [goP] at h
      rw [if_pos hlt] at h
      exact ih (k + 1) M N mz _ _ hD hG hp hm hJ hc (by omega) (by omega) (fun _ => ⟨hm1, by omega⟩) h
theorem sp_CF_meetsInParts {l f : Nat} {G : Nat → List (List Int32)} (IH : visOK G f (l + 1)) (hGi : ∀ s, s < 12 → ∀ l ∈ G s, cyIn 12 l) {M N : tw_M} {n : Nat} {P : Nat → Nat} {mz : Nat → Int32} {m dp : Int32} {Q : tw_P} (hD : DR M N) (hG : gOK M G) (hp : pathC M n P) (hm : markC M mz) (hJ : cyJ n P mz) (hc : cn mz 12 ≤ f) (hd : dp.toInt = (n : Int)) {L : List Int32} (hL : ((0 ≤ m.toInt ∧ m.toInt < (M 1 14).toInt) ∧ L = ul (M (25 + m.toInt.toNat)) 0 (M 65 m.toInt.toNat).toInt.toNat) ∨ (m = -1 ∧ L = [])) (h : cyQ M n (goP (vis G f n P) n P L mz) Q) : tw_C (l + 3) j_CF_meetsInParts [.inr 67, .inl m, .inl dp] M Q := by
  have hD1 := hD.1
  have hI14 := hD1.2.2.1
  have hh : ∃ r : Nat, (nPart M m).toInt = (r : Int) ∧ L = ul (M (25 + m.toInt.toNat)) 0 r ∧ (0 < r → (0 ≤ m.toInt ∧ m.toInt < (M 1 14).toInt) ∧ (r : Int) = (M 65 m.toInt.toNat).toInt) := by
    rcases hL with ⟨q1, q2⟩ | ⟨q1, q2⟩
    · have h65 := hD1.2.2.2.2.2 m.toInt.toNat (by omega)
      have e : nPart M m = M 65 m.toInt.toNat := if_pos q1
      exact ⟨(M 65 m.toInt.toNat).toInt.toNat, by rw [e]; omega, q2, fun _ => ⟨q1, by omega⟩⟩
    · have zm := tw_ti_m1
      have e : nPart M m = 0 := if_neg (by rw [q1, zm]; omega)
      exact ⟨0, by rw [e]; decide, q2, fun q => absurd q (by omega)⟩
  obtain ⟨r, h1, h2, h3⟩ := hh
  rw [h2] at h
  refine tw_enter pn_CF dc_CF_meetsInParts (Nat.le_of_ble_eq_true rfl) ?_
  have z0 := tw_ti_0
  have z1 := tw_ti_1
  refine tw_aload_n (pc := 0) rfl rfl ?_
  refine tw_getR (pc := 1) rfl fl_CF_18 rfl rfl ?_
  refine tw_iload_n (pc := 4) rfl rfl ?_
  refine tw_inv1 (pc := 5) rfl lk_CF_53 (Nat.le_of_ble_eq_true rfl) rfl rfl (sp_DM_partCount hD1 rfl ?_)
  refine tw_istore_n (pc := 8) rfl (Nat.le_of_ble_eq_true rfl) ?_
  refine tw_iconst (pc := 9) rfl tw_ic_0 ?_
  refine tw_istore (pc := 10) rfl (Nat.le_of_ble_eq_true rfl) ?_
  exact lp_CF_parts IH hGi hd r 0 M N mz _ _ hD hG hp hm hJ hc (by rw [z0]; rfl) (by omega) (fun q => ⟨(h3 q).1, by have := (h3 q).2; omega⟩) h
theorem lp_CF_visit {l f : Nat} {G : Nat → List (List Int32)} (IH : visOK G f (l + 1)) (hGi : ∀ s, s < 12 → ∀ l ∈ G s, cyIn 12 l) {n s : Nat} {P : Nat → Nat} {t dp : Int32} {Q : tw_P} (hs12 : s < 12) (hn : n < 12) (hd : dp.toInt = (n : Int)) (ht : t.toInt = 16 + (s : Int)) : ∀ (r j : Nat) (M N : tw_M) (mz : Nat → Int32) (jv : Int32), DR M N → gOK M G → pathC M (n + 1) P → markC M mz → cyJ (n + 1) P mz → cn mz 12 ≤ f → (s : Int) < (M 1 8).toInt → jv.toInt = (j : Int) → j + r = 5 → ((∀ (mz' : Nat → Int32) (M' : tw_M), goM (vis G f (n + 1) P) (n + 1) P (gl M s j ((M 20 s).toInt.toNat - j)) mz = .inr mz' → keepF M M' → markC M' mz' → (∀ i, i < n + 1 → M' 69 i = M 69 i) → Q (some 0) (tw_set M' 68 s 2)) ∧ (∀ (n' : Nat) (P' : Nat → Nat) (to : Nat) (M' : tw_M), goM (vis G f (n + 1) P) (n + 1) P (gl M s j ((M 20 s).toInt.toNat - j)) mz = .inl (n', P', to) → keepF M M' → foundC M' n' P' to → Q (some 1) M')) → tw_T none (l + 3) j_CF_visit M 27 [some (.inr 67), some (.inl t), some (.inl dp), some (.inl jv)] [] Q := by
  intro r
  induction r with
  | zero =>
    intro j M N mz jv hD hG hp hm hJ hc hs hj hr h
    have h20 := hD.1.2.2.2.2.1 s (by omega)
    have e0 : (M 20 s).toInt.toNat - j = 0 := by omega
    rw [e0] at h
    have es : (t - 16).toInt = (s : Int) := by rw [tw_subI (by rw [tw_ti_16]; omega), tw_ti_16]; omega
    have es2 : (t - 16).toInt.toNat = s := by omega
    have hq := h.1 mz M rfl (keepF_rf M) hm (fun _ _ => rfl)
    have z0 := tw_ti_0
    have z1 := tw_ti_1
    have z2 := tw_ti_2
    have z5 := tw_ti_5
    have z12 := tw_ti_12
    have z16 := tw_ti_16
    refine tw_iload_n (pc := 27) rfl rfl ?_
    refine tw_iconst (pc := 28) rfl tw_ic_5 ?_
    refine tw_icmp_ge (pc := 29) (tgt := 59) rfl rfl (fun c1 => ?_) (fun c1 => absurd c1 (by omega))
    refine tw_aload_n (pc := 59) rfl rfl ?_
    refine tw_getR (pc := 60) rfl fl_CF_9 rfl rfl ?_
    refine tw_iload_n (pc := 63) rfl rfl ?_
    refine tw_bipush (pc := 64) rfl tw_bi_16 ?_
    refine tw_isubF (pc := 66) rfl ⟨by omega, by omega⟩ (fun e2 => ?_)
    refine tw_iconst (pc := 67) rfl tw_ic_2 ?_
    refine tw_iast (pc := 68) rfl rfl ⟨by omega, by omega⟩ ?_
    refine tw_iconst (pc := 69) rfl tw_ic_0 ?_
    refine tw_ireturn (pc := 70) rfl rfl ?_
    rw [es2]
    exact hq
  | succ r ih =>
    intro j M N mz jv hD hG hp hm hJ hc hs hj hr h
    have hD1 := hD.1
    have h20 := hD.1.2.2.2.2.1 s (by omega)
    have ej : jv.toInt.toNat = j := by omega
    have es : (t - 16).toInt = (s : Int) := by rw [tw_subI (by rw [tw_ti_16]; omega), tw_ti_16]; omega
    have es2 : (t - 16).toInt.toNat = s := by omega
    have hd1 : (dp + 1).toInt = ((n + 1 : Nat) : Int) := by rw [tw_addI (by rw [tw_ti_1]; omega), tw_ti_1]; omega
    have hI14 := hD.1.2.2.1
    by_cases hlt : j < (M 20 s).toInt.toNat
    · have hmr := hD.2.2.2.2.2.2.2.1 s j hs (by omega)
      have ev : mAt M t jv = M (8 + s) j := by
        unfold mAt
        rw [es2, ej]
        exact if_pos ⟨by omega, by omega, by omega⟩
      have eg : gl M s j ((M 20 s).toInt.toNat - j) = ul (M (25 + (M (8 + s) j).toInt.toNat)) 0 (M 65 (M (8 + s) j).toInt.toNat).toInt.toNat :: gl M s (j + 1) ((M 20 s).toInt.toNat - (j + 1)) := by
        rw [show (M 20 s).toInt.toNat - j = ((M 20 s).toInt.toNat - (j + 1)) + 1 by omega]
        rfl
      rw [eg] at h
      simp only [goM] at h
      have hin : cyIn 12 (ul (M (25 + (M (8 + s) j).toInt.toNat)) 0 (M 65 (M (8 + s) j).toInt.toNat).toInt.toNat) := by
        have hgs := hGi s hs12
        rw [hG s hs] at hgs
        refine hgs _ ?_
        have hmem : ∀ (a b c : Nat), a ≤ b → b < a + c → ul (M (25 + (M (8 + s) b).toInt.toNat)) 0 (M 65 (M (8 + s) b).toInt.toNat).toInt.toNat ∈ gl M s a c := by
          intro a b c
          induction c generalizing a with
          | zero => intro h1 h2; omega
          | succ c ihc =>
            intro h1 h2
            by_cases e : a = b
            · rw [e]; exact List.mem_cons_self
            · exact List.mem_cons_of_mem _ (ihc (a + 1) (by omega) (by omega))
        exact hmem 0 j _ (by omega) (by omega)
      have z0 := tw_ti_0
      have z1 := tw_ti_1
      have z2 := tw_ti_2
      have z5 := tw_ti_5
      have z12 := tw_ti_12
      have z16 := tw_ti_16
      refine tw_iload_n (pc := 27) rfl rfl ?_
      refine tw_iconst (pc := 28) rfl tw_ic_5 ?_
      refine tw_icmp_ge (pc := 29) (tgt := 59) rfl rfl (fun c1 => absurd c1 (by omega)) (fun c1 => ?_)
      refine tw_aload_n (pc := 32) rfl rfl ?_
      refine tw_aload_n (pc := 33) rfl rfl ?_
      refine tw_getR (pc := 34) rfl fl_CF_18 rfl rfl ?_
      refine tw_iload_n (pc := 37) rfl rfl ?_
      refine tw_iload_n (pc := 38) rfl rfl ?_
      refine tw_inv2 (pc := 39) rfl lk_CF_46 (Nat.le_of_ble_eq_true rfl) rfl rfl (sp_DM_methodAt hD1 ev ?_)
      refine tw_iload_n (pc := 42) rfl rfl ?_
      refine tw_iconst (pc := 43) rfl tw_ic_1 ?_
      refine tw_iadd (pc := 44) rfl ?_
      refine tw_inv2 (pc := 45) rfl lk_CF_50 (Nat.le_of_ble_eq_true rfl) rfl rfl (sp_CF_meetsInParts IH hGi hD hG hp hm hJ hc hd1 (Or.inl ⟨hmr, rfl⟩) ⟨fun zV MV rV kV aV bV => ?_, fun nV PV toV MV rV kV aV => ?_⟩)
      · refine tw_if_eq (pc := 48) (tgt := 53) rfl rfl (fun _ => ?_) (fun q => absurd q (by decide))
        refine tw_iincF (pc := 53) rfl rfl tw_ic_1 (Nat.le_of_ble_eq_true rfl) ⟨by omega, by omega⟩ (fun e4 => ?_)
        refine tw_goto (pc := 56) (tgt := 27) rfl rfl ?_
        have hpp2 : pathC MV (n + 1) P := fun i hi => by rw [bV i hi]; exact hp i hi
        have e1 : MV 1 = M 1 := kV 1 (by omega)
        have e20 : MV 20 = M 20 := kV 20 (by omega)
        have hcy := goP_J (V := vis G f (n + 1) P) (n := n + 1) (P := P) (c0 := f) (fun mk' s' hJ' _ h0' hs' => vis_J hGi f (n + 1) P mk' s' hJ' h0' hs') _ mz hin hJ hc
        rw [rV] at hcy
        rw [rV] at h
        have egl : gl MV s (j + 1) ((MV 20 s).toInt.toNat - (j + 1)) = gl M s (j + 1) ((M 20 s).toInt.toNat - (j + 1)) := by
          rw [e20]
          refine gl_congr (kV _ (by omega)) (kV _ (by omega)) _ _ (fun k h1 h2 => kV _ ?_)
          have := hD.2.2.2.2.2.2.2.1 s k hs (by omega)
          omega
        refine ih (j + 1) MV N zV _ (keepF_DR kV hD) (gOK_keep hD kV hG) hpp2 aV hcy.1 (Nat.le_trans hcy.2 hc) (by rw [e1]; exact hs) (by omega) (by omega) ?_
        rw [egl]
        exact ⟨fun mz2 M2 h2 hk2 hm2 hp2 => h.1 mz2 M2 h2 (kV.tr hk2) hm2 (fun i hi => (hp2 i hi).trans (bV i hi)), fun n' P' to M2 h2 hk2 hf2 => h.2 n' P' to M2 h2 (kV.tr hk2) hf2⟩
      · refine tw_if_eq (pc := 48) (tgt := 53) rfl rfl (fun q => absurd q (by decide)) (fun _ => ?_)
        refine tw_iconst (pc := 51) rfl tw_ic_1 ?_
        refine tw_ireturn (pc := 52) rfl rfl ?_
        rw [rV] at h
        exact h.2 nV PV toV MV rfl kV aV
    · have ev : mAt M t jv = -1 := by
        unfold mAt
        rw [es2]
        exact if_neg (by omega)
      have e0 : (M 20 s).toInt.toNat - j = 0 := by omega
      rw [e0] at h
      have z0 := tw_ti_0
      have z1 := tw_ti_1
      have z2 := tw_ti_2
      have z5 := tw_ti_5
      have z12 := tw_ti_12
      have z16 := tw_ti_16
      refine tw_iload_n (pc := 27) rfl rfl ?_
      refine tw_iconst (pc := 28) rfl tw_ic_5 ?_
      refine tw_icmp_ge (pc := 29) (tgt := 59) rfl rfl (fun c1 => absurd c1 (by omega)) (fun c1 => ?_)
      refine tw_aload_n (pc := 32) rfl rfl ?_
      refine tw_aload_n (pc := 33) rfl rfl ?_
      refine tw_getR (pc := 34) rfl fl_CF_18 rfl rfl ?_
      refine tw_iload_n (pc := 37) rfl rfl ?_
      refine tw_iload_n (pc := 38) rfl rfl ?_
      refine tw_inv2 (pc := 39) rfl lk_CF_46 (Nat.le_of_ble_eq_true rfl) rfl rfl (sp_DM_methodAt hD1 ev ?_)
      refine tw_iload_n (pc := 42) rfl rfl ?_
      refine tw_iconst (pc := 43) rfl tw_ic_1 ?_
      refine tw_iadd (pc := 44) rfl ?_
      refine tw_inv2 (pc := 45) rfl lk_CF_50 (Nat.le_of_ble_eq_true rfl) rfl rfl (sp_CF_meetsInParts IH hGi hD hG hp hm hJ hc hd1 (L := []) (Or.inr ⟨rfl, rfl⟩) ⟨fun zV MV rV kV aV bV => ?_, fun nV PV toV MV rV kV aV => ?_⟩)
      · refine tw_if_eq (pc := 48) (tgt := 53) rfl rfl (fun _ => ?_) (fun q => absurd q (by decide))
        refine tw_iincF (pc := 53) rfl rfl tw_ic_1 (Nat.le_of_ble_eq_true rfl) ⟨by omega, by omega⟩ (fun e4 => ?_)
        refine tw_goto (pc := 56) (tgt := 27) rfl rfl ?_
        have hpp2 : pathC MV (n + 1) P := fun i hi => by rw [bV i hi]; exact hp i hi
        have e1 : MV 1 = M 1 := kV 1 (by omega)
        have e20 : MV 20 = M 20 := kV 20 (by omega)
        have ez : zV = mz := by
          have := Sum.inr.inj rV
          exact this.symm
        subst ez
        refine ih (j + 1) MV N zV _ (keepF_DR kV hD) (gOK_keep hD kV hG) hpp2 aV hJ hc (by rw [e1]; exact hs) (by omega) (by omega) ?_
        rw [e20, show (M 20 s).toInt.toNat - (j + 1) = 0 by omega]
        exact ⟨fun mz2 M2 h2 hk2 hm2 hp2 => h.1 mz2 M2 h2 (kV.tr hk2) hm2 (fun i hi => (hp2 i hi).trans (bV i hi)), fun n' P' to M2 h2 hk2 hf2 => h.2 n' P' to M2 h2 (kV.tr hk2) hf2⟩
      · refine tw_if_eq (pc := 48) (tgt := 53) rfl rfl (fun q => absurd q (by decide)) (fun _ => ?_)
        refine tw_iconst (pc := 51) rfl tw_ic_1 ?_
        refine tw_ireturn (pc := 52) rfl rfl ?_
        cases rV
theorem sp_CF_visit {d : Nat} {G : Nat → List (List Int32)} (hGi : ∀ s, s < 12 → ∀ l ∈ G s, cyIn 12 l) : ∀ f, visOK G f (3 * f + d + 4) := by
  intro f
  induction f with
  | zero =>
    intro M N n P mz s t dp Q hD hG hp hm hJ hc h0 hs ht hd h
    have h8 := hD.1.2.1
    have := cn_pos h0 12 (by omega)
    omega
  | succ f IH =>
    intro M N n P mz s t dp Q hD hG hp hm hJ hc h0 hs ht hd h
    have h8 := hD.1.2.1
    have hs12 : s < 12 := by omega
    have hpos := cn_pos h0 12 hs12
    have hn12 : n < 12 := by have := hJ.2.2; omega
    have es : (t - 16).toInt = (s : Int) := by rw [tw_subI (by rw [tw_ti_16]; omega), tw_ti_16]; omega
    have es2 : (t - 16).toInt.toNat = s := by omega
    have ed : dp.toInt.toNat = n := by omega
    have hlt := cn_upd_lt (mz := mz) (s := s) (x := 1) (by decide) h0 12 hs12
    have hk1 : keepF M (tw_set (tw_set M 68 s 1) 69 n t) := fun q hq => by rw [tw_set_q _ _ (by omega), tw_set_q _ _ (by omega)]
    have hm1 : markC (tw_set (tw_set M 68 s 1) 69 n t) (upd mz s 1) := by
      intro k hk
      show (if 68 = 68 ∧ k = s then 1 else M 68 k) = upd mz s 1 k
      by_cases e : k = s
      · simp [upd, e]
      · simp [upd, e, hm k hk]
    have hp1 : pathC (tw_set (tw_set M 68 s 1) 69 n t) (n + 1) (cy_ext n P s) := by
      intro i hi
      by_cases e : i = n
      · subst e
        rw [tw_set_s, ht]
        simp [cy_ext]
      · rw [tw_set_k _ _ e]
        show (M 69 i).toInt = _
        rw [hp i (by omega)]
        simp [cy_ext, e]
    have e0 : gl (tw_set (tw_set M 68 s 1) 69 n t) s 0 (((tw_set (tw_set M 68 s 1) 69 n t) 20 s).toInt.toNat - 0) = G s := by
      rw [(gOK_keep hD hk1 hG) s hs]
      rfl
    simp only [vis] at h
    have lev : 3 * (f + 1) + d + 4 = (3 * f + d + 3) + 4 := by omega
    rw [lev]
    have IH2 : visOK G f ((3 * f + d + 3) + 1) := IH
    refine tw_enter pn_CF dc_CF_visit (Nat.le_of_ble_eq_true rfl) ?_
    have z0 := tw_ti_0
    have z1 := tw_ti_1
    have z2 := tw_ti_2
    have z5 := tw_ti_5
    have z12 := tw_ti_12
    have z16 := tw_ti_16
    refine tw_iload_n (pc := 0) rfl rfl ?_
    refine tw_bipush (pc := 1) rfl tw_bi_12 ?_
    refine tw_icmp_lt (pc := 3) (tgt := 8) rfl rfl (fun c1 => ?_) (fun c1 => absurd c1 (by omega))
    refine tw_aload_n (pc := 8) rfl rfl ?_
    refine tw_getR (pc := 9) rfl fl_CF_9 rfl rfl ?_
    refine tw_iload_n (pc := 12) rfl rfl ?_
    refine tw_bipush (pc := 13) rfl tw_bi_16 ?_
    refine tw_isubF (pc := 15) rfl ⟨by omega, by omega⟩ (fun e2 => ?_)
    refine tw_iconst (pc := 16) rfl tw_ic_1 ?_
    refine tw_iast (pc := 17) rfl rfl ⟨by omega, by omega⟩ ?_
    refine tw_aload_n (pc := 18) rfl rfl ?_
    refine tw_getR (pc := 19) rfl fl_CF_15 rfl rfl ?_
    refine tw_iload_n (pc := 22) rfl rfl ?_
    refine tw_iload_n (pc := 23) rfl rfl ?_
    refine tw_iast (pc := 24) rfl rfl ⟨by omega, by omega⟩ ?_
    refine tw_iconst (pc := 25) rfl tw_ic_0 ?_
    refine tw_istore_n (pc := 26) rfl (Nat.le_of_ble_eq_true rfl) ?_
    rw [es2, ed]
    refine lp_CF_visit IH2 hGi (P := cy_ext n P s) hs12 hn12 hd ht 5 0 _ N (upd mz s 1) _ (keepF_DR hk1 hD) (gOK_keep hD hk1 hG) hp1 hm1 (ext_J hJ h0 hs12) (by omega) hs (by rw [z0]; rfl) (by omega) ?_
    rw [e0]
    refine ⟨fun mz2 M2 h2 hk2 hm2 hp2 => h.1 (upd mz2 s 2) (tw_set M2 68 s 2) (by rw [h2]; rfl) (fun q hq => by rw [tw_set_q _ _ (by omega)]; exact (hk1.tr hk2) q hq) ?_ ?_, fun n' P' to M2 h2 hk2 hf2 => h.2 n' P' to M2 (by rw [h2]; rfl) (hk1.tr hk2) hf2⟩
    · intro k hk
      show (if 68 = 68 ∧ k = s then 2 else M2 68 k) = upd mz2 s 2 k
      by_cases e : k = s
      · simp [upd, e]
      · simp [upd, e, hm2 k hk]
    · intro i hi
      rw [tw_set_q _ _ (by omega), hp2 i (by omega), tw_set_k _ _ (by omega)]
      rfl
