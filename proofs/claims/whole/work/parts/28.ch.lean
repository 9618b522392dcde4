theorem mk0_J : cyJ 0 (fun _ => 0) (fun _ => 0) ∧ cn (fun _ => 0) 12 ≤ 12 := by
  refine ⟨⟨fun x => ⟨fun h => absurd (show (0 : Int32) = 1 from h) (by decide), fun ⟨i, hi, _⟩ => absurd hi (by omega)⟩, fun i j hi => absurd hi (by omega), ?_⟩, ?_⟩
  · decide
  · decide
theorem lp_CF_top {l : Nat} {G : Nat → List (List Int32)} (IH : visOK G 12 (l + 1)) (hGi : ∀ s, s < 12 → ∀ l ∈ G s, cyIn 12 l) {Q : tw_P} : ∀ (r i : Nat) (M N : tw_M) (mz : Nat → Int32) (iv : Int32) (x : Option tw_V), DR M N → gOK M G → markC M mz → cyJ 0 (fun _ => 0) mz → iv.toInt = (i : Int) → i + r = 12 → cyQ M 0 (cy_top G ((M 1 8).toInt.toNat - i) i mz) Q → tw_T none (l + 2) j_CF_isCyclic M 23 [some (.inr 67), some (.inl iv), x] [] Q := by
  intro r
  induction r with
  | zero =>
    intro i M N mz iv x hD hG hm hJ hi hr h
    have h8 := hD.1.2.1
    have e0 : (M 1 8).toInt.toNat - i = 0 := by omega
    rw [e0] at h
    have z0 := tw_ti_0
    have z1 := tw_ti_1
    have z12 := tw_ti_12
    have z16 := tw_ti_16
    refine tw_iload_n (pc := 23) rfl rfl ?_
    refine tw_bipush (pc := 24) rfl tw_bi_12 ?_
    refine tw_icmp_ge (pc := 26) (tgt := 62) rfl rfl (fun c1 => ?_) (fun c1 => absurd c1 (by omega))
    refine tw_iconst (pc := 62) rfl tw_ic_0 ?_
    refine tw_ireturn (pc := 63) rfl rfl ?_
    exact h.1 mz M rfl (keepF_rf M) hm (fun _ _ => rfl)
  | succ r ih =>
    intro i M N mz iv x hD hG hm hJ hi hr h
    have hD1 := hD.1
    have h8 := hD.1.2.1
    have hp0 : pathC M 0 (fun _ => 0) := fun k hk => absurd hk (by omega)
    have hcn : cn mz 12 ≤ 12 := by have := hJ.2.2; omega
    have z0 := tw_ti_0
    have z1 := tw_ti_1
    have z12 := tw_ti_12
    have z16 := tw_ti_16
    refine tw_iload_n (pc := 23) rfl rfl ?_
    refine tw_bipush (pc := 24) rfl tw_bi_12 ?_
    refine tw_icmp_ge (pc := 26) (tgt := 62) rfl rfl (fun c1 => absurd c1 (by omega)) (fun c1 => ?_)
    refine tw_bipush (pc := 29) rfl tw_bi_16 ?_
    refine tw_iload_n (pc := 31) rfl rfl ?_
    refine tw_iaddF (pc := 32) rfl ⟨by omega, by omega⟩ (fun e2 => ?_)
    refine tw_istore_n (pc := 33) rfl (Nat.le_of_ble_eq_true rfl) ?_
    have et : (16 + iv).toInt = 16 + (i : Int) := by omega
    refine tw_aload_n (pc := 34) rfl rfl ?_
    refine tw_getR (pc := 35) rfl fl_CF_18 rfl rfl ?_
    refine tw_iload_n (pc := 38) rfl rfl ?_
    refine tw_inv1 (pc := 39) rfl lk_CF_22 (Nat.le_of_ble_eq_true rfl) rfl rfl (sp_DM_isCompound hD1 (fun c3 => ?_) (fun c3 => ?_))
    · refine tw_if_eq (pc := 42) (tgt := 56) rfl rfl (fun q => absurd q (by decide)) (fun _ => ?_)
      have hlt : (i : Int) < (M 1 8).toInt := by omega
      have eg : cy_top G ((M 1 8).toInt.toNat - i) i mz = cy_then (cy_stp (vis G 12 0 (fun _ => 0)) 0 (fun _ => 0) mz i) (cy_top G ((M 1 8).toInt.toNat - (i + 1)) (i + 1)) := by
        rw [show (M 1 8).toInt.toNat - i = ((M 1 8).toInt.toNat - (i + 1)) + 1 by omega]
        rfl
      rw [eg] at h
      refine tw_aload_n (pc := 45) rfl rfl ?_
      refine tw_iload_n (pc := 46) rfl rfl ?_
      refine tw_iconst (pc := 47) rfl tw_ic_0 ?_
      refine tw_inv2 (pc := 48) rfl lk_CF_28 (Nat.le_of_ble_eq_true rfl) rfl rfl (sp_CF_meets IH (s := i) (n := 0) (P := (fun _ => 0)) hD hG hp0 hm hJ hcn hlt et (by rw [tw_ti_0]; rfl) ⟨fun zV MV rV kV aV bV => ?_, fun nV PV toV MV rV kV aV => ?_⟩)
      · refine tw_if_eq (pc := 51) (tgt := 56) rfl rfl (fun _ => ?_) (fun q => absurd q (by decide))
        refine tw_iincF (pc := 56) rfl rfl tw_ic_1 (Nat.le_of_ble_eq_true rfl) ⟨by omega, by omega⟩ (fun e5 => ?_)
        refine tw_goto (pc := 59) (tgt := 23) rfl rfl ?_
        have hcy := stp_J (V := vis G 12 0 (fun _ => 0)) (s := i) hJ (fun h0 => vis_J hGi 12 0 (fun _ => 0) mz _ hJ h0 (by omega))
        rw [rV] at hcy
        have e1 : MV 1 = M 1 := kV 1 (by omega)
        refine ih (i + 1) MV N zV _ _ (keepF_DR kV hD) (gOK_keep hD kV hG) aV hcy.1 (by omega) (by omega) ?_
        rw [e1]
        exact (cyQ_then h).1 zV MV rV kV aV bV
      · refine tw_if_eq (pc := 51) (tgt := 56) rfl rfl (fun q => absurd q (by decide)) (fun _ => ?_)
        refine tw_iconst (pc := 54) rfl tw_ic_1 ?_
        refine tw_ireturn (pc := 55) rfl rfl ?_
        exact (cyQ_then h).2 nV PV toV MV rV kV aV
    · refine tw_if_eq (pc := 42) (tgt := 56) rfl rfl (fun _ => ?_) (fun q => absurd q (by decide))
      refine tw_iincF (pc := 56) rfl rfl tw_ic_1 (Nat.le_of_ble_eq_true rfl) ⟨by omega, by omega⟩ (fun e6 => ?_)
      refine tw_goto (pc := 59) (tgt := 23) rfl rfl ?_
      have e0 : (M 1 8).toInt.toNat - i = 0 := by omega
      have e1 : (M 1 8).toInt.toNat - (i + 1) = 0 := by omega
      rw [e0] at h
      refine ih (i + 1) M N mz _ _ hD hG hm hJ (by omega) (by omega) ?_
      rw [e1]
      exact h
theorem lp_CF_zero {d : Nat} {Q : tw_P} {M0 : tw_M} {x : Option tw_V} (h : ∀ (M : tw_M) (iv : Int32), keepF M0 M → (∀ k, k < 12 → M 68 k = 0) → tw_T none d j_CF_isCyclic M 21 [some (.inr 67), some (.inl iv), x] [] Q) : ∀ (r i : Nat) (M : tw_M) (iv : Int32), iv.toInt = (i : Int) → i + r = 12 → keepF M0 M → (∀ k, k < i → M 68 k = 0) → tw_T none d j_CF_isCyclic M 2 [some (.inr 67), some (.inl iv), x] [] Q := by
  intro r
  induction r with
  | zero =>
    intro i M iv hi hr hk hz
    have z0 := tw_ti_0
    have z1 := tw_ti_1
    have z12 := tw_ti_12
    have z16 := tw_ti_16
    refine tw_iload_n (pc := 2) rfl rfl ?_
    refine tw_bipush (pc := 3) rfl tw_bi_12 ?_
    refine tw_icmp_ge (pc := 5) (tgt := 21) rfl rfl (fun c1 => ?_) (fun c1 => absurd c1 (by omega))
    exact h M iv hk (fun k hk2 => hz k (by omega))
  | succ r ih =>
    intro i M iv hi hr hk hz
    have ei : iv.toInt.toNat = i := by omega
    have z0 := tw_ti_0
    have z1 := tw_ti_1
    have z12 := tw_ti_12
    have z16 := tw_ti_16
    refine tw_iload_n (pc := 2) rfl rfl ?_
    refine tw_bipush (pc := 3) rfl tw_bi_12 ?_
    refine tw_icmp_ge (pc := 5) (tgt := 21) rfl rfl (fun c1 => absurd c1 (by omega)) (fun c1 => ?_)
    refine tw_aload_n (pc := 8) rfl rfl ?_
    refine tw_getR (pc := 9) rfl fl_CF_9 rfl rfl ?_
    refine tw_iload_n (pc := 12) rfl rfl ?_
    refine tw_iconst (pc := 13) rfl tw_ic_0 ?_
    refine tw_iast (pc := 14) rfl rfl ⟨by omega, by omega⟩ ?_
    refine tw_iincF (pc := 15) rfl rfl tw_ic_1 (Nat.le_of_ble_eq_true rfl) ⟨by omega, by omega⟩ (fun e2 => ?_)
    refine tw_goto (pc := 18) (tgt := 2) rfl rfl ?_
    refine ih (i + 1) _ _ (by omega) (by omega) (fun q hq => by rw [tw_set_q _ _ (by omega)]; exact hk q hq) (fun k hk2 => ?_)
    rw [ei]
    by_cases e : k = i
    · rw [e, tw_set_s]
    · rw [tw_set_k _ _ e]; exact hz k (by omega)
theorem sp_CF_isCyclic {d : Nat} {M N : tw_M} {Q : tw_P} (hD : DR M N) (h0 : ∀ M' mz', cy_top (Gr M) (M 1 8).toInt.toNat 0 (fun _ => 0) = .inr mz' → keepF M M' → Q (some 0) M') (h1 : ∀ n' P' to M', cy_top (Gr M) (M 1 8).toInt.toNat 0 (fun _ => 0) = .inl (n', P', to) → keepF M M' → foundC M' n' P' to → Q (some 1) M') : tw_C (d + 42) j_CF_isCyclic [.inr 67] M Q := by
  have hGi := Gr_in hD
  have hG : gOK M (Gr M) := fun _ _ => rfl
  have IH := sp_CF_visit (d := d) hGi 12
  have IH2 : visOK (Gr M) 12 ((3 * 12 + d + 3) + 1) := IH
  rw [show d + 42 = (3 * 12 + d + 3) + 3 by omega]
  refine tw_enter pn_CF dc_CF_isCyclic (Nat.le_of_ble_eq_true rfl) ?_
  have z0 := tw_ti_0
  have z1 := tw_ti_1
  have z12 := tw_ti_12
  have z16 := tw_ti_16
  refine tw_iconst (pc := 0) rfl tw_ic_0 ?_
  refine tw_istore_n (pc := 1) rfl (Nat.le_of_ble_eq_true rfl) ?_
  refine lp_CF_zero (M0 := M) (fun M2 iv2 hk2 hz2 => ?_) 12 0 M _ (by rw [z0]; rfl) (by omega) (keepF_rf M) (fun k hk => absurd hk (by omega))
  have z0 := tw_ti_0
  have z1 := tw_ti_1
  have z12 := tw_ti_12
  have z16 := tw_ti_16
  refine tw_iconst (pc := 21) rfl tw_ic_0 ?_
  refine tw_istore_n (pc := 22) rfl (Nat.le_of_ble_eq_true rfl) ?_
  refine lp_CF_top IH2 hGi 12 0 M2 N (fun _ => 0) _ _ (keepF_DR hk2 hD) (gOK_keep hD hk2 hG) hz2 mk0_J.1 (by rw [z0]; rfl) (by omega) ?_
  rw [hk2 1 (by omega)]
  exact ⟨fun mz' M' hr hk _ _ => h0 M' mz' hr (hk2.tr hk), fun n' P' to M' hr hk hf => h1 n' P' to M' hr (hk2.tr hk) hf⟩
theorem sp_CF_memberAt {d : Nat} {M : tw_M} {Q : tw_P} {k : Int32} {n : Nat} {P : Nat → Nat} {to i0 : Nat} (hn : n ≤ 12) (h4 : (M 67 4).toInt = (n : Int)) (h3 : (M 67 3).toInt = (i0 : Int)) (hi : i0 < n) (hp : pathC M n P) (h1 : ∀ v : Int32, 0 ≤ k.toInt → k.toInt < (n : Int) - (i0 : Int) → v.toInt = 16 + (P (i0 + k.toInt.toNat) : Int) → Q (some v) M) (h0 : ¬ (0 ≤ k.toInt ∧ k.toInt < (n : Int) - (i0 : Int)) → Q (some (-1)) M) : tw_C (d + 1) j_CF_memberAt [.inr 67, .inl k] M Q := by
  refine tw_enter pn_CF dc_CF_memberAt (Nat.le_of_ble_eq_true rfl) ?_
  have zm1 := tw_ti_m1
  have z0 := tw_ti_0
  refine tw_iload_n (pc := 0) rfl rfl ?_
  refine tw_if_lt (pc := 1) (tgt := 31) rfl rfl (fun c1 => ?_) (fun c1 => ?_)
  · refine tw_iconst (pc := 31) rfl tw_ic_m1 ?_
    refine tw_ireturn (pc := 32) rfl rfl ?_
    exact h0 (by omega)
  · refine tw_iload_n (pc := 4) rfl rfl ?_
    refine tw_aload_n (pc := 5) rfl rfl ?_
    refine tw_getV (pc := 6) (v := (M 67 4)) rfl fl_CF_32 rfl rfl rfl ?_
    refine tw_aload_n (pc := 9) rfl rfl ?_
    refine tw_getV (pc := 10) (v := (M 67 3)) rfl fl_CF_36 rfl rfl rfl ?_
    refine tw_isubF (pc := 13) rfl ⟨by omega, by omega⟩ (fun e2 => ?_)
    refine tw_icmp_ge (pc := 14) (tgt := 31) rfl rfl (fun c3 => ?_) (fun c3 => ?_)
    · refine tw_iconst (pc := 31) rfl tw_ic_m1 ?_
      refine tw_ireturn (pc := 32) rfl rfl ?_
      exact h0 (by omega)
    · refine tw_aload_n (pc := 17) rfl rfl ?_
      refine tw_getR (pc := 18) rfl fl_CF_15 rfl rfl ?_
      refine tw_aload_n (pc := 21) rfl rfl ?_
      refine tw_getV (pc := 22) (v := (M 67 3)) rfl fl_CF_36 rfl rfl rfl ?_
      refine tw_iload_n (pc := 25) rfl rfl ?_
      refine tw_iaddF (pc := 26) rfl ⟨by omega, by omega⟩ (fun e4 => ?_)
      refine tw_iald (pc := 27) rfl rfl ⟨by omega, by omega⟩ ?_
      refine tw_goto (pc := 28) (tgt := 32) rfl rfl ?_
      refine tw_ireturn (pc := 32) rfl rfl ?_
      refine h1 _ (by omega) (by omega) ?_
      have hpp := hp (i0 + k.toInt.toNat) (by omega)
      rw [← hpp]
      congr 2
      omega
