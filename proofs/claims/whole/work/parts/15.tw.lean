def disc (M : tw_M) : tw_M := tw_set (tw_set (tw_set (tw_set (tw_set M 70 12 (-1)) 70 11 0) 70 8 0) 70 9 0) 82 4 0
theorem sp_TW_afterChange {d : Nat} {M : tw_M} {Q : tw_P} {a : Int32} (h0 : a = -1 → Q (some a) M) (h1 : ¬ a = -1 → Q (some a) (disc M)) : tw_C (d + 3) j_TW_afterChange [.inr 0, .inl a] M Q := by
  refine tw_enter pn_TW dc_TW_afterChange (Nat.le_of_ble_eq_true rfl) ?_
  have zm1 := tw_ti_m1
  refine tw_iload_n (pc := 0) rfl rfl ?_
  refine tw_iconst (pc := 1) rfl tw_ic_m1 ?_
  refine tw_icmp_eq (pc := 2) (tgt := 19) rfl rfl (fun c1 => ?_) (fun c1 => ?_)
  · refine tw_iload_n (pc := 19) rfl rfl ?_
    refine tw_ireturn (pc := 20) rfl rfl ?_
    exact h0 c1.1
  · refine tw_aload_n (pc := 5) rfl rfl ?_
    refine tw_getR (pc := 6) rfl fl_TW_28 rfl rfl ?_
    refine tw_inv0 (pc := 9) rfl lk_TW_130 (Nat.le_of_ble_eq_true rfl) rfl rfl (sp_SE_discard ?_)
    refine tw_aload_n (pc := 12) rfl rfl ?_
    refine tw_getR (pc := 13) rfl fl_TW_35 rfl rfl ?_
    refine tw_inv0 (pc := 16) rfl lk_TW_133 (Nat.le_of_ble_eq_true rfl) rfl rfl (sp_CK_discard ?_)
    refine tw_iload_n (pc := 19) rfl rfl ?_
    refine tw_ireturn (pc := 20) rfl rfl ?_
    exact h1 c1.1
theorem sp_TW_primitive {d : Nat} {M : tw_M} {Q : tw_P} {n l a r c : Int32} (hD : DI M) (h1 : (0 ≤ n.toInt ∧ n.toInt ≤ 65535) ∧ (0 ≤ l.toInt ∧ l.toInt ≤ 65535) ∧ (0 ≤ a.toInt ∧ a.toInt ≤ 65535) ∧ (0 ≤ r.toInt ∧ r.toInt ≤ 65535) ∧ (0 ≤ c.toInt ∧ c.toInt ≤ 100) ∧ (M 1 5).toInt < 12 → Q (some (M 1 5)) (disc (tw_set (tw_set (tw_set (tw_set (tw_set (tw_set M 2 (M 1 5).toInt.toNat n) 3 (M 1 5).toInt.toNat l) 4 (M 1 5).toInt.toNat a) 5 (M 1 5).toInt.toNat r) 6 (M 1 5).toInt.toNat c) 1 5 (M 1 5 + 1)))) (h0 : ¬ ((0 ≤ n.toInt ∧ n.toInt ≤ 65535) ∧ (0 ≤ l.toInt ∧ l.toInt ≤ 65535) ∧ (0 ≤ a.toInt ∧ a.toInt ≤ 65535) ∧ (0 ≤ r.toInt ∧ r.toInt ≤ 65535) ∧ (0 ≤ c.toInt ∧ c.toInt ≤ 100) ∧ (M 1 5).toInt < 12) → Q (some (-1)) M) : tw_C (d + 4) j_TW_primitive [.inr 0, .inl n, .inl l, .inl a, .inl r, .inl c] M Q := by
  have zzm : (-1 : Int32).toInt = -1 := by decide
  have hne : ¬ M 1 5 = -1 := fun z => by
    have z2 := congrArg Int32.toInt z
    rw [zzm] at z2
    have := hD.1; omega

  refine tw_enter pn_TW dc_TW_primitive (Nat.le_of_ble_eq_true rfl) ?_
  refine tw_aload_n (pc := 0) rfl rfl ?_
  refine tw_aload_n (pc := 1) rfl rfl ?_
  refine tw_getR (pc := 2) rfl fl_TW_12 rfl rfl ?_
  refine tw_iload_n (pc := 5) rfl rfl ?_
  refine tw_iload_n (pc := 6) rfl rfl ?_
  refine tw_iload_n (pc := 7) rfl rfl ?_
  refine tw_iload (pc := 8) rfl rfl ?_
  refine tw_iload (pc := 10) rfl rfl ?_
  refine tw_inv5 (pc := 12) rfl lk_TW_39 (Nat.le_of_ble_eq_true rfl) rfl rfl (sp_DM_addPrimitive hD (fun c1 => ?_) (fun c1 => ?_))
  · refine tw_inv1 (pc := 15) rfl lk_TW_43 (Nat.le_of_ble_eq_true rfl) rfl rfl (sp_TW_afterChange (fun q => absurd q hne) (fun _ => ?_))
    refine tw_ireturn (pc := 18) rfl rfl ?_
    exact h1 (by assumption)
  · refine tw_inv1 (pc := 15) rfl lk_TW_43 (Nat.le_of_ble_eq_true rfl) rfl rfl (sp_TW_afterChange (fun _ => ?_) (fun q => absurd rfl q))
    refine tw_ireturn (pc := 18) rfl rfl ?_
    exact h0 (by assumption)
theorem sp_TW_compound {d : Nat} {M : tw_M} {Q : tw_P} (hD : DI M) (h1 : (M 1 8).toInt < 12 → Q (some (16 + M 1 8)) (disc (tw_set M 1 8 (M 1 8 + 1)))) (h0 : ¬ ((M 1 8).toInt < 12) → Q (some (-1)) M) : tw_C (d + 4) j_TW_compound [.inr 0] M Q := by
  have zzm : (-1 : Int32).toInt = -1 := by decide
  have hne : ¬ (16 + M 1 8) = -1 := fun z => by
    have z2 := congrArg Int32.toInt z
    rw [zzm] at z2
    rw [tw_addI (by rw [tw_ti_16]; have := hD.2.1; omega), tw_ti_16] at z2
    have := hD.2.1
    omega

  refine tw_enter pn_TW dc_TW_compound (Nat.le_of_ble_eq_true rfl) ?_
  refine tw_aload_n (pc := 0) rfl rfl ?_
  refine tw_aload_n (pc := 1) rfl rfl ?_
  refine tw_getR (pc := 2) rfl fl_TW_12 rfl rfl ?_
  refine tw_inv0 (pc := 5) rfl lk_TW_47 (Nat.le_of_ble_eq_true rfl) rfl rfl (sp_DM_addCompound hD (fun c1 => ?_) (fun c1 => ?_))
  · refine tw_inv1 (pc := 8) rfl lk_TW_43 (Nat.le_of_ble_eq_true rfl) rfl rfl (sp_TW_afterChange (fun q => absurd q hne) (fun _ => ?_))
    refine tw_ireturn (pc := 11) rfl rfl ?_
    exact h1 (by assumption)
  · refine tw_inv1 (pc := 8) rfl lk_TW_43 (Nat.le_of_ble_eq_true rfl) rfl rfl (sp_TW_afterChange (fun _ => ?_) (fun q => absurd rfl q))
    refine tw_ireturn (pc := 11) rfl rfl ?_
    exact h0 (by assumption)
theorem sp_TW_method {d : Nat} {M : tw_M} {Q : tw_P} {t n l : Int32} (hD : DI M) (h1 : (16 ≤ t.toInt ∧ t.toInt < 16 + (M 1 8).toInt) ∧ (0 ≤ n.toInt ∧ n.toInt ≤ 65535) ∧ (0 ≤ l.toInt ∧ l.toInt ≤ 65535) ∧ (M 1 14).toInt < 40 ∧ (M 20 (t - 16).toInt.toNat).toInt < 5 → Q (some (M 1 14)) (disc (tw_set (tw_set (tw_set (tw_set (tw_set (tw_set M 21 (M 1 14).toInt.toNat t) 22 (M 1 14).toInt.toNat n) 23 (M 1 14).toInt.toNat l) 1 14 (M 1 14 + 1)) (8 + (t - 16).toInt.toNat) (M 20 (t - 16).toInt.toNat).toInt.toNat (M 1 14)) 20 (t - 16).toInt.toNat ((M 20 (t - 16).toInt.toNat) + 1)))) (h0 : ¬ ((16 ≤ t.toInt ∧ t.toInt < 16 + (M 1 8).toInt) ∧ (0 ≤ n.toInt ∧ n.toInt ≤ 65535) ∧ (0 ≤ l.toInt ∧ l.toInt ≤ 65535) ∧ (M 1 14).toInt < 40 ∧ (M 20 (t - 16).toInt.toNat).toInt < 5) → Q (some (-1)) M) : tw_C (d + 4) j_TW_method [.inr 0, .inl t, .inl n, .inl l] M Q := by
  have zzm : (-1 : Int32).toInt = -1 := by decide
  have hne : ¬ M 1 14 = -1 := fun z => by
    have z2 := congrArg Int32.toInt z
    rw [zzm] at z2
    have := hD.2.2.1; omega

  refine tw_enter pn_TW dc_TW_method (Nat.le_of_ble_eq_true rfl) ?_
  refine tw_aload_n (pc := 0) rfl rfl ?_
  refine tw_aload_n (pc := 1) rfl rfl ?_
  refine tw_getR (pc := 2) rfl fl_TW_12 rfl rfl ?_
  refine tw_iload_n (pc := 5) rfl rfl ?_
  refine tw_iload_n (pc := 6) rfl rfl ?_
  refine tw_iload_n (pc := 7) rfl rfl ?_
  refine tw_inv3 (pc := 8) rfl lk_TW_51 (Nat.le_of_ble_eq_true rfl) rfl rfl (sp_DM_addMethod hD (fun c1 => ?_) (fun c1 => ?_))
  · refine tw_inv1 (pc := 11) rfl lk_TW_43 (Nat.le_of_ble_eq_true rfl) rfl rfl (sp_TW_afterChange (fun q => absurd q hne) (fun _ => ?_))
    refine tw_ireturn (pc := 14) rfl rfl ?_
    exact h1 (by assumption)
  · refine tw_inv1 (pc := 11) rfl lk_TW_43 (Nat.le_of_ble_eq_true rfl) rfl rfl (sp_TW_afterChange (fun _ => ?_) (fun q => absurd rfl q))
    refine tw_ireturn (pc := 14) rfl rfl ?_
    exact h0 (by assumption)
theorem sp_TW_part {d : Nat} {M : tw_M} {Q : tw_P} {m t : Int32} (hD : DI M) (h1 : (0 ≤ m.toInt ∧ m.toInt < (M 1 14).toInt) ∧ ((0 ≤ t.toInt ∧ t.toInt < (M 1 5).toInt) ∨ (16 ≤ t.toInt ∧ t.toInt < 16 + (M 1 8).toInt)) ∧ (M 65 m.toInt.toNat).toInt < 5 → Q (some (M 65 m.toInt.toNat + 1)) (disc (tw_set (tw_set M (25 + m.toInt.toNat) (M 65 m.toInt.toNat).toInt.toNat t) 65 m.toInt.toNat (M 65 m.toInt.toNat + 1)))) (h0 : ¬ ((0 ≤ m.toInt ∧ m.toInt < (M 1 14).toInt) ∧ ((0 ≤ t.toInt ∧ t.toInt < (M 1 5).toInt) ∨ (16 ≤ t.toInt ∧ t.toInt < 16 + (M 1 8).toInt)) ∧ (M 65 m.toInt.toNat).toInt < 5) → Q (some (-1)) M) : tw_C (d + 5) j_TW_part [.inr 0, .inl m, .inl t] M Q := by
  refine tw_enter pn_TW dc_TW_part (Nat.le_of_ble_eq_true rfl) ?_
  refine tw_aload_n (pc := 0) rfl rfl ?_
  refine tw_aload_n (pc := 1) rfl rfl ?_
  refine tw_getR (pc := 2) rfl fl_TW_12 rfl rfl ?_
  refine tw_iload_n (pc := 5) rfl rfl ?_
  refine tw_iload_n (pc := 6) rfl rfl ?_
  refine tw_inv2 (pc := 7) rfl lk_TW_55 (Nat.le_of_ble_eq_true rfl) rfl rfl (sp_DM_addPart hD (fun c1 => ?_) (fun c1 => ?_))
  · have hne : ¬ (M 65 m.toInt.toNat + 1) = -1 := fun z => by
      have z2 := congrArg Int32.toInt z
      rw [tw_ti_m1] at z2
      rw [tw_addI (by rw [tw_ti_1]; have := hD.2.2.2.2.2 m.toInt.toNat (by have := hD.2.2.1; omega); omega), tw_ti_1] at z2
      have := hD.2.2.2.2.2 m.toInt.toNat (by have := hD.2.2.1; omega)
      omega
    refine tw_inv1 (pc := 10) rfl lk_TW_43 (Nat.le_of_ble_eq_true rfl) rfl rfl (sp_TW_afterChange (fun q => absurd q hne) (fun _ => ?_))
    refine tw_ireturn (pc := 13) rfl rfl ?_
    exact h1 (by assumption)
  · skip
    refine tw_inv1 (pc := 10) rfl lk_TW_43 (Nat.le_of_ble_eq_true rfl) rfl rfl (sp_TW_afterChange (fun _ => ?_) (fun q => absurd rfl q))
    refine tw_ireturn (pc := 13) rfl rfl ?_
    exact h0 (by assumption)
theorem sp_TW_start {d : Nat} {M : tw_M} {Q : tw_P} {f : Int32} (hD : DI M) (h1 : (0 ≤ f.toInt ∧ f.toInt ≤ 65535) → Q (some 1) (disc (tw_set M 1 17 f))) (h0 : ¬ ((0 ≤ f.toInt ∧ f.toInt ≤ 65535)) → Q (some 0) M) : tw_C (d + 4) j_TW_start [.inr 0, .inl f] M Q := by
  refine tw_enter pn_TW dc_TW_start (Nat.le_of_ble_eq_true rfl) ?_
  have zm1 := tw_ti_m1
  have z0 := tw_ti_0
  have z1 := tw_ti_1
  refine tw_aload_n (pc := 0) rfl rfl ?_
  refine tw_aload_n (pc := 1) rfl rfl ?_
  refine tw_getR (pc := 2) rfl fl_TW_12 rfl rfl ?_
  refine tw_iload_n (pc := 5) rfl rfl ?_
  refine tw_inv1 (pc := 6) rfl lk_TW_59 (Nat.le_of_ble_eq_true rfl) rfl rfl (sp_DM_setStart hD (fun c1 => ?_) (fun c1 => ?_))
  · have hne : ¬ f = -1 := fun z => by
      have z2 := congrArg Int32.toInt z
      rw [tw_ti_m1] at z2
      omega
    refine tw_inv1 (pc := 9) rfl lk_TW_43 (Nat.le_of_ble_eq_true rfl) rfl rfl (sp_TW_afterChange (fun q => absurd q hne) (fun _ => ?_))
    refine tw_iconst (pc := 12) rfl tw_ic_m1 ?_
    refine tw_icmp_eq (pc := 13) (tgt := 20) rfl rfl (fun c3 => absurd c3.1 hne) (fun c3 => ?_)
    refine tw_iconst (pc := 16) rfl tw_ic_1 ?_
    refine tw_goto (pc := 17) (tgt := 21) rfl rfl ?_
    refine tw_ireturn (pc := 21) rfl rfl ?_
    exact h1 (by assumption)
  · skip
    refine tw_inv1 (pc := 9) rfl lk_TW_43 (Nat.le_of_ble_eq_true rfl) rfl rfl (sp_TW_afterChange (fun _ => ?_) (fun q => absurd rfl q))
    refine tw_iconst (pc := 12) rfl tw_ic_m1 ?_
    refine tw_icmp_eq (pc := 13) (tgt := 20) rfl rfl (fun _ => ?_) (fun q => absurd q (by decide))
    refine tw_iconst (pc := 20) rfl tw_ic_0 ?_
    refine tw_ireturn (pc := 21) rfl rfl ?_
    exact h0 (by assumption)
theorem sp_TW_aim {d : Nat} {M : tw_M} {Q : tw_P} {t : Int32} (hD : DI M) (h1 : ((0 ≤ t.toInt ∧ t.toInt < (M 1 5).toInt) ∨ (16 ≤ t.toInt ∧ t.toInt < 16 + (M 1 8).toInt)) ∧ (M 1 16).toInt < 6 → Q (some (M 1 16 + 1)) (disc (tw_set (tw_set M 66 (M 1 16).toInt.toNat t) 1 16 (M 1 16 + 1)))) (h0 : ¬ (((0 ≤ t.toInt ∧ t.toInt < (M 1 5).toInt) ∨ (16 ≤ t.toInt ∧ t.toInt < 16 + (M 1 8).toInt)) ∧ (M 1 16).toInt < 6) → Q (some (-1)) M) : tw_C (d + 5) j_TW_aim [.inr 0, .inl t] M Q := by
  have zzm : (-1 : Int32).toInt = -1 := by decide
  have hne : ¬ (M 1 16 + 1) = -1 := fun z => by
    have z2 := congrArg Int32.toInt z
    rw [zzm] at z2
    rw [tw_addI (by rw [tw_ti_1]; have := hD.2.2.2.1; omega), tw_ti_1] at z2
    have := hD.2.2.2.1
    omega

  refine tw_enter pn_TW dc_TW_aim (Nat.le_of_ble_eq_true rfl) ?_
  refine tw_aload_n (pc := 0) rfl rfl ?_
  refine tw_aload_n (pc := 1) rfl rfl ?_
  refine tw_getR (pc := 2) rfl fl_TW_12 rfl rfl ?_
  refine tw_iload_n (pc := 5) rfl rfl ?_
  refine tw_inv1 (pc := 6) rfl lk_TW_62 (Nat.le_of_ble_eq_true rfl) rfl rfl (sp_DM_addAim hD (fun c1 => ?_) (fun c1 => ?_))
  · refine tw_inv1 (pc := 9) rfl lk_TW_43 (Nat.le_of_ble_eq_true rfl) rfl rfl (sp_TW_afterChange (fun q => absurd q hne) (fun _ => ?_))
    refine tw_ireturn (pc := 12) rfl rfl ?_
    exact h1 (by assumption)
  · refine tw_inv1 (pc := 9) rfl lk_TW_43 (Nat.le_of_ble_eq_true rfl) rfl rfl (sp_TW_afterChange (fun _ => ?_) (fun q => absurd rfl q))
    refine tw_ireturn (pc := 12) rfl rfl ?_
    exact h0 (by assumption)
theorem sp_TW_forget {d : Nat} {M : tw_M} {Q : tw_P} (hD : DI M) (h : Q (some (M 1 16)) (disc (tw_set M 1 16 0))) : tw_C (d + 4) j_TW_forget [.inr 0] M Q := by
  have zzm : (-1 : Int32).toInt = -1 := by decide
  have hne : ¬ M 1 16 = -1 := fun z => by
    have z2 := congrArg Int32.toInt z
    rw [zzm] at z2
    have := hD.2.2.2.1; omega

  refine tw_enter pn_TW dc_TW_forget (Nat.le_of_ble_eq_true rfl) ?_
  refine tw_aload_n (pc := 0) rfl rfl ?_
  refine tw_aload_n (pc := 1) rfl rfl ?_
  refine tw_getR (pc := 2) rfl fl_TW_12 rfl rfl ?_
  refine tw_inv0 (pc := 5) rfl lk_TW_65 (Nat.le_of_ble_eq_true rfl) rfl rfl (sp_DM_clearAims ?_)
  refine tw_inv1 (pc := 8) rfl lk_TW_43 (Nat.le_of_ble_eq_true rfl) rfl rfl (sp_TW_afterChange (fun q => absurd q hne) (fun _ => ?_))
  refine tw_ireturn (pc := 11) rfl rfl ?_
  exact h
