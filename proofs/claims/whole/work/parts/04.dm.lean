theorem tw_ic_m1 : Int32.ofInt (-1) = (-1) := by decide
theorem tw_ic_0 : Int32.ofInt 0 = 0 := by decide
theorem tw_ic_1 : Int32.ofInt 1 = 1 := by decide
theorem tw_ic_2 : Int32.ofInt 2 = 2 := by decide
theorem tw_ic_3 : Int32.ofInt 3 = 3 := by decide
theorem tw_ic_4 : Int32.ofInt 4 = 4 := by decide
theorem tw_ic_5 : Int32.ofInt 5 = 5 := by decide
theorem tw_bi_6 : (Int8.ofInt 6).toInt32 = 6 := by decide
theorem tw_bi_12 : (Int8.ofInt 12).toInt32 = 12 := by decide
theorem tw_bi_15 : (Int8.ofInt 15).toInt32 = 15 := by decide
theorem tw_bi_16 : (Int8.ofInt 16).toInt32 = 16 := by decide
theorem tw_bi_40 : (Int8.ofInt 40).toInt32 = 40 := by decide
theorem tw_bi_48 : (Int8.ofInt 48).toInt32 = 48 := by decide
theorem tw_bi_100 : (Int8.ofInt 100).toInt32 = 100 := by decide
theorem tw_si_246 : (Int16.ofInt 246).toInt32 = 246 := by decide
theorem tw_si_250 : (Int16.ofInt 250).toInt32 = 250 := by decide
theorem tw_si_5000 : (Int16.ofInt 5000).toInt32 = 5000 := by decide
theorem tw_ti_m1 : (-1 : Int32).toInt = -1 := by decide
theorem tw_ti_0 : (0 : Int32).toInt = 0 := by decide
theorem tw_ti_1 : (1 : Int32).toInt = 1 := by decide
theorem tw_ti_2 : (2 : Int32).toInt = 2 := by decide
theorem tw_ti_3 : (3 : Int32).toInt = 3 := by decide
theorem tw_ti_4 : (4 : Int32).toInt = 4 := by decide
theorem tw_ti_5 : (5 : Int32).toInt = 5 := by decide
theorem tw_ti_6 : (6 : Int32).toInt = 6 := by decide
theorem tw_ti_12 : (12 : Int32).toInt = 12 := by decide
theorem tw_ti_15 : (15 : Int32).toInt = 15 := by decide
theorem tw_ti_16 : (16 : Int32).toInt = 16 := by decide
theorem tw_ti_40 : (40 : Int32).toInt = 40 := by decide
theorem tw_ti_48 : (48 : Int32).toInt = 48 := by decide
theorem tw_ti_100 : (100 : Int32).toInt = 100 := by decide
theorem tw_ti_246 : (246 : Int32).toInt = 246 := by decide
theorem tw_ti_250 : (250 : Int32).toInt = 250 := by decide
theorem tw_ti_5000 : (5000 : Int32).toInt = 5000 := by decide
theorem tw_ti_65535 : (65535 : Int32).toInt = 65535 := by decide
def DI (M : tw_M) : Prop := (0 ≤ (M 1 5).toInt ∧ (M 1 5).toInt ≤ 12) ∧ (0 ≤ (M 1 8).toInt ∧ (M 1 8).toInt ≤ 12) ∧ (0 ≤ (M 1 14).toInt ∧ (M 1 14).toInt ≤ 40) ∧ (0 ≤ (M 1 16).toInt ∧ (M 1 16).toInt ≤ 6) ∧ (∀ k, k < 12 → 0 ≤ (M 20 k).toInt ∧ (M 20 k).toInt ≤ 5) ∧ (∀ k, k < 40 → 0 ≤ (M 65 k).toInt ∧ (M 65 k).toInt ≤ 5)
abbrev pH (n l f : Int32) : Prop := f &&& n = n ∧ f &&& l = 0
abbrev pDo (M : tw_M) (t f : Int32) : Prop := (0 ≤ t.toInt ∧ t.toInt < (M 1 5).toInt) ∧ pH (M 2 t.toInt.toNat) (M 3 t.toInt.toNat) f
abbrev pMH (M : tw_M) (m f : Int32) : Prop := (0 ≤ m.toInt ∧ m.toInt < (M 1 14).toInt) ∧ pH (M 22 m.toInt.toNat) (M 23 m.toInt.toNat) f
def fAfter (M : tw_M) (t f : Int32) : Int32 := if 0 ≤ t.toInt ∧ t.toInt < (M 1 5).toInt then (f &&& (M 5 t.toInt.toNat ^^^ (-1))) ||| M 4 t.toInt.toNat else f
def fCost (M : tw_M) (t : Int32) : Int32 := if 0 ≤ t.toInt ∧ t.toInt < (M 1 5).toInt then M 6 t.toInt.toNat else 0
def mAt (M : tw_M) (t p : Int32) : Int32 := if (16 ≤ t.toInt ∧ t.toInt < 16 + (M 1 8).toInt) ∧ 0 ≤ p.toInt ∧ p.toInt < (M 20 (t - 16).toInt.toNat).toInt then M (8 + (t - 16).toInt.toNat) p.toInt.toNat else -1
def nPart (M : tw_M) (m : Int32) : Int32 := if 0 ≤ m.toInt ∧ m.toInt < (M 1 14).toInt then M 65 m.toInt.toNat else 0
def pAt (M : tw_M) (m p : Int32) : Int32 := if (0 ≤ m.toInt ∧ m.toInt < (M 1 14).toInt) ∧ 0 ≤ p.toInt ∧ p.toInt < (M 65 m.toInt.toNat).toInt then M (25 + m.toInt.toNat) p.toInt.toNat else -1
def aAt (M : tw_M) (p : Int32) : Int32 := if 0 ≤ p.toInt ∧ p.toInt < (M 1 16).toInt then M 66 p.toInt.toNat else -1
theorem sp_DM_isBits {d : Nat} {M : tw_M} {Q : tw_P} {b : Int32} (h1 : 0 ≤ b.toInt ∧ b.toInt ≤ 65535 → Q (some 1) M) (h0 : ¬ (0 ≤ b.toInt ∧ b.toInt ≤ 65535) → Q (some 0) M) : tw_C (d + 1) j_DM_isBits [.inl b] M Q := by
  refine tw_enter pn_DM dc_DM_isBits (Nat.le_of_ble_eq_true rfl) ?_
  have z0 := tw_ti_0
  have z1 := tw_ti_1
  have z65535 := tw_ti_65535
  refine tw_iload_n (pc := 0) rfl rfl ?_
  refine tw_if_lt (pc := 1) (tgt := 14) rfl rfl (fun c1 => ?_) (fun c1 => ?_)
  · refine tw_iconst (pc := 14) rfl tw_ic_0 ?_
    refine tw_ireturn (pc := 15) rfl rfl ?_
    exact h0 (by omega)
  · refine tw_iload_n (pc := 4) rfl rfl ?_
    refine tw_ldc (pc := 5) rfl ld_DM_89 ?_
    refine tw_icmp_gt (pc := 7) (tgt := 14) rfl rfl (fun c2 => ?_) (fun c2 => ?_)
    · refine tw_iconst (pc := 14) rfl tw_ic_0 ?_
      refine tw_ireturn (pc := 15) rfl rfl ?_
      exact h0 (by omega)
    · refine tw_iconst (pc := 10) rfl tw_ic_1 ?_
      refine tw_goto (pc := 11) (tgt := 15) rfl rfl ?_
      refine tw_ireturn (pc := 15) rfl rfl ?_
      exact h1 (by omega)
theorem sp_DM_holds {d : Nat} {M : tw_M} {Q : tw_P} {n l f : Int32} (h1 : pH n l f → Q (some 1) M) (h0 : ¬ (pH n l f) → Q (some 0) M) : tw_C (d + 1) j_DM_holds [.inl n, .inl l, .inl f] M Q := by
  refine tw_enter pn_DM dc_DM_holds (Nat.le_of_ble_eq_true rfl) ?_
  have z0 := tw_ti_0
  have z1 := tw_ti_1
  refine tw_iload_n (pc := 0) rfl rfl ?_
  refine tw_iload_n (pc := 1) rfl rfl ?_
  refine tw_iand (pc := 2) rfl ?_
  refine tw_iload_n (pc := 3) rfl rfl ?_
  refine tw_icmp_ne (pc := 4) (tgt := 17) rfl rfl (fun c1 => ?_) (fun c1 => ?_)
  · refine tw_iconst (pc := 17) rfl tw_ic_0 ?_
    refine tw_ireturn (pc := 18) rfl rfl ?_
    first | exact h0 (fun q => c2.1 q.2) | exact h0 (fun q => c1.1 q.1)
  · refine tw_iload_n (pc := 7) rfl rfl ?_
    refine tw_iload_n (pc := 8) rfl rfl ?_
    refine tw_iand (pc := 9) rfl ?_
    refine tw_if_ne (pc := 10) (tgt := 17) rfl rfl (fun c2 => ?_) (fun c2 => ?_)
    · refine tw_iconst (pc := 17) rfl tw_ic_0 ?_
      refine tw_ireturn (pc := 18) rfl rfl ?_
      first | exact h0 (fun q => c2.1 q.2) | exact h0 (fun q => c1.1 q.1)
    · refine tw_iconst (pc := 13) rfl tw_ic_1 ?_
      refine tw_goto (pc := 14) (tgt := 18) rfl rfl ?_
      refine tw_ireturn (pc := 18) rfl rfl ?_
      exact h1 ⟨c1.1, c2.1⟩
theorem sp_DM_isPrimitive {d : Nat} {M : tw_M} {Q : tw_P} {t : Int32} (h1 : 0 ≤ t.toInt ∧ t.toInt < (M 1 5).toInt → Q (some 1) M) (h0 : ¬ (0 ≤ t.toInt ∧ t.toInt < (M 1 5).toInt) → Q (some 0) M) : tw_C (d + 1) j_DM_isPrimitive [.inr 1, .inl t] M Q := by
  refine tw_enter pn_DM dc_DM_isPrimitive (Nat.le_of_ble_eq_true rfl) ?_
  have z0 := tw_ti_0
  have z1 := tw_ti_1
  refine tw_iload_n (pc := 0) rfl rfl ?_
  refine tw_if_lt (pc := 1) (tgt := 16) rfl rfl (fun c1 => ?_) (fun c1 => ?_)
  · refine tw_iconst (pc := 16) rfl tw_ic_0 ?_
    refine tw_ireturn (pc := 17) rfl rfl ?_
    exact h0 (by omega)
  · refine tw_iload_n (pc := 4) rfl rfl ?_
    refine tw_aload_n (pc := 5) rfl rfl ?_
    refine tw_getV (pc := 6) (v := (M 1 5)) rfl fl_DM_57 rfl rfl rfl ?_
    refine tw_icmp_ge (pc := 9) (tgt := 16) rfl rfl (fun c2 => ?_) (fun c2 => ?_)
    · refine tw_iconst (pc := 16) rfl tw_ic_0 ?_
      refine tw_ireturn (pc := 17) rfl rfl ?_
      exact h0 (by omega)
    · refine tw_iconst (pc := 12) rfl tw_ic_1 ?_
      refine tw_goto (pc := 13) (tgt := 17) rfl rfl ?_
      refine tw_ireturn (pc := 17) rfl rfl ?_
      exact h1 (by omega)
theorem sp_DM_isCompound {d : Nat} {M : tw_M} {Q : tw_P} {t : Int32} (hD : DI M) (h1 : 16 ≤ t.toInt ∧ t.toInt < 16 + (M 1 8).toInt → Q (some 1) M) (h0 : ¬ (16 ≤ t.toInt ∧ t.toInt < 16 + (M 1 8).toInt) → Q (some 0) M) : tw_C (d + 1) j_DM_isCompound [.inr 1, .inl t] M Q := by
  have hc := hD.2.1
  refine tw_enter pn_DM dc_DM_isCompound (Nat.le_of_ble_eq_true rfl) ?_
  have z0 := tw_ti_0
  have z1 := tw_ti_1
  have z16 := tw_ti_16
  refine tw_iload_n (pc := 0) rfl rfl ?_
  refine tw_bipush (pc := 1) rfl tw_bi_16 ?_
  refine tw_icmp_lt (pc := 3) (tgt := 21) rfl rfl (fun c1 => ?_) (fun c1 => ?_)
  · refine tw_iconst (pc := 21) rfl tw_ic_0 ?_
    refine tw_ireturn (pc := 22) rfl rfl ?_
    exact h0 (by omega)
  · refine tw_iload_n (pc := 6) rfl rfl ?_
    refine tw_bipush (pc := 7) rfl tw_bi_16 ?_
    refine tw_aload_n (pc := 9) rfl rfl ?_
    refine tw_getV (pc := 10) (v := (M 1 8)) rfl fl_DM_61 rfl rfl rfl ?_
    refine tw_iaddF (pc := 13) rfl ⟨by omega, by omega⟩ (fun e2 => ?_)
    refine tw_icmp_ge (pc := 14) (tgt := 21) rfl rfl (fun c3 => ?_) (fun c3 => ?_)
    · refine tw_iconst (pc := 21) rfl tw_ic_0 ?_
      refine tw_ireturn (pc := 22) rfl rfl ?_
      exact h0 (by omega)
    · refine tw_iconst (pc := 17) rfl tw_ic_1 ?_
      refine tw_goto (pc := 18) (tgt := 22) rfl rfl ?_
      refine tw_ireturn (pc := 22) rfl rfl ?_
      exact h1 (by omega)
theorem sp_DM_isMethod {d : Nat} {M : tw_M} {Q : tw_P} {m : Int32} (h1 : 0 ≤ m.toInt ∧ m.toInt < (M 1 14).toInt → Q (some 1) M) (h0 : ¬ (0 ≤ m.toInt ∧ m.toInt < (M 1 14).toInt) → Q (some 0) M) : tw_C (d + 1) j_DM_isMethod [.inr 1, .inl m] M Q := by
  refine tw_enter pn_DM dc_DM_isMethod (Nat.le_of_ble_eq_true rfl) ?_
  have z0 := tw_ti_0
  have z1 := tw_ti_1
  refine tw_iload_n (pc := 0) rfl rfl ?_
  refine tw_if_lt (pc := 1) (tgt := 16) rfl rfl (fun c1 => ?_) (fun c1 => ?_)
  · refine tw_iconst (pc := 16) rfl tw_ic_0 ?_
    refine tw_ireturn (pc := 17) rfl rfl ?_
    exact h0 (by omega)
  · refine tw_iload_n (pc := 4) rfl rfl ?_
    refine tw_aload_n (pc := 5) rfl rfl ?_
    refine tw_getV (pc := 6) (v := (M 1 14)) rfl fl_DM_67 rfl rfl rfl ?_
    refine tw_icmp_ge (pc := 9) (tgt := 16) rfl rfl (fun c2 => ?_) (fun c2 => ?_)
    · refine tw_iconst (pc := 16) rfl tw_ic_0 ?_
      refine tw_ireturn (pc := 17) rfl rfl ?_
      exact h0 (by omega)
    · refine tw_iconst (pc := 12) rfl tw_ic_1 ?_
      refine tw_goto (pc := 13) (tgt := 17) rfl rfl ?_
      refine tw_ireturn (pc := 17) rfl rfl ?_
      exact h1 (by omega)
theorem sp_DM_isTask {d : Nat} {M : tw_M} {Q : tw_P} {t : Int32} (hD : DI M) (h1 : (0 ≤ t.toInt ∧ t.toInt < (M 1 5).toInt) ∨ (16 ≤ t.toInt ∧ t.toInt < 16 + (M 1 8).toInt) → Q (some 1) M) (h0 : ¬ ((0 ≤ t.toInt ∧ t.toInt < (M 1 5).toInt) ∨ (16 ≤ t.toInt ∧ t.toInt < 16 + (M 1 8).toInt)) → Q (some 0) M) : tw_C (d + 2) j_DM_isTask [.inr 1, .inl t] M Q := by
  refine tw_enter pn_DM dc_DM_isTask (Nat.le_of_ble_eq_true rfl) ?_
  have z0 := tw_ti_0
  have z1 := tw_ti_1
  refine tw_aload_n (pc := 0) rfl rfl ?_
  refine tw_iload_n (pc := 1) rfl rfl ?_
  refine tw_inv1 (pc := 2) rfl lk_DM_82 (Nat.le_of_ble_eq_true rfl) rfl rfl (sp_DM_isPrimitive (fun c1 => ?_) (fun c1 => ?_))
  · refine tw_if_ne (pc := 5) (tgt := 16) rfl rfl (fun _ => ?_) (fun q => absurd q (by decide))
    refine tw_iconst (pc := 16) rfl tw_ic_1 ?_
    refine tw_goto (pc := 17) (tgt := 21) rfl rfl ?_
    refine tw_ireturn (pc := 21) rfl rfl ?_
    exact h1 (by omega)
  · refine tw_if_ne (pc := 5) (tgt := 16) rfl rfl (fun q => absurd q (by decide)) (fun _ => ?_)
    refine tw_aload_n (pc := 8) rfl rfl ?_
    refine tw_iload_n (pc := 9) rfl rfl ?_
    refine tw_inv1 (pc := 10) rfl lk_DM_64 (Nat.le_of_ble_eq_true rfl) rfl rfl (sp_DM_isCompound hD (fun c2 => ?_) (fun c2 => ?_))
    · refine tw_if_eq (pc := 13) (tgt := 20) rfl rfl (fun q => absurd q (by decide)) (fun _ => ?_)
      refine tw_iconst (pc := 16) rfl tw_ic_1 ?_
      refine tw_goto (pc := 17) (tgt := 21) rfl rfl ?_
      refine tw_ireturn (pc := 21) rfl rfl ?_
      exact h1 (by omega)
    · refine tw_if_eq (pc := 13) (tgt := 20) rfl rfl (fun _ => ?_) (fun q => absurd q (by decide))
      refine tw_iconst (pc := 20) rfl tw_ic_0 ?_
      refine tw_ireturn (pc := 21) rfl rfl ?_
      exact h0 (by omega)
theorem sp_DM_isMethodOf {d : Nat} {M : tw_M} {Q : tw_P} {m t : Int32} (hD : DI M) (h1 : (0 ≤ m.toInt ∧ m.toInt < (M 1 14).toInt) ∧ M 21 m.toInt.toNat = t → Q (some 1) M) (h0 : ¬ ((0 ≤ m.toInt ∧ m.toInt < (M 1 14).toInt) ∧ M 21 m.toInt.toNat = t) → Q (some 0) M) : tw_C (d + 2) j_DM_isMethodOf [.inr 1, .inl m, .inl t] M Q := by
  have hm := hD.2.2.1
  refine tw_enter pn_DM dc_DM_isMethodOf (Nat.le_of_ble_eq_true rfl) ?_
  have z0 := tw_ti_0
  have z1 := tw_ti_1
  refine tw_aload_n (pc := 0) rfl rfl ?_
  refine tw_iload_n (pc := 1) rfl rfl ?_
  refine tw_inv1 (pc := 2) rfl lk_DM_70 (Nat.le_of_ble_eq_true rfl) rfl rfl (sp_DM_isMethod (fun c1 => ?_) (fun c1 => ?_))
  · refine tw_if_eq (pc := 5) (tgt := 22) rfl rfl (fun q => absurd q (by decide)) (fun _ => ?_)
    refine tw_aload_n (pc := 8) rfl rfl ?_
    refine tw_getR (pc := 9) rfl fl_DM_35 rfl rfl ?_
    refine tw_iload_n (pc := 12) rfl rfl ?_
    refine tw_iald (pc := 13) rfl rfl ⟨by omega, by omega⟩ ?_
    refine tw_iload_n (pc := 14) rfl rfl ?_
    refine tw_icmp_ne (pc := 15) (tgt := 22) rfl rfl (fun c2 => ?_) (fun c2 => ?_)
    · refine tw_iconst (pc := 22) rfl tw_ic_0 ?_
      refine tw_ireturn (pc := 23) rfl rfl ?_
      first | exact h0 (fun q => c2.1 q.2) | exact h0 (fun q => by omega)
    · refine tw_iconst (pc := 18) rfl tw_ic_1 ?_
      refine tw_goto (pc := 19) (tgt := 23) rfl rfl ?_
      refine tw_ireturn (pc := 23) rfl rfl ?_
      exact h1 ⟨by omega, c2.1⟩
  · refine tw_if_eq (pc := 5) (tgt := 22) rfl rfl (fun _ => ?_) (fun q => absurd q (by decide))
    refine tw_iconst (pc := 22) rfl tw_ic_0 ?_
    refine tw_ireturn (pc := 23) rfl rfl ?_
    first | exact h0 (fun q => c2.1 q.2) | exact h0 (fun q => by omega)
theorem sp_DM_canDo {d : Nat} {M : tw_M} {Q : tw_P} {t f : Int32} (hD : DI M) (h1 : pDo M t f → Q (some 1) M) (h0 : ¬ (pDo M t f) → Q (some 0) M) : tw_C (d + 2) j_DM_canDo [.inr 1, .inl t, .inl f] M Q := by
  have hp := hD.1
  refine tw_enter pn_DM dc_DM_canDo (Nat.le_of_ble_eq_true rfl) ?_
  have z0 := tw_ti_0
  have z1 := tw_ti_1
  refine tw_aload_n (pc := 0) rfl rfl ?_
  refine tw_iload_n (pc := 1) rfl rfl ?_
  refine tw_inv1 (pc := 2) rfl lk_DM_82 (Nat.le_of_ble_eq_true rfl) rfl rfl (sp_DM_isPrimitive (fun c1 => ?_) (fun c1 => ?_))
  · refine tw_if_eq (pc := 5) (tgt := 31) rfl rfl (fun q => absurd q (by decide)) (fun _ => ?_)
    refine tw_aload_n (pc := 8) rfl rfl ?_
    refine tw_getR (pc := 9) rfl fl_DM_9 rfl rfl ?_
    refine tw_iload_n (pc := 12) rfl rfl ?_
    refine tw_iald (pc := 13) rfl rfl ⟨by omega, by omega⟩ ?_
    refine tw_aload_n (pc := 14) rfl rfl ?_
    refine tw_getR (pc := 15) rfl fl_DM_15 rfl rfl ?_
    refine tw_iload_n (pc := 18) rfl rfl ?_
    refine tw_iald (pc := 19) rfl rfl ⟨by omega, by omega⟩ ?_
    refine tw_iload_n (pc := 20) rfl rfl ?_
    refine tw_invs3 (pc := 21) rfl lk_DM_85 rfl (Nat.le_of_ble_eq_true rfl) (sp_DM_holds (fun c2 => ?_) (fun c2 => ?_))
    · refine tw_if_eq (pc := 24) (tgt := 31) rfl rfl (fun q => absurd q (by decide)) (fun _ => ?_)
      refine tw_iconst (pc := 27) rfl tw_ic_1 ?_
      refine tw_goto (pc := 28) (tgt := 32) rfl rfl ?_
      refine tw_ireturn (pc := 32) rfl rfl ?_
      exact h1 ⟨by omega, c2⟩
    · refine tw_if_eq (pc := 24) (tgt := 31) rfl rfl (fun _ => ?_) (fun q => absurd q (by decide))
      refine tw_iconst (pc := 31) rfl tw_ic_0 ?_
      refine tw_ireturn (pc := 32) rfl rfl ?_
      first | exact h0 (fun q => c2 q.2) | exact h0 (fun q => c1 q.1)
  · refine tw_if_eq (pc := 5) (tgt := 31) rfl rfl (fun _ => ?_) (fun q => absurd q (by decide))
    refine tw_iconst (pc := 31) rfl tw_ic_0 ?_
    refine tw_ireturn (pc := 32) rfl rfl ?_
    first | exact h0 (fun q => c2 q.2) | exact h0 (fun q => c1 q.1)
theorem sp_DM_methodHolds {d : Nat} {M : tw_M} {Q : tw_P} {m f : Int32} (hD : DI M) (h1 : pMH M m f → Q (some 1) M) (h0 : ¬ (pMH M m f) → Q (some 0) M) : tw_C (d + 2) j_DM_methodHolds [.inr 1, .inl m, .inl f] M Q := by
  have hp := hD.2.2.1
  refine tw_enter pn_DM dc_DM_methodHolds (Nat.le_of_ble_eq_true rfl) ?_
  have z0 := tw_ti_0
  have z1 := tw_ti_1
  refine tw_aload_n (pc := 0) rfl rfl ?_
  refine tw_iload_n (pc := 1) rfl rfl ?_
  refine tw_inv1 (pc := 2) rfl lk_DM_70 (Nat.le_of_ble_eq_true rfl) rfl rfl (sp_DM_isMethod (fun c1 => ?_) (fun c1 => ?_))
  · refine tw_if_eq (pc := 5) (tgt := 31) rfl rfl (fun q => absurd q (by decide)) (fun _ => ?_)
    refine tw_aload_n (pc := 8) rfl rfl ?_
    refine tw_getR (pc := 9) rfl fl_DM_38 rfl rfl ?_
    refine tw_iload_n (pc := 12) rfl rfl ?_
    refine tw_iald (pc := 13) rfl rfl ⟨by omega, by omega⟩ ?_
    refine tw_aload_n (pc := 14) rfl rfl ?_
    refine tw_getR (pc := 15) rfl fl_DM_41 rfl rfl ?_
    refine tw_iload_n (pc := 18) rfl rfl ?_
    refine tw_iald (pc := 19) rfl rfl ⟨by omega, by omega⟩ ?_
    refine tw_iload_n (pc := 20) rfl rfl ?_
    refine tw_invs3 (pc := 21) rfl lk_DM_85 rfl (Nat.le_of_ble_eq_true rfl) (sp_DM_holds (fun c2 => ?_) (fun c2 => ?_))
    · refine tw_if_eq (pc := 24) (tgt := 31) rfl rfl (fun q => absurd q (by decide)) (fun _ => ?_)
      refine tw_iconst (pc := 27) rfl tw_ic_1 ?_
      refine tw_goto (pc := 28) (tgt := 32) rfl rfl ?_
      refine tw_ireturn (pc := 32) rfl rfl ?_
      exact h1 ⟨by omega, c2⟩
    · refine tw_if_eq (pc := 24) (tgt := 31) rfl rfl (fun _ => ?_) (fun q => absurd q (by decide))
      refine tw_iconst (pc := 31) rfl tw_ic_0 ?_
      refine tw_ireturn (pc := 32) rfl rfl ?_
      first | exact h0 (fun q => c2 q.2) | exact h0 (fun q => c1 q.1)
  · refine tw_if_eq (pc := 5) (tgt := 31) rfl rfl (fun _ => ?_) (fun q => absurd q (by decide))
    refine tw_iconst (pc := 31) rfl tw_ic_0 ?_
    refine tw_ireturn (pc := 32) rfl rfl ?_
    first | exact h0 (fun q => c2 q.2) | exact h0 (fun q => c1 q.1)
theorem sp_DM_factsAfter {d : Nat} {M : tw_M} {Q : tw_P} {t f : Int32} {v : Int32} (hD : DI M) (hv : fAfter M t f = v) (h : Q (some v) M) : tw_C (d + 2) j_DM_factsAfter [.inr 1, .inl t, .inl f] M Q := by
  subst hv
  have hp := hD.1
  refine tw_enter pn_DM dc_DM_factsAfter (Nat.le_of_ble_eq_true rfl) ?_
  have zm1 := tw_ti_m1
  have z0 := tw_ti_0
  refine tw_aload_n (pc := 0) rfl rfl ?_
  refine tw_iload_n (pc := 1) rfl rfl ?_
  refine tw_inv1 (pc := 2) rfl lk_DM_82 (Nat.le_of_ble_eq_true rfl) rfl rfl (sp_DM_isPrimitive (fun c1 => ?_) (fun c1 => ?_))
  · refine tw_if_eq (pc := 5) (tgt := 28) rfl rfl (fun q => absurd q (by decide)) (fun _ => ?_)
    refine tw_iload_n (pc := 8) rfl rfl ?_
    refine tw_aload_n (pc := 9) rfl rfl ?_
    refine tw_getR (pc := 10) rfl fl_DM_21 rfl rfl ?_
    refine tw_iload_n (pc := 13) rfl rfl ?_
    refine tw_iald (pc := 14) rfl rfl ⟨by omega, by omega⟩ ?_
    refine tw_iconst (pc := 15) rfl tw_ic_m1 ?_
    refine tw_ixor (pc := 16) rfl ?_
    refine tw_iand (pc := 17) rfl ?_
    refine tw_aload_n (pc := 18) rfl rfl ?_
    refine tw_getR (pc := 19) rfl fl_DM_18 rfl rfl ?_
    refine tw_iload_n (pc := 22) rfl rfl ?_
    refine tw_iald (pc := 23) rfl rfl ⟨by omega, by omega⟩ ?_
    refine tw_ior (pc := 24) rfl ?_
    refine tw_goto (pc := 25) (tgt := 29) rfl rfl ?_
    refine tw_ireturn (pc := 29) rfl rfl ?_
    have e : fAfter M t f = ((f &&& ((M 5 t.toInt.toNat) ^^^ (-1))) ||| (M 4 t.toInt.toNat)) := by unfold fAfter; first | exact if_pos (by omega) | exact if_neg (by omega)
    rw [e] at h
    exact h
  · refine tw_if_eq (pc := 5) (tgt := 28) rfl rfl (fun _ => ?_) (fun q => absurd q (by decide))
    refine tw_iload_n (pc := 28) rfl rfl ?_
    refine tw_ireturn (pc := 29) rfl rfl ?_
    have e : fAfter M t f = f := by unfold fAfter; first | exact if_pos (by omega) | exact if_neg (by omega)
    rw [e] at h
    exact h
theorem sp_DM_costOf {d : Nat} {M : tw_M} {Q : tw_P} {t : Int32} {v : Int32} (hD : DI M) (hv : fCost M t = v) (h : Q (some v) M) : tw_C (d + 2) j_DM_costOf [.inr 1, .inl t] M Q := by
  subst hv
  have hp := hD.1
  refine tw_enter pn_DM dc_DM_costOf (Nat.le_of_ble_eq_true rfl) ?_
  have z0 := tw_ti_0
  refine tw_aload_n (pc := 0) rfl rfl ?_
  refine tw_iload_n (pc := 1) rfl rfl ?_
  refine tw_inv1 (pc := 2) rfl lk_DM_82 (Nat.le_of_ble_eq_true rfl) rfl rfl (sp_DM_isPrimitive (fun c1 => ?_) (fun c1 => ?_))
  · refine tw_if_eq (pc := 5) (tgt := 17) rfl rfl (fun q => absurd q (by decide)) (fun _ => ?_)
    refine tw_aload_n (pc := 8) rfl rfl ?_
    refine tw_getR (pc := 9) rfl fl_DM_24 rfl rfl ?_
    refine tw_iload_n (pc := 12) rfl rfl ?_
    refine tw_iald (pc := 13) rfl rfl ⟨by omega, by omega⟩ ?_
    refine tw_goto (pc := 14) (tgt := 18) rfl rfl ?_
    refine tw_ireturn (pc := 18) rfl rfl ?_
    have e : fCost M t = (M 6 t.toInt.toNat) := by unfold fCost; first | exact if_pos (by omega) | exact if_neg (by omega)
    rw [e] at h
    exact h
  · refine tw_if_eq (pc := 5) (tgt := 17) rfl rfl (fun _ => ?_) (fun q => absurd q (by decide))
    refine tw_iconst (pc := 17) rfl tw_ic_0 ?_
    refine tw_ireturn (pc := 18) rfl rfl ?_
    have e : fCost M t = 0 := by unfold fCost; first | exact if_pos (by omega) | exact if_neg (by omega)
    rw [e] at h
    exact h
theorem sp_DM_methodAt {d : Nat} {M : tw_M} {Q : tw_P} {t p : Int32} {v : Int32} (hD : DI M) (hv : mAt M t p = v) (h : Q (some v) M) : tw_C (d + 2) j_DM_methodAt [.inr 1, .inl t, .inl p] M Q := by
  subst hv
  have hc := hD.2.1
  have hk := hD.2.2.2.2.1 (t - 16).toInt.toNat
  refine tw_enter pn_DM dc_DM_methodAt (Nat.le_of_ble_eq_true rfl) ?_
  have zm1 := tw_ti_m1
  have z0 := tw_ti_0
  have z16 := tw_ti_16
  refine tw_aload_n (pc := 0) rfl rfl ?_
  refine tw_iload_n (pc := 1) rfl rfl ?_
  refine tw_inv1 (pc := 2) rfl lk_DM_64 (Nat.le_of_ble_eq_true rfl) rfl rfl (sp_DM_isCompound hD (fun c1 => ?_) (fun c1 => ?_))
  · refine tw_if_eq (pc := 5) (tgt := 25) rfl rfl (fun q => absurd q (by decide)) (fun _ => ?_)
    refine tw_iload_n (pc := 8) rfl rfl ?_
    refine tw_if_lt (pc := 9) (tgt := 25) rfl rfl (fun c2 => ?_) (fun c2 => ?_)
    · refine tw_iconst (pc := 25) rfl tw_ic_m1 ?_
      refine tw_ireturn (pc := 26) rfl rfl ?_
      have e : mAt M t p = (-1) := by unfold mAt; first | exact if_pos (by omega) | exact if_neg (by omega)
      rw [e] at h
      exact h
    · refine tw_iload_n (pc := 12) rfl rfl ?_
      refine tw_aload_n (pc := 13) rfl rfl ?_
      refine tw_getR (pc := 14) rfl fl_DM_32 rfl rfl ?_
      refine tw_iload_n (pc := 17) rfl rfl ?_
      refine tw_bipush (pc := 18) rfl tw_bi_16 ?_
      refine tw_isubF (pc := 20) rfl ⟨by omega, by omega⟩ (fun e3 => ?_)
      refine tw_iald (pc := 21) rfl rfl ⟨by omega, by omega⟩ ?_
      refine tw_icmp_lt (pc := 22) (tgt := 27) rfl rfl (fun c4 => ?_) (fun c4 => ?_)
      · refine tw_aload_n (pc := 27) rfl rfl ?_
        refine tw_getR (pc := 28) rfl fl_DM_29 rfl rfl ?_
        refine tw_iload_n (pc := 31) rfl rfl ?_
        refine tw_bipush (pc := 32) rfl tw_bi_16 ?_
        refine tw_isubF (pc := 34) rfl ⟨by omega, by omega⟩ (fun e5 => ?_)
        refine tw_aald (pc := 35) rfl rfl ⟨by omega, by omega⟩ ?_
        refine tw_iload_n (pc := 36) rfl rfl ?_
        refine tw_iald (pc := 37) rfl (tw_lay_r8 (by omega)) ⟨by omega, by omega⟩ ?_
        refine tw_ireturn (pc := 38) rfl rfl ?_
        have e : mAt M t p = (M (8 + (t - 16).toInt.toNat) p.toInt.toNat) := by unfold mAt; first | exact if_pos (by omega) | exact if_neg (by omega)
        rw [e] at h
        exact h
      · refine tw_iconst (pc := 25) rfl tw_ic_m1 ?_
        refine tw_ireturn (pc := 26) rfl rfl ?_
        have e : mAt M t p = (-1) := by unfold mAt; first | exact if_pos (by omega) | exact if_neg (by omega)
        rw [e] at h
        exact h
  · refine tw_if_eq (pc := 5) (tgt := 25) rfl rfl (fun _ => ?_) (fun q => absurd q (by decide))
    refine tw_iconst (pc := 25) rfl tw_ic_m1 ?_
    refine tw_ireturn (pc := 26) rfl rfl ?_
    have e : mAt M t p = (-1) := by unfold mAt; first | exact if_pos (by omega) | exact if_neg (by omega)
    rw [e] at h
    exact h
theorem sp_DM_partCount {d : Nat} {M : tw_M} {Q : tw_P} {m : Int32} {v : Int32} (hD : DI M) (hv : nPart M m = v) (h : Q (some v) M) : tw_C (d + 2) j_DM_partCount [.inr 1, .inl m] M Q := by
  subst hv
  have hp := hD.2.2.1
  refine tw_enter pn_DM dc_DM_partCount (Nat.le_of_ble_eq_true rfl) ?_
  have z0 := tw_ti_0
  refine tw_aload_n (pc := 0) rfl rfl ?_
  refine tw_iload_n (pc := 1) rfl rfl ?_
  refine tw_inv1 (pc := 2) rfl lk_DM_70 (Nat.le_of_ble_eq_true rfl) rfl rfl (sp_DM_isMethod (fun c1 => ?_) (fun c1 => ?_))
  · refine tw_if_eq (pc := 5) (tgt := 17) rfl rfl (fun q => absurd q (by decide)) (fun _ => ?_)
    refine tw_aload_n (pc := 8) rfl rfl ?_
    refine tw_getR (pc := 9) rfl fl_DM_47 rfl rfl ?_
    refine tw_iload_n (pc := 12) rfl rfl ?_
    refine tw_iald (pc := 13) rfl rfl ⟨by omega, by omega⟩ ?_
    refine tw_goto (pc := 14) (tgt := 18) rfl rfl ?_
    refine tw_ireturn (pc := 18) rfl rfl ?_
    have e : nPart M m = (M 65 m.toInt.toNat) := by unfold nPart; first | exact if_pos (by omega) | exact if_neg (by omega)
    rw [e] at h
    exact h
  · refine tw_if_eq (pc := 5) (tgt := 17) rfl rfl (fun _ => ?_) (fun q => absurd q (by decide))
    refine tw_iconst (pc := 17) rfl tw_ic_0 ?_
    refine tw_ireturn (pc := 18) rfl rfl ?_
    have e : nPart M m = 0 := by unfold nPart; first | exact if_pos (by omega) | exact if_neg (by omega)
    rw [e] at h
    exact h
theorem sp_DM_partAt {d : Nat} {M : tw_M} {Q : tw_P} {m p : Int32} {v : Int32} (hD : DI M) (hv : pAt M m p = v) (h : Q (some v) M) : tw_C (d + 2) j_DM_partAt [.inr 1, .inl m, .inl p] M Q := by
  subst hv
  have hp := hD.2.2.1
  have hk := hD.2.2.2.2.2 m.toInt.toNat
  refine tw_enter pn_DM dc_DM_partAt (Nat.le_of_ble_eq_true rfl) ?_
  have zm1 := tw_ti_m1
  have z0 := tw_ti_0
  refine tw_aload_n (pc := 0) rfl rfl ?_
  refine tw_iload_n (pc := 1) rfl rfl ?_
  refine tw_inv1 (pc := 2) rfl lk_DM_70 (Nat.le_of_ble_eq_true rfl) rfl rfl (sp_DM_isMethod (fun c1 => ?_) (fun c1 => ?_))
  · refine tw_if_eq (pc := 5) (tgt := 22) rfl rfl (fun q => absurd q (by decide)) (fun _ => ?_)
    refine tw_iload_n (pc := 8) rfl rfl ?_
    refine tw_if_lt (pc := 9) (tgt := 22) rfl rfl (fun c2 => ?_) (fun c2 => ?_)
    · refine tw_iconst (pc := 22) rfl tw_ic_m1 ?_
      refine tw_ireturn (pc := 23) rfl rfl ?_
      have e : pAt M m p = (-1) := by unfold pAt; first | exact if_pos (by omega) | exact if_neg (by omega)
      rw [e] at h
      exact h
    · refine tw_iload_n (pc := 12) rfl rfl ?_
      refine tw_aload_n (pc := 13) rfl rfl ?_
      refine tw_getR (pc := 14) rfl fl_DM_47 rfl rfl ?_
      refine tw_iload_n (pc := 17) rfl rfl ?_
      refine tw_iald (pc := 18) rfl rfl ⟨by omega, by omega⟩ ?_
      refine tw_icmp_lt (pc := 19) (tgt := 24) rfl rfl (fun c3 => ?_) (fun c3 => ?_)
      · refine tw_aload_n (pc := 24) rfl rfl ?_
        refine tw_getR (pc := 25) rfl fl_DM_44 rfl rfl ?_
        refine tw_iload_n (pc := 28) rfl rfl ?_
        refine tw_aald (pc := 29) rfl rfl ⟨by omega, by omega⟩ ?_
        refine tw_iload_n (pc := 30) rfl rfl ?_
        refine tw_iald (pc := 31) rfl (tw_lay_r25 (by omega)) ⟨by omega, by omega⟩ ?_
        refine tw_ireturn (pc := 32) rfl rfl ?_
        have e : pAt M m p = (M (25 + m.toInt.toNat) p.toInt.toNat) := by unfold pAt; first | exact if_pos (by omega) | exact if_neg (by omega)
        rw [e] at h
        exact h
      · refine tw_iconst (pc := 22) rfl tw_ic_m1 ?_
        refine tw_ireturn (pc := 23) rfl rfl ?_
        have e : pAt M m p = (-1) := by unfold pAt; first | exact if_pos (by omega) | exact if_neg (by omega)
        rw [e] at h
        exact h
  · refine tw_if_eq (pc := 5) (tgt := 22) rfl rfl (fun _ => ?_) (fun q => absurd q (by decide))
    refine tw_iconst (pc := 22) rfl tw_ic_m1 ?_
    refine tw_ireturn (pc := 23) rfl rfl ?_
    have e : pAt M m p = (-1) := by unfold pAt; first | exact if_pos (by omega) | exact if_neg (by omega)
    rw [e] at h
    exact h
theorem sp_DM_aimCount {d : Nat} {M : tw_M} {Q : tw_P} (h : Q (some (M 1 16)) M) : tw_C (d + 1) j_DM_aimCount [.inr 1] M Q := by
  refine tw_enter pn_DM dc_DM_aimCount (Nat.le_of_ble_eq_true rfl) ?_
  refine tw_aload_n (pc := 0) rfl rfl ?_
  refine tw_getV (pc := 1) (v := (M 1 16)) rfl fl_DM_79 rfl rfl rfl ?_
  refine tw_ireturn (pc := 4) rfl rfl ?_
  exact h
theorem sp_DM_aimAt {d : Nat} {M : tw_M} {Q : tw_P} {p : Int32} {v : Int32} (hD : DI M) (hv : aAt M p = v) (h : Q (some v) M) : tw_C (d + 1) j_DM_aimAt [.inr 1, .inl p] M Q := by
  subst hv
  have hp := hD.2.2.2.1
  refine tw_enter pn_DM dc_DM_aimAt (Nat.le_of_ble_eq_true rfl) ?_
  have zm1 := tw_ti_m1
  have z0 := tw_ti_0
  refine tw_iload_n (pc := 0) rfl rfl ?_
  refine tw_if_lt (pc := 1) (tgt := 21) rfl rfl (fun c1 => ?_) (fun c1 => ?_)
  · refine tw_iconst (pc := 21) rfl tw_ic_m1 ?_
    refine tw_ireturn (pc := 22) rfl rfl ?_
    have e : aAt M p = (-1) := by unfold aAt; first | exact if_pos (by omega) | exact if_neg (by omega)
    rw [e] at h
    exact h
  · refine tw_iload_n (pc := 4) rfl rfl ?_
    refine tw_aload_n (pc := 5) rfl rfl ?_
    refine tw_getV (pc := 6) (v := (M 1 16)) rfl fl_DM_79 rfl rfl rfl ?_
    refine tw_icmp_ge (pc := 9) (tgt := 21) rfl rfl (fun c2 => ?_) (fun c2 => ?_)
    · refine tw_iconst (pc := 21) rfl tw_ic_m1 ?_
      refine tw_ireturn (pc := 22) rfl rfl ?_
      have e : aAt M p = (-1) := by unfold aAt; first | exact if_pos (by omega) | exact if_neg (by omega)
      rw [e] at h
      exact h
    · refine tw_aload_n (pc := 12) rfl rfl ?_
      refine tw_getR (pc := 13) rfl fl_DM_50 rfl rfl ?_
      refine tw_iload_n (pc := 16) rfl rfl ?_
      refine tw_iald (pc := 17) rfl rfl ⟨by omega, by omega⟩ ?_
      refine tw_goto (pc := 18) (tgt := 22) rfl rfl ?_
      refine tw_ireturn (pc := 22) rfl rfl ?_
      have e : aAt M p = (M 66 p.toInt.toNat) := by unfold aAt; first | exact if_pos (by omega) | exact if_neg (by omega)
      rw [e] at h
      exact h
theorem sp_DM_startFacts {d : Nat} {M : tw_M} {Q : tw_P} (h : Q (some (M 1 17)) M) : tw_C (d + 1) j_DM_startFacts [.inr 1] M Q := by
  refine tw_enter pn_DM dc_DM_startFacts (Nat.le_of_ble_eq_true rfl) ?_
  refine tw_aload_n (pc := 0) rfl rfl ?_
  refine tw_getV (pc := 1) (v := (M 1 17)) rfl fl_DM_76 rfl rfl rfl ?_
  refine tw_ireturn (pc := 4) rfl rfl ?_
  exact h
theorem sp_DM_addPrimitive {d : Nat} {M : tw_M} {Q : tw_P} {n l a r c : Int32} (hD : DI M) (h1 : (0 ≤ n.toInt ∧ n.toInt ≤ 65535) ∧ (0 ≤ l.toInt ∧ l.toInt ≤ 65535) ∧ (0 ≤ a.toInt ∧ a.toInt ≤ 65535) ∧ (0 ≤ r.toInt ∧ r.toInt ≤ 65535) ∧ (0 ≤ c.toInt ∧ c.toInt ≤ 100) ∧ (M 1 5).toInt < 12 → Q (some (M 1 5)) (tw_set (tw_set (tw_set (tw_set (tw_set (tw_set M 2 (M 1 5).toInt.toNat n) 3 (M 1 5).toInt.toNat l) 4 (M 1 5).toInt.toNat a) 5 (M 1 5).toInt.toNat r) 6 (M 1 5).toInt.toNat c) 1 5 ((M 1 5) + 1))) (h0 : ¬ ((0 ≤ n.toInt ∧ n.toInt ≤ 65535) ∧ (0 ≤ l.toInt ∧ l.toInt ≤ 65535) ∧ (0 ≤ a.toInt ∧ a.toInt ≤ 65535) ∧ (0 ≤ r.toInt ∧ r.toInt ≤ 65535) ∧ (0 ≤ c.toInt ∧ c.toInt ≤ 100) ∧ (M 1 5).toInt < 12) → Q (some (-1)) M) : tw_C (d + 2) j_DM_addPrimitive [.inr 1, .inl n, .inl l, .inl a, .inl r, .inl c] M Q := by
  have hp := hD.1
  refine tw_enter pn_DM dc_DM_addPrimitive (Nat.le_of_ble_eq_true rfl) ?_
  have zm1 := tw_ti_m1
  have z0 := tw_ti_0
  have z1 := tw_ti_1
  have z12 := tw_ti_12
  have z100 := tw_ti_100
  refine tw_iload_n (pc := 0) rfl rfl ?_
  refine tw_invs1 (pc := 1) rfl lk_DM_53 rfl (Nat.le_of_ble_eq_true rfl) (sp_DM_isBits (fun c1 => ?_) (fun c1 => ?_))
  · refine tw_if_eq (pc := 4) (tgt := 33) rfl rfl (fun q => absurd q (by decide)) (fun _ => ?_)
    refine tw_iload_n (pc := 7) rfl rfl ?_
    refine tw_invs1 (pc := 8) rfl lk_DM_53 rfl (Nat.le_of_ble_eq_true rfl) (sp_DM_isBits (fun c2 => ?_) (fun c2 => ?_))
    · refine tw_if_eq (pc := 11) (tgt := 33) rfl rfl (fun q => absurd q (by decide)) (fun _ => ?_)
      refine tw_iload_n (pc := 14) rfl rfl ?_
      refine tw_invs1 (pc := 15) rfl lk_DM_53 rfl (Nat.le_of_ble_eq_true rfl) (sp_DM_isBits (fun c3 => ?_) (fun c3 => ?_))
      · refine tw_if_eq (pc := 18) (tgt := 33) rfl rfl (fun q => absurd q (by decide)) (fun _ => ?_)
        refine tw_iload (pc := 21) rfl rfl ?_
        refine tw_invs1 (pc := 23) rfl lk_DM_53 rfl (Nat.le_of_ble_eq_true rfl) (sp_DM_isBits (fun c4 => ?_) (fun c4 => ?_))
        · refine tw_if_eq (pc := 26) (tgt := 33) rfl rfl (fun q => absurd q (by decide)) (fun _ => ?_)
          refine tw_iconst (pc := 29) rfl tw_ic_1 ?_
          refine tw_goto (pc := 30) (tgt := 34) rfl rfl ?_
          refine tw_istore (pc := 34) rfl (Nat.le_of_ble_eq_true rfl) ?_
          refine tw_iload (pc := 36) rfl rfl ?_
          refine tw_if_eq (pc := 38) (tgt := 62) rfl rfl (fun q => absurd q (by decide)) (fun _ => ?_)
          refine tw_iload (pc := 41) rfl rfl ?_
          refine tw_if_lt (pc := 43) (tgt := 62) rfl rfl (fun c5 => ?_) (fun c5 => ?_)
          · refine tw_iconst (pc := 62) rfl tw_ic_m1 ?_
            refine tw_ireturn (pc := 63) rfl rfl ?_
            exact h0 (by omega)
          · refine tw_iload (pc := 46) rfl rfl ?_
            refine tw_bipush (pc := 48) rfl tw_bi_100 ?_
            refine tw_icmp_gt (pc := 50) (tgt := 62) rfl rfl (fun c6 => ?_) (fun c6 => ?_)
            · refine tw_iconst (pc := 62) rfl tw_ic_m1 ?_
              refine tw_ireturn (pc := 63) rfl rfl ?_
              exact h0 (by omega)
            · refine tw_aload_n (pc := 53) rfl rfl ?_
              refine tw_getV (pc := 54) (v := (M 1 5)) rfl fl_DM_57 rfl rfl rfl ?_
              refine tw_bipush (pc := 57) rfl tw_bi_12 ?_
              refine tw_icmp_lt (pc := 59) (tgt := 64) rfl rfl (fun c7 => ?_) (fun c7 => ?_)
              · refine tw_aload_n (pc := 64) rfl rfl ?_
                refine tw_getV (pc := 65) (v := (M 1 5)) rfl fl_DM_57 rfl rfl rfl ?_
                refine tw_istore (pc := 68) rfl (Nat.le_of_ble_eq_true rfl) ?_
                refine tw_aload_n (pc := 70) rfl rfl ?_
                refine tw_getR (pc := 71) rfl fl_DM_9 rfl rfl ?_
                refine tw_iload (pc := 74) rfl rfl ?_
                refine tw_iload_n (pc := 76) rfl rfl ?_
                refine tw_iast (pc := 77) rfl rfl ⟨by omega, by omega⟩ ?_
                refine tw_aload_n (pc := 78) rfl rfl ?_
                refine tw_getR (pc := 79) rfl fl_DM_15 rfl rfl ?_
                refine tw_iload (pc := 82) rfl rfl ?_
                refine tw_iload_n (pc := 84) rfl rfl ?_
                refine tw_iast (pc := 85) rfl rfl ⟨by omega, by omega⟩ ?_
                refine tw_aload_n (pc := 86) rfl rfl ?_
                refine tw_getR (pc := 87) rfl fl_DM_18 rfl rfl ?_
                refine tw_iload (pc := 90) rfl rfl ?_
                refine tw_iload_n (pc := 92) rfl rfl ?_
                refine tw_iast (pc := 93) rfl rfl ⟨by omega, by omega⟩ ?_
                refine tw_aload_n (pc := 94) rfl rfl ?_
                refine tw_getR (pc := 95) rfl fl_DM_21 rfl rfl ?_
                refine tw_iload (pc := 98) rfl rfl ?_
                refine tw_iload (pc := 100) rfl rfl ?_
                refine tw_iast (pc := 102) rfl rfl ⟨by omega, by omega⟩ ?_
                refine tw_aload_n (pc := 103) rfl rfl ?_
                refine tw_getR (pc := 104) rfl fl_DM_24 rfl rfl ?_
                refine tw_iload (pc := 107) rfl rfl ?_
                refine tw_iload (pc := 109) rfl rfl ?_
                refine tw_iast (pc := 111) rfl rfl ⟨by omega, by omega⟩ ?_
                refine tw_aload_n (pc := 112) rfl rfl ?_
                refine tw_dup (pc := 113) rfl ?_
                refine tw_getV (pc := 114) (v := (M 1 5)) rfl fl_DM_57 rfl rfl rfl ?_
                refine tw_iconst (pc := 117) rfl tw_ic_1 ?_
                refine tw_iaddF (pc := 118) rfl ⟨by omega, by omega⟩ (fun e8 => ?_)
                refine tw_putI (pc := 119) rfl fp_DM_57 rfl rfl rfl rfl ?_
                refine tw_iload (pc := 122) rfl rfl ?_
                refine tw_ireturn (pc := 124) rfl rfl ?_
                exact h1 (by omega)
              · refine tw_iconst (pc := 62) rfl tw_ic_m1 ?_
                refine tw_ireturn (pc := 63) rfl rfl ?_
                exact h0 (by omega)
        · refine tw_if_eq (pc := 26) (tgt := 33) rfl rfl (fun _ => ?_) (fun q => absurd q (by decide))
          refine tw_iconst (pc := 33) rfl tw_ic_0 ?_
          refine tw_istore (pc := 34) rfl (Nat.le_of_ble_eq_true rfl) ?_
          refine tw_iload (pc := 36) rfl rfl ?_
          refine tw_if_eq (pc := 38) (tgt := 62) rfl rfl (fun _ => ?_) (fun q => absurd q (by decide))
          refine tw_iconst (pc := 62) rfl tw_ic_m1 ?_
          refine tw_ireturn (pc := 63) rfl rfl ?_
          exact h0 (by omega)
      · refine tw_if_eq (pc := 18) (tgt := 33) rfl rfl (fun _ => ?_) (fun q => absurd q (by decide))
        refine tw_iconst (pc := 33) rfl tw_ic_0 ?_
        refine tw_istore (pc := 34) rfl (Nat.le_of_ble_eq_true rfl) ?_
        refine tw_iload (pc := 36) rfl rfl ?_
        refine tw_if_eq (pc := 38) (tgt := 62) rfl rfl (fun _ => ?_) (fun q => absurd q (by decide))
        refine tw_iconst (pc := 62) rfl tw_ic_m1 ?_
        refine tw_ireturn (pc := 63) rfl rfl ?_
        exact h0 (by omega)
    · refine tw_if_eq (pc := 11) (tgt := 33) rfl rfl (fun _ => ?_) (fun q => absurd q (by decide))
      refine tw_iconst (pc := 33) rfl tw_ic_0 ?_
      refine tw_istore (pc := 34) rfl (Nat.le_of_ble_eq_true rfl) ?_
      refine tw_iload (pc := 36) rfl rfl ?_
      refine tw_if_eq (pc := 38) (tgt := 62) rfl rfl (fun _ => ?_) (fun q => absurd q (by decide))
      refine tw_iconst (pc := 62) rfl tw_ic_m1 ?_
      refine tw_ireturn (pc := 63) rfl rfl ?_
      exact h0 (by omega)
  · refine tw_if_eq (pc := 4) (tgt := 33) rfl rfl (fun _ => ?_) (fun q => absurd q (by decide))
    refine tw_iconst (pc := 33) rfl tw_ic_0 ?_
    refine tw_istore (pc := 34) rfl (Nat.le_of_ble_eq_true rfl) ?_
    refine tw_iload (pc := 36) rfl rfl ?_
    refine tw_if_eq (pc := 38) (tgt := 62) rfl rfl (fun _ => ?_) (fun q => absurd q (by decide))
    refine tw_iconst (pc := 62) rfl tw_ic_m1 ?_
    refine tw_ireturn (pc := 63) rfl rfl ?_
    exact h0 (by omega)
theorem sp_DM_addCompound {d : Nat} {M : tw_M} {Q : tw_P} (hD : DI M) (h1 : (M 1 8).toInt < 12 → Q (some (16 + (M 1 8))) (tw_set M 1 8 ((M 1 8) + 1))) (h0 : ¬ ((M 1 8).toInt < 12) → Q (some (-1)) M) : tw_C (d + 1) j_DM_addCompound [.inr 1] M Q := by
  have hp := hD.2.1
  refine tw_enter pn_DM dc_DM_addCompound (Nat.le_of_ble_eq_true rfl) ?_
  have zm1 := tw_ti_m1
  have z1 := tw_ti_1
  have z12 := tw_ti_12
  have z16 := tw_ti_16
  refine tw_aload_n (pc := 0) rfl rfl ?_
  refine tw_getV (pc := 1) (v := (M 1 8)) rfl fl_DM_61 rfl rfl rfl ?_
  refine tw_bipush (pc := 4) rfl tw_bi_12 ?_
  refine tw_icmp_lt (pc := 6) (tgt := 11) rfl rfl (fun c1 => ?_) (fun c1 => ?_)
  · refine tw_bipush (pc := 11) rfl tw_bi_16 ?_
    refine tw_aload_n (pc := 13) rfl rfl ?_
    refine tw_getV (pc := 14) (v := (M 1 8)) rfl fl_DM_61 rfl rfl rfl ?_
    refine tw_iaddF (pc := 17) rfl ⟨by omega, by omega⟩ (fun e2 => ?_)
    refine tw_istore_n (pc := 18) rfl (Nat.le_of_ble_eq_true rfl) ?_
    refine tw_aload_n (pc := 19) rfl rfl ?_
    refine tw_dup (pc := 20) rfl ?_
    refine tw_getV (pc := 21) (v := (M 1 8)) rfl fl_DM_61 rfl rfl rfl ?_
    refine tw_iconst (pc := 24) rfl tw_ic_1 ?_
    refine tw_iaddF (pc := 25) rfl ⟨by omega, by omega⟩ (fun e3 => ?_)
    refine tw_putI (pc := 26) rfl fp_DM_61 rfl rfl rfl rfl ?_
    refine tw_iload_n (pc := 29) rfl rfl ?_
    refine tw_ireturn (pc := 30) rfl rfl ?_
    exact h1 (by omega)
  · refine tw_iconst (pc := 9) rfl tw_ic_m1 ?_
    refine tw_ireturn (pc := 10) rfl rfl ?_
    exact h0 (by omega)
theorem sp_DM_addMethod {d : Nat} {M : tw_M} {Q : tw_P} {t n l : Int32} (hD : DI M) (h1 : (16 ≤ t.toInt ∧ t.toInt < 16 + (M 1 8).toInt) ∧ (0 ≤ n.toInt ∧ n.toInt ≤ 65535) ∧ (0 ≤ l.toInt ∧ l.toInt ≤ 65535) ∧ (M 1 14).toInt < 40 ∧ (M 20 (t - 16).toInt.toNat).toInt < 5 → Q (some (M 1 14)) (tw_set (tw_set (tw_set (tw_set (tw_set (tw_set M 21 (M 1 14).toInt.toNat t) 22 (M 1 14).toInt.toNat n) 23 (M 1 14).toInt.toNat l) 1 14 ((M 1 14) + 1)) (8 + (t - 16).toInt.toNat) (M 20 (t - 16).toInt.toNat).toInt.toNat (M 1 14)) 20 (t - 16).toInt.toNat ((M 20 (t - 16).toInt.toNat) + 1))) (h0 : ¬ ((16 ≤ t.toInt ∧ t.toInt < 16 + (M 1 8).toInt) ∧ (0 ≤ n.toInt ∧ n.toInt ≤ 65535) ∧ (0 ≤ l.toInt ∧ l.toInt ≤ 65535) ∧ (M 1 14).toInt < 40 ∧ (M 20 (t - 16).toInt.toNat).toInt < 5) → Q (some (-1)) M) : tw_C (d + 2) j_DM_addMethod [.inr 1, .inl t, .inl n, .inl l] M Q := by
  have hc := hD.2.1
  have hm := hD.2.2.1
  have hk := hD.2.2.2.2.1 (t - 16).toInt.toNat
  refine tw_enter pn_DM dc_DM_addMethod (Nat.le_of_ble_eq_true rfl) ?_
  have zm1 := tw_ti_m1
  have z0 := tw_ti_0
  have z1 := tw_ti_1
  have z5 := tw_ti_5
  have z16 := tw_ti_16
  have z40 := tw_ti_40
  refine tw_aload_n (pc := 0) rfl rfl ?_
  refine tw_iload_n (pc := 1) rfl rfl ?_
  refine tw_inv1 (pc := 2) rfl lk_DM_64 (Nat.le_of_ble_eq_true rfl) rfl rfl (sp_DM_isCompound hD (fun c1 => ?_) (fun c1 => ?_))
  · refine tw_if_eq (pc := 5) (tgt := 31) rfl rfl (fun q => absurd q (by decide)) (fun _ => ?_)
    refine tw_iload_n (pc := 8) rfl rfl ?_
    refine tw_invs1 (pc := 9) rfl lk_DM_53 rfl (Nat.le_of_ble_eq_true rfl) (sp_DM_isBits (fun c2 => ?_) (fun c2 => ?_))
    · refine tw_if_eq (pc := 12) (tgt := 31) rfl rfl (fun q => absurd q (by decide)) (fun _ => ?_)
      refine tw_iload_n (pc := 15) rfl rfl ?_
      refine tw_invs1 (pc := 16) rfl lk_DM_53 rfl (Nat.le_of_ble_eq_true rfl) (sp_DM_isBits (fun c3 => ?_) (fun c3 => ?_))
      · refine tw_if_eq (pc := 19) (tgt := 31) rfl rfl (fun q => absurd q (by decide)) (fun _ => ?_)
        refine tw_aload_n (pc := 22) rfl rfl ?_
        refine tw_getV (pc := 23) (v := (M 1 14)) rfl fl_DM_67 rfl rfl rfl ?_
        refine tw_bipush (pc := 26) rfl tw_bi_40 ?_
        refine tw_icmp_lt (pc := 28) (tgt := 33) rfl rfl (fun c4 => ?_) (fun c4 => ?_)
        · refine tw_aload_n (pc := 33) rfl rfl ?_
          refine tw_getR (pc := 34) rfl fl_DM_32 rfl rfl ?_
          refine tw_iload_n (pc := 37) rfl rfl ?_
          refine tw_bipush (pc := 38) rfl tw_bi_16 ?_
          refine tw_isubF (pc := 40) rfl ⟨by omega, by omega⟩ (fun e5 => ?_)
          refine tw_iald (pc := 41) rfl rfl ⟨by omega, by omega⟩ ?_
          refine tw_istore (pc := 42) rfl (Nat.le_of_ble_eq_true rfl) ?_
          refine tw_iload (pc := 44) rfl rfl ?_
          refine tw_iconst (pc := 46) rfl tw_ic_5 ?_
          refine tw_icmp_lt (pc := 47) (tgt := 52) rfl rfl (fun c6 => ?_) (fun c6 => ?_)
          · refine tw_aload_n (pc := 52) rfl rfl ?_
            refine tw_getV (pc := 53) (v := (M 1 14)) rfl fl_DM_67 rfl rfl rfl ?_
            refine tw_istore (pc := 56) rfl (Nat.le_of_ble_eq_true rfl) ?_
            refine tw_aload_n (pc := 58) rfl rfl ?_
            refine tw_getR (pc := 59) rfl fl_DM_35 rfl rfl ?_
            refine tw_iload (pc := 62) rfl rfl ?_
            refine tw_iload_n (pc := 64) rfl rfl ?_
            refine tw_iast (pc := 65) rfl rfl ⟨by omega, by omega⟩ ?_
            refine tw_aload_n (pc := 66) rfl rfl ?_
            refine tw_getR (pc := 67) rfl fl_DM_38 rfl rfl ?_
            refine tw_iload (pc := 70) rfl rfl ?_
            refine tw_iload_n (pc := 72) rfl rfl ?_
            refine tw_iast (pc := 73) rfl rfl ⟨by omega, by omega⟩ ?_
            refine tw_aload_n (pc := 74) rfl rfl ?_
            refine tw_getR (pc := 75) rfl fl_DM_41 rfl rfl ?_
            refine tw_iload (pc := 78) rfl rfl ?_
            refine tw_iload_n (pc := 80) rfl rfl ?_
            refine tw_iast (pc := 81) rfl rfl ⟨by omega, by omega⟩ ?_
            refine tw_aload_n (pc := 82) rfl rfl ?_
            refine tw_dup (pc := 83) rfl ?_
            refine tw_getV (pc := 84) (v := (M 1 14)) rfl fl_DM_67 rfl rfl rfl ?_
            refine tw_iconst (pc := 87) rfl tw_ic_1 ?_
            refine tw_iaddF (pc := 88) rfl ⟨by omega, by omega⟩ (fun e7 => ?_)
            refine tw_putI (pc := 89) rfl fp_DM_67 rfl rfl rfl rfl ?_
            refine tw_aload_n (pc := 92) rfl rfl ?_
            refine tw_getR (pc := 93) rfl fl_DM_29 rfl rfl ?_
            refine tw_iload_n (pc := 96) rfl rfl ?_
            refine tw_bipush (pc := 97) rfl tw_bi_16 ?_
            refine tw_isubF (pc := 99) rfl ⟨by omega, by omega⟩ (fun e8 => ?_)
            refine tw_aald (pc := 100) rfl rfl ⟨by omega, by omega⟩ ?_
            refine tw_iload (pc := 101) rfl rfl ?_
            refine tw_iload (pc := 103) rfl rfl ?_
            refine tw_iast (pc := 105) rfl (tw_lay_r8 (by omega)) ⟨by omega, by omega⟩ ?_
            refine tw_aload_n (pc := 106) rfl rfl ?_
            refine tw_getR (pc := 107) rfl fl_DM_32 rfl rfl ?_
            refine tw_iload_n (pc := 110) rfl rfl ?_
            refine tw_bipush (pc := 111) rfl tw_bi_16 ?_
            refine tw_isubF (pc := 113) rfl ⟨by omega, by omega⟩ (fun e9 => ?_)
            refine tw_iload (pc := 114) rfl rfl ?_
            refine tw_iconst (pc := 116) rfl tw_ic_1 ?_
            refine tw_iaddF (pc := 117) rfl ⟨by omega, by omega⟩ (fun e10 => ?_)
            refine tw_iast (pc := 118) rfl rfl ⟨by omega, by omega⟩ ?_
            refine tw_iload (pc := 119) rfl rfl ?_
            refine tw_ireturn (pc := 121) rfl rfl ?_
            exact h1 (by omega)
          · refine tw_iconst (pc := 50) rfl tw_ic_m1 ?_
            refine tw_ireturn (pc := 51) rfl rfl ?_
            exact h0 (by omega)
        · refine tw_iconst (pc := 31) rfl tw_ic_m1 ?_
          refine tw_ireturn (pc := 32) rfl rfl ?_
          exact h0 (by omega)
      · refine tw_if_eq (pc := 19) (tgt := 31) rfl rfl (fun _ => ?_) (fun q => absurd q (by decide))
        refine tw_iconst (pc := 31) rfl tw_ic_m1 ?_
        refine tw_ireturn (pc := 32) rfl rfl ?_
        exact h0 (by omega)
    · refine tw_if_eq (pc := 12) (tgt := 31) rfl rfl (fun _ => ?_) (fun q => absurd q (by decide))
      refine tw_iconst (pc := 31) rfl tw_ic_m1 ?_
      refine tw_ireturn (pc := 32) rfl rfl ?_
      exact h0 (by omega)
  · refine tw_if_eq (pc := 5) (tgt := 31) rfl rfl (fun _ => ?_) (fun q => absurd q (by decide))
    refine tw_iconst (pc := 31) rfl tw_ic_m1 ?_
    refine tw_ireturn (pc := 32) rfl rfl ?_
    exact h0 (by omega)
theorem sp_DM_addPart {d : Nat} {M : tw_M} {Q : tw_P} {m t : Int32} (hD : DI M) (h1 : (0 ≤ m.toInt ∧ m.toInt < (M 1 14).toInt) ∧ ((0 ≤ t.toInt ∧ t.toInt < (M 1 5).toInt) ∨ (16 ≤ t.toInt ∧ t.toInt < 16 + (M 1 8).toInt)) ∧ (M 65 m.toInt.toNat).toInt < 5 → Q (some ((M 65 m.toInt.toNat) + 1)) (tw_set (tw_set M (25 + m.toInt.toNat) (M 65 m.toInt.toNat).toInt.toNat t) 65 m.toInt.toNat ((M 65 m.toInt.toNat) + 1))) (h0 : ¬ ((0 ≤ m.toInt ∧ m.toInt < (M 1 14).toInt) ∧ ((0 ≤ t.toInt ∧ t.toInt < (M 1 5).toInt) ∨ (16 ≤ t.toInt ∧ t.toInt < 16 + (M 1 8).toInt)) ∧ (M 65 m.toInt.toNat).toInt < 5) → Q (some (-1)) M) : tw_C (d + 3) j_DM_addPart [.inr 1, .inl m, .inl t] M Q := by
  have hm := hD.2.2.1
  have hk := hD.2.2.2.2.2 m.toInt.toNat
  refine tw_enter pn_DM dc_DM_addPart (Nat.le_of_ble_eq_true rfl) ?_
  have zm1 := tw_ti_m1
  have z0 := tw_ti_0
  have z1 := tw_ti_1
  have z5 := tw_ti_5
  refine tw_aload_n (pc := 0) rfl rfl ?_
  refine tw_iload_n (pc := 1) rfl rfl ?_
  refine tw_inv1 (pc := 2) rfl lk_DM_70 (Nat.le_of_ble_eq_true rfl) rfl rfl (sp_DM_isMethod (fun c1 => ?_) (fun c1 => ?_))
  · refine tw_if_eq (pc := 5) (tgt := 26) rfl rfl (fun q => absurd q (by decide)) (fun _ => ?_)
    refine tw_aload_n (pc := 8) rfl rfl ?_
    refine tw_iload_n (pc := 9) rfl rfl ?_
    refine tw_inv1 (pc := 10) rfl lk_DM_73 (Nat.le_of_ble_eq_true rfl) rfl rfl (sp_DM_isTask hD (fun c2 => ?_) (fun c2 => ?_))
    · refine tw_if_eq (pc := 13) (tgt := 26) rfl rfl (fun q => absurd q (by decide)) (fun _ => ?_)
      refine tw_aload_n (pc := 16) rfl rfl ?_
      refine tw_getR (pc := 17) rfl fl_DM_47 rfl rfl ?_
      refine tw_iload_n (pc := 20) rfl rfl ?_
      refine tw_iald (pc := 21) rfl rfl ⟨by omega, by omega⟩ ?_
      refine tw_iconst (pc := 22) rfl tw_ic_5 ?_
      refine tw_icmp_lt (pc := 23) (tgt := 28) rfl rfl (fun c3 => ?_) (fun c3 => ?_)
      · refine tw_aload_n (pc := 28) rfl rfl ?_
        refine tw_getR (pc := 29) rfl fl_DM_44 rfl rfl ?_
        refine tw_iload_n (pc := 32) rfl rfl ?_
        refine tw_aald (pc := 33) rfl rfl ⟨by omega, by omega⟩ ?_
        refine tw_aload_n (pc := 34) rfl rfl ?_
        refine tw_getR (pc := 35) rfl fl_DM_47 rfl rfl ?_
        refine tw_iload_n (pc := 38) rfl rfl ?_
        refine tw_iald (pc := 39) rfl rfl ⟨by omega, by omega⟩ ?_
        refine tw_iload_n (pc := 40) rfl rfl ?_
        refine tw_iast (pc := 41) rfl (tw_lay_r25 (by omega)) ⟨by omega, by omega⟩ ?_
        refine tw_aload_n (pc := 42) rfl rfl ?_
        refine tw_getR (pc := 43) rfl fl_DM_47 rfl rfl ?_
        refine tw_iload_n (pc := 46) rfl rfl ?_
        refine tw_dup2 (pc := 47) rfl ?_
        refine tw_ialdV (pc := 48) (v := (M 65 m.toInt.toNat)) rfl rfl ⟨by omega, by omega⟩ (by rw [tw_set_q _ _ (by omega)]) ?_
        refine tw_iconst (pc := 49) rfl tw_ic_1 ?_
        refine tw_iaddF (pc := 50) rfl ⟨by omega, by omega⟩ (fun e4 => ?_)
        refine tw_iast (pc := 51) rfl rfl ⟨by omega, by omega⟩ ?_
        refine tw_aload_n (pc := 52) rfl rfl ?_
        refine tw_getR (pc := 53) rfl fl_DM_47 rfl rfl ?_
        refine tw_iload_n (pc := 56) rfl rfl ?_
        refine tw_ialdV (pc := 57) (v := ((M 65 m.toInt.toNat) + 1)) rfl rfl ⟨by omega, by omega⟩ (tw_set_s _ _ _ _) ?_
        refine tw_ireturn (pc := 58) rfl rfl ?_
        exact h1 (by omega)
      · refine tw_iconst (pc := 26) rfl tw_ic_m1 ?_
        refine tw_ireturn (pc := 27) rfl rfl ?_
        exact h0 (by omega)
    · refine tw_if_eq (pc := 13) (tgt := 26) rfl rfl (fun _ => ?_) (fun q => absurd q (by decide))
      refine tw_iconst (pc := 26) rfl tw_ic_m1 ?_
      refine tw_ireturn (pc := 27) rfl rfl ?_
      exact h0 (by omega)
  · refine tw_if_eq (pc := 5) (tgt := 26) rfl rfl (fun _ => ?_) (fun q => absurd q (by decide))
    refine tw_iconst (pc := 26) rfl tw_ic_m1 ?_
    refine tw_ireturn (pc := 27) rfl rfl ?_
    exact h0 (by omega)
theorem sp_DM_setStart {d : Nat} {M : tw_M} {Q : tw_P} {f : Int32} (hD : DI M) (h1 : (0 ≤ f.toInt ∧ f.toInt ≤ 65535) → Q (some f) (tw_set M 1 17 f)) (h0 : ¬ ((0 ≤ f.toInt ∧ f.toInt ≤ 65535)) → Q (some (-1)) M) : tw_C (d + 2) j_DM_setStart [.inr 1, .inl f] M Q := by
  refine tw_enter pn_DM dc_DM_setStart (Nat.le_of_ble_eq_true rfl) ?_
  have zm1 := tw_ti_m1
  have z0 := tw_ti_0
  refine tw_iload_n (pc := 0) rfl rfl ?_
  refine tw_invs1 (pc := 1) rfl lk_DM_53 rfl (Nat.le_of_ble_eq_true rfl) (sp_DM_isBits (fun c1 => ?_) (fun c1 => ?_))
  · refine tw_if_ne (pc := 4) (tgt := 9) rfl rfl (fun _ => ?_) (fun q => absurd q (by decide))
    refine tw_aload_n (pc := 9) rfl rfl ?_
    refine tw_iload_n (pc := 10) rfl rfl ?_
    refine tw_putI (pc := 11) rfl fp_DM_76 rfl rfl rfl rfl ?_
    refine tw_iload_n (pc := 14) rfl rfl ?_
    refine tw_ireturn (pc := 15) rfl rfl ?_
    exact h1 (by omega)
  · refine tw_if_ne (pc := 4) (tgt := 9) rfl rfl (fun q => absurd q (by decide)) (fun _ => ?_)
    refine tw_iconst (pc := 7) rfl tw_ic_m1 ?_
    refine tw_ireturn (pc := 8) rfl rfl ?_
    exact h0 (by omega)
theorem sp_DM_addAim {d : Nat} {M : tw_M} {Q : tw_P} {t : Int32} (hD : DI M) (h1 : ((0 ≤ t.toInt ∧ t.toInt < (M 1 5).toInt) ∨ (16 ≤ t.toInt ∧ t.toInt < 16 + (M 1 8).toInt)) ∧ (M 1 16).toInt < 6 → Q (some ((M 1 16) + 1)) (tw_set (tw_set M 66 (M 1 16).toInt.toNat t) 1 16 ((M 1 16) + 1))) (h0 : ¬ (((0 ≤ t.toInt ∧ t.toInt < (M 1 5).toInt) ∨ (16 ≤ t.toInt ∧ t.toInt < 16 + (M 1 8).toInt)) ∧ (M 1 16).toInt < 6) → Q (some (-1)) M) : tw_C (d + 3) j_DM_addAim [.inr 1, .inl t] M Q := by
  have ha := hD.2.2.2.1
  refine tw_enter pn_DM dc_DM_addAim (Nat.le_of_ble_eq_true rfl) ?_
  have zm1 := tw_ti_m1
  have z0 := tw_ti_0
  have z1 := tw_ti_1
  have z6 := tw_ti_6
  refine tw_aload_n (pc := 0) rfl rfl ?_
  refine tw_iload_n (pc := 1) rfl rfl ?_
  refine tw_inv1 (pc := 2) rfl lk_DM_73 (Nat.le_of_ble_eq_true rfl) rfl rfl (sp_DM_isTask hD (fun c1 => ?_) (fun c1 => ?_))
  · refine tw_if_eq (pc := 5) (tgt := 17) rfl rfl (fun q => absurd q (by decide)) (fun _ => ?_)
    refine tw_aload_n (pc := 8) rfl rfl ?_
    refine tw_getV (pc := 9) (v := (M 1 16)) rfl fl_DM_79 rfl rfl rfl ?_
    refine tw_bipush (pc := 12) rfl tw_bi_6 ?_
    refine tw_icmp_lt (pc := 14) (tgt := 19) rfl rfl (fun c2 => ?_) (fun c2 => ?_)
    · refine tw_aload_n (pc := 19) rfl rfl ?_
      refine tw_getR (pc := 20) rfl fl_DM_50 rfl rfl ?_
      refine tw_aload_n (pc := 23) rfl rfl ?_
      refine tw_getV (pc := 24) (v := (M 1 16)) rfl fl_DM_79 rfl rfl rfl ?_
      refine tw_iload_n (pc := 27) rfl rfl ?_
      refine tw_iast (pc := 28) rfl rfl ⟨by omega, by omega⟩ ?_
      refine tw_aload_n (pc := 29) rfl rfl ?_
      refine tw_dup (pc := 30) rfl ?_
      refine tw_getV (pc := 31) (v := (M 1 16)) rfl fl_DM_79 rfl rfl rfl ?_
      refine tw_iconst (pc := 34) rfl tw_ic_1 ?_
      refine tw_iaddF (pc := 35) rfl ⟨by omega, by omega⟩ (fun e3 => ?_)
      refine tw_putI (pc := 36) rfl fp_DM_79 rfl rfl rfl rfl ?_
      refine tw_aload_n (pc := 39) rfl rfl ?_
      refine tw_getV (pc := 40) (v := ((M 1 16) + 1)) rfl fl_DM_79 rfl rfl rfl ?_
      refine tw_ireturn (pc := 43) rfl rfl ?_
      exact h1 (by omega)
    · refine tw_iconst (pc := 17) rfl tw_ic_m1 ?_
      refine tw_ireturn (pc := 18) rfl rfl ?_
      exact h0 (by omega)
  · refine tw_if_eq (pc := 5) (tgt := 17) rfl rfl (fun _ => ?_) (fun q => absurd q (by decide))
    refine tw_iconst (pc := 17) rfl tw_ic_m1 ?_
    refine tw_ireturn (pc := 18) rfl rfl ?_
    exact h0 (by omega)
theorem sp_DM_clearAims {d : Nat} {M : tw_M} {Q : tw_P} (h : Q (some (M 1 16)) (tw_set M 1 16 0)) : tw_C (d + 1) j_DM_clearAims [.inr 1] M Q := by
  refine tw_enter pn_DM dc_DM_clearAims (Nat.le_of_ble_eq_true rfl) ?_
  have z0 := tw_ti_0
  refine tw_aload_n (pc := 0) rfl rfl ?_
  refine tw_getV (pc := 1) (v := (M 1 16)) rfl fl_DM_79 rfl rfl rfl ?_
  refine tw_istore_n (pc := 4) rfl (Nat.le_of_ble_eq_true rfl) ?_
  refine tw_aload_n (pc := 5) rfl rfl ?_
  refine tw_iconst (pc := 6) rfl tw_ic_0 ?_
  refine tw_putI (pc := 7) rfl fp_DM_79 rfl rfl rfl rfl ?_
  refine tw_iload_n (pc := 10) rfl rfl ?_
  refine tw_ireturn (pc := 11) rfl rfl ?_
  exact h
