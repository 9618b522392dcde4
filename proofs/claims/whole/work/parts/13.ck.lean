theorem sp_CK_begin {d : Nat} {M : tw_M} {Q : tw_P} (hD : DI M) (h : Q none (ckC M)) : tw_C (d + 4) j_CK_begin [.inr 82] M Q := by
  have hD1 : DI (tw_set (tw_set (tw_set M 82 4 1) 82 3 0) 82 2 (M 1 17)) := hD
  refine tw_enter pn_CK dc_CK_begin (Nat.le_of_ble_eq_true rfl) ?_
  have z0 := tw_ti_0
  have z1 := tw_ti_1
  refine tw_aload_n (pc := 0) rfl rfl ?_
  refine tw_iconst (pc := 1) rfl tw_ic_1 ?_
  refine tw_putI (pc := 2) rfl fp_CK_22 rfl rfl rfl rfl ?_
  refine tw_aload_n (pc := 5) rfl rfl ?_
  refine tw_iconst (pc := 6) rfl tw_ic_0 ?_
  refine tw_putI (pc := 7) rfl fp_CK_26 rfl rfl rfl rfl ?_
  refine tw_aload_n (pc := 10) rfl rfl ?_
  refine tw_aload_n (pc := 11) rfl rfl ?_
  refine tw_getR (pc := 12) rfl fl_CK_18 rfl rfl ?_
  refine tw_inv0 (pc := 15) rfl lk_CK_30 (Nat.le_of_ble_eq_true rfl) rfl rfl (sp_DM_startFacts ?_)
  refine tw_putI (pc := 18) rfl fp_CK_36 rfl rfl rfl rfl ?_
  refine tw_aload_n (pc := 21) rfl rfl ?_
  refine tw_getR (pc := 22) rfl fl_CK_12 rfl rfl ?_
  refine tw_aload_n (pc := 25) rfl rfl ?_
  refine tw_getR (pc := 26) rfl fl_CK_18 rfl rfl ?_
  refine tw_inv1 (pc := 29) rfl lk_CK_39 (Nat.le_of_ble_eq_true rfl) rfl rfl (sp_RW_beginWithAims_83 hD1 ?_)
  refine tw_return (pc := 32) rfl trivial ?_
  exact h
theorem sp_CK_discard {d : Nat} {M : tw_M} {Q : tw_P} (h : Q none (tw_set M 82 4 0)) : tw_C (d + 1) j_CK_discard [.inr 82] M Q := by
  refine tw_enter pn_CK dc_CK_discard (Nat.le_of_ble_eq_true rfl) ?_
  have z0 := tw_ti_0
  refine tw_aload_n (pc := 0) rfl rfl ?_
  refine tw_iconst (pc := 1) rfl tw_ic_0 ?_
  refine tw_putI (pc := 2) rfl fp_CK_22 rfl rfl rfl rfl ?_
  refine tw_return (pc := 5) rfl trivial ?_
  exact h
theorem sp_CK_remaining {d : Nat} {M : tw_M} {Q : tw_P} (hR : ¬ M 82 4 = 0 → RowI 83 M) (h1 : ¬ M 82 4 = 0 → Q (some (lenV 83 M)) M) (h0 : M 82 4 = 0 → Q (some (-1)) M) : tw_C (d + 2) j_CK_remaining [.inr 82] M Q := by
  refine tw_enter pn_CK dc_CK_remaining (Nat.le_of_ble_eq_true rfl) ?_
  have zm1 := tw_ti_m1
  have z0 := tw_ti_0
  refine tw_aload_n (pc := 0) rfl rfl ?_
  refine tw_getV (pc := 1) (v := (M 82 4)) rfl fl_CK_22 rfl rfl rfl ?_
  refine tw_if_eq (pc := 4) (tgt := 17) rfl rfl (fun c1 => ?_) (fun c1 => ?_)
  · refine tw_iconst (pc := 17) rfl tw_ic_m1 ?_
    refine tw_ireturn (pc := 18) rfl rfl ?_
    exact h0 c1.1
  · refine tw_aload_n (pc := 7) rfl rfl ?_
    refine tw_getR (pc := 8) rfl fl_CK_12 rfl rfl ?_
    refine tw_inv0 (pc := 11) rfl lk_CK_43 (Nat.le_of_ble_eq_true rfl) rfl rfl (sp_RW_length_83 (hR c1.1) rfl ?_)
    refine tw_goto (pc := 14) (tgt := 18) rfl rfl ?_
    refine tw_ireturn (pc := 18) rfl rfl ?_
    exact h1 c1.1
theorem sp_CK_faultOf {d : Nat} {M : tw_M} {Q : tw_P} {t m : Int32} {v : Int32} (hD : DI M) (hR : RowI 83 M) (hv : faC M t m = v) (h : Q (some v) M) : tw_C (d + 3) j_CK_faultOf [.inr 82, .inl t, .inl m] M Q := by
  subst hv
  refine tw_enter pn_CK dc_CK_faultOf (Nat.le_of_ble_eq_true rfl) ?_
  have z0 := tw_ti_0
  have z1 := tw_ti_1
  have z2 := tw_ti_2
  have z3 := tw_ti_3
  have z4 := tw_ti_4
  have z5 := tw_ti_5
  have z6 := tw_ti_6
  have z48 := tw_ti_48
  refine tw_aload_n (pc := 0) rfl rfl ?_
  refine tw_getR (pc := 1) rfl fl_CK_12 rfl rfl ?_
  refine tw_inv0 (pc := 4) rfl lk_CK_43 (Nat.le_of_ble_eq_true rfl) rfl rfl (sp_RW_length_83 hR rfl ?_)
  refine tw_if_ne (pc := 7) (tgt := 12) rfl rfl (fun c2 => ?_) (fun c2 => ?_)
  · refine tw_aload_n (pc := 12) rfl rfl ?_
    refine tw_getR (pc := 13) rfl fl_CK_12 rfl rfl ?_
    refine tw_inv0 (pc := 16) rfl lk_CK_54 (Nat.le_of_ble_eq_true rfl) rfl rfl (sp_RW_firstTask_83 hR rfl ?_)
    refine tw_iload_n (pc := 19) rfl rfl ?_
    refine tw_icmp_eq (pc := 20) (tgt := 25) rfl rfl (fun c4 => ?_) (fun c4 => ?_)
    · refine tw_aload_n (pc := 25) rfl rfl ?_
      refine tw_getV (pc := 26) (v := (M 82 3)) rfl fl_CK_26 rfl rfl rfl ?_
      refine tw_bipush (pc := 29) rfl tw_bi_48 ?_
      refine tw_icmp_lt (pc := 31) (tgt := 36) rfl rfl (fun c5 => ?_) (fun c5 => ?_)
      · refine tw_aload_n (pc := 36) rfl rfl ?_
        refine tw_getR (pc := 37) rfl fl_CK_18 rfl rfl ?_
        refine tw_iload_n (pc := 40) rfl rfl ?_
        refine tw_inv1 (pc := 41) rfl lk_CK_57 (Nat.le_of_ble_eq_true rfl) rfl rfl (sp_DM_isPrimitive (fun c6 => ?_) (fun c6 => ?_))
        · refine tw_if_eq (pc := 44) (tgt := 68) rfl rfl (fun q => absurd q (by decide)) (fun _ => ?_)
          refine tw_aload_n (pc := 47) rfl rfl ?_
          refine tw_getR (pc := 48) rfl fl_CK_18 rfl rfl ?_
          refine tw_iload_n (pc := 51) rfl rfl ?_
          refine tw_aload_n (pc := 52) rfl rfl ?_
          refine tw_getV (pc := 53) (v := (M 82 2)) rfl fl_CK_36 rfl rfl rfl ?_
          refine tw_inv2 (pc := 56) rfl lk_CK_61 (Nat.le_of_ble_eq_true rfl) rfl rfl (sp_DM_canDo hD (fun c7 => ?_) (fun c7 => ?_))
          · refine tw_if_eq (pc := 59) (tgt := 66) rfl rfl (fun q => absurd q (by decide)) (fun _ => ?_)
            refine tw_iconst (pc := 62) rfl tw_ic_0 ?_
            refine tw_goto (pc := 63) (tgt := 67) rfl rfl ?_
            refine tw_ireturn (pc := 67) rfl rfl ?_
            first
            | (unfold faC at h
               have w0 : ¬ (lenV 83 M = 0) := And.left (by assumption)
               rw [if_neg w0] at h
               have w1 : tskV 83 M = t := And.left (by assumption)
               rw [if_pos w1] at h
               have w2 : ¬ (48 ≤ (M 82 3).toInt) := by omega
               rw [if_neg w2] at h
               have w3 : (0 ≤ t.toInt ∧ t.toInt < (M 1 5).toInt) := by assumption
               rw [if_pos w3] at h
               have w4 : pDo M t (M 82 2) := by assumption
               rw [if_pos w4] at h
               exact h)
            | (unfold faC at h
               have w0 : ¬ (lenV 83 M = 0) := And.left (by assumption)
               rw [if_neg w0] at h
               have w1 : tskV 83 M = t := And.left (by assumption)
               rw [if_pos w1] at h
               have w2 : ¬ (48 ≤ (M 82 3).toInt) := by omega
               rw [if_neg w2] at h
               have w3 : ¬ (0 ≤ t.toInt ∧ t.toInt < (M 1 5).toInt) := by assumption
               rw [if_neg w3] at h
               have w4 : ((0 ≤ m.toInt ∧ m.toInt < (M 1 14).toInt) ∧ M 21 m.toInt.toNat = t) := by assumption
               rw [if_pos w4] at h
               have w5 : pMH M m (M 82 2) := by assumption
               rw [if_pos w5] at h
               exact h)
          · refine tw_if_eq (pc := 59) (tgt := 66) rfl rfl (fun _ => ?_) (fun q => absurd q (by decide))
            refine tw_iconst (pc := 66) rfl tw_ic_4 ?_
            refine tw_ireturn (pc := 67) rfl rfl ?_
            unfold faC at h
            have w0 : ¬ (lenV 83 M = 0) := And.left (by assumption)
            rw [if_neg w0] at h
            have w1 : tskV 83 M = t := And.left (by assumption)
            rw [if_pos w1] at h
            have w2 : ¬ (48 ≤ (M 82 3).toInt) := by omega
            rw [if_neg w2] at h
            have w3 : (0 ≤ t.toInt ∧ t.toInt < (M 1 5).toInt) := by assumption
            rw [if_pos w3] at h
            have w4 : ¬ pDo M t (M 82 2) := by assumption
            rw [if_neg w4] at h
            exact h
        · refine tw_if_eq (pc := 44) (tgt := 68) rfl rfl (fun _ => ?_) (fun q => absurd q (by decide))
          refine tw_aload_n (pc := 68) rfl rfl ?_
          refine tw_getR (pc := 69) rfl fl_CK_18 rfl rfl ?_
          refine tw_iload_n (pc := 72) rfl rfl ?_
          refine tw_iload_n (pc := 73) rfl rfl ?_
          refine tw_inv2 (pc := 74) rfl lk_CK_65 (Nat.le_of_ble_eq_true rfl) rfl rfl (sp_DM_isMethodOf hD (fun c8 => ?_) (fun c8 => ?_))
          · refine tw_if_ne (pc := 77) (tgt := 82) rfl rfl (fun _ => ?_) (fun q => absurd q (by decide))
            refine tw_aload_n (pc := 82) rfl rfl ?_
            refine tw_getR (pc := 83) rfl fl_CK_18 rfl rfl ?_
            refine tw_iload_n (pc := 86) rfl rfl ?_
            refine tw_aload_n (pc := 87) rfl rfl ?_
            refine tw_getV (pc := 88) (v := (M 82 2)) rfl fl_CK_36 rfl rfl rfl ?_
            refine tw_inv2 (pc := 91) rfl lk_CK_68 (Nat.le_of_ble_eq_true rfl) rfl rfl (sp_DM_methodHolds hD (fun c9 => ?_) (fun c9 => ?_))
            · refine tw_if_eq (pc := 94) (tgt := 101) rfl rfl (fun q => absurd q (by decide)) (fun _ => ?_)
              refine tw_iconst (pc := 97) rfl tw_ic_0 ?_
              refine tw_goto (pc := 98) (tgt := 103) rfl rfl ?_
              refine tw_ireturn (pc := 103) rfl rfl ?_
              first
              | (unfold faC at h
                 have w0 : ¬ (lenV 83 M = 0) := And.left (by assumption)
                 rw [if_neg w0] at h
                 have w1 : tskV 83 M = t := And.left (by assumption)
                 rw [if_pos w1] at h
                 have w2 : ¬ (48 ≤ (M 82 3).toInt) := by omega
                 rw [if_neg w2] at h
                 have w3 : (0 ≤ t.toInt ∧ t.toInt < (M 1 5).toInt) := by assumption
                 rw [if_pos w3] at h
                 have w4 : pDo M t (M 82 2) := by assumption
                 rw [if_pos w4] at h
                 exact h)
              | (unfold faC at h
                 have w0 : ¬ (lenV 83 M = 0) := And.left (by assumption)
                 rw [if_neg w0] at h
                 have w1 : tskV 83 M = t := And.left (by assumption)
                 rw [if_pos w1] at h
                 have w2 : ¬ (48 ≤ (M 82 3).toInt) := by omega
                 rw [if_neg w2] at h
                 have w3 : ¬ (0 ≤ t.toInt ∧ t.toInt < (M 1 5).toInt) := by assumption
                 rw [if_neg w3] at h
                 have w4 : ((0 ≤ m.toInt ∧ m.toInt < (M 1 14).toInt) ∧ M 21 m.toInt.toNat = t) := by assumption
                 rw [if_pos w4] at h
                 have w5 : pMH M m (M 82 2) := by assumption
                 rw [if_pos w5] at h
                 exact h)
            · refine tw_if_eq (pc := 94) (tgt := 101) rfl rfl (fun _ => ?_) (fun q => absurd q (by decide))
              refine tw_bipush (pc := 101) rfl tw_bi_6 ?_
              refine tw_ireturn (pc := 103) rfl rfl ?_
              unfold faC at h
              have w0 : ¬ (lenV 83 M = 0) := And.left (by assumption)
              rw [if_neg w0] at h
              have w1 : tskV 83 M = t := And.left (by assumption)
              rw [if_pos w1] at h
              have w2 : ¬ (48 ≤ (M 82 3).toInt) := by omega
              rw [if_neg w2] at h
              have w3 : ¬ (0 ≤ t.toInt ∧ t.toInt < (M 1 5).toInt) := by assumption
              rw [if_neg w3] at h
              have w4 : ((0 ≤ m.toInt ∧ m.toInt < (M 1 14).toInt) ∧ M 21 m.toInt.toNat = t) := by assumption
              rw [if_pos w4] at h
              have w5 : ¬ pMH M m (M 82 2) := by assumption
              rw [if_neg w5] at h
              exact h
          · refine tw_if_ne (pc := 77) (tgt := 82) rfl rfl (fun q => absurd q (by decide)) (fun _ => ?_)
            refine tw_iconst (pc := 80) rfl tw_ic_5 ?_
            refine tw_ireturn (pc := 81) rfl rfl ?_
            unfold faC at h
            have w0 : ¬ (lenV 83 M = 0) := And.left (by assumption)
            rw [if_neg w0] at h
            have w1 : tskV 83 M = t := And.left (by assumption)
            rw [if_pos w1] at h
            have w2 : ¬ (48 ≤ (M 82 3).toInt) := by omega
            rw [if_neg w2] at h
            have w3 : ¬ (0 ≤ t.toInt ∧ t.toInt < (M 1 5).toInt) := by assumption
            rw [if_neg w3] at h
            have w4 : ¬ ((0 ≤ m.toInt ∧ m.toInt < (M 1 14).toInt) ∧ M 21 m.toInt.toNat = t) := by assumption
            rw [if_neg w4] at h
            exact h
      · refine tw_iconst (pc := 34) rfl tw_ic_3 ?_
        refine tw_ireturn (pc := 35) rfl rfl ?_
        unfold faC at h
        have w0 : ¬ (lenV 83 M = 0) := And.left (by assumption)
        rw [if_neg w0] at h
        have w1 : tskV 83 M = t := And.left (by assumption)
        rw [if_pos w1] at h
        have w2 : 48 ≤ (M 82 3).toInt := by omega
        rw [if_pos w2] at h
        exact h
    · refine tw_iconst (pc := 23) rfl tw_ic_2 ?_
      refine tw_ireturn (pc := 24) rfl rfl ?_
      unfold faC at h
      have w0 : ¬ (lenV 83 M = 0) := And.left (by assumption)
      rw [if_neg w0] at h
      have w1 : ¬ (tskV 83 M = t) := And.left (by assumption)
      rw [if_neg w1] at h
      exact h
  · refine tw_iconst (pc := 10) rfl tw_ic_1 ?_
    refine tw_ireturn (pc := 11) rfl rfl ?_
    unfold faC at h
    have w0 : lenV 83 M = 0 := And.left (by assumption)
    rw [if_pos w0] at h
    exact h
theorem sp_CK_take {d : Nat} {M : tw_M} {Q : tw_P} {t m : Int32} (hD : DI M) (hR : RowI 83 M) (hne : ¬ M 83 4 = -1) (hx : -1 ≤ (M 86 (M 83 4).toInt.toNat).toInt ∧ (M 86 (M 83 4).toInt.toNat).toInt < (M 83 5).toInt) (hc : (M 83 5).toInt + 5 ≤ 246) (hm : ¬ (0 ≤ t.toInt ∧ t.toInt < (M 1 5).toInt) → 0 ≤ m.toInt ∧ m.toInt < (M 1 14).toInt) (h : Q none (tkC M t m)) : tw_C (d + 4) j_CK_take [.inr 82, .inl t, .inl m] M Q := by
  have hD1 : DI (tw_set M 83 4 (M 86 (M 83 4).toInt.toNat)) := hD
  have hR1 : RowI 83 (tw_set M 83 4 (M 86 (M 83 4).toInt.toNat)) := ⟨hx.1, hx.2, hR.2.2⟩
  refine tw_enter pn_CK dc_CK_take (Nat.le_of_ble_eq_true rfl) ?_
  have zm1 := tw_ti_m1
  have z0 := tw_ti_0
  have z1 := tw_ti_1
  refine tw_aload_n (pc := 0) rfl rfl ?_
  refine tw_getR (pc := 1) rfl fl_CK_12 rfl rfl ?_
  refine tw_inv0 (pc := 4) rfl lk_CK_71 (Nat.le_of_ble_eq_true rfl) rfl rfl (sp_RW_takeFirstN_83 hR hne ?_)
  refine tw_aload_n (pc := 7) rfl rfl ?_
  refine tw_getR (pc := 8) rfl fl_CK_18 rfl rfl ?_
  refine tw_iload_n (pc := 11) rfl rfl ?_
  refine tw_inv1 (pc := 12) rfl lk_CK_57 (Nat.le_of_ble_eq_true rfl) rfl rfl (sp_DM_isPrimitive (fun c2 => ?_) (fun c2 => ?_))
  · refine tw_if_eq (pc := 15) (tgt := 37) rfl rfl (fun q => absurd q (by decide)) (fun _ => ?_)
    refine tw_aload_n (pc := 18) rfl rfl ?_
    refine tw_aload_n (pc := 19) rfl rfl ?_
    refine tw_getR (pc := 20) rfl fl_CK_18 rfl rfl ?_
    refine tw_iload_n (pc := 23) rfl rfl ?_
    refine tw_aload_n (pc := 24) rfl rfl ?_
    refine tw_getV (pc := 25) (v := (M 82 2)) rfl fl_CK_36 rfl rfl rfl ?_
    refine tw_inv2 (pc := 28) rfl lk_CK_74 (Nat.le_of_ble_eq_true rfl) rfl rfl (sp_DM_factsAfter hD1 rfl ?_)
    refine tw_putI (pc := 31) rfl fp_CK_36 rfl rfl rfl rfl ?_
    refine tw_goto (pc := 34) (tgt := 50) rfl rfl ?_
    refine tw_aload_n (pc := 50) rfl rfl ?_
    refine tw_dup (pc := 51) rfl ?_
    refine tw_getV (pc := 52) (v := (M 82 3)) rfl fl_CK_26 rfl rfl (by first | rfl | exact e82) ?_
    refine tw_iconst (pc := 55) rfl tw_ic_1 ?_
    refine tw_iadd (pc := 56) rfl ?_
    refine tw_putI (pc := 57) rfl fp_CK_26 rfl rfl rfl rfl ?_
    refine tw_return (pc := 60) rfl trivial ?_
    unfold tkC at h
    first
    | (have hp : (0 ≤ t.toInt ∧ t.toInt < (M 1 5).toInt) := by assumption
       rw [if_pos hp] at h
       exact h)
    | (have hp : ¬ (0 ≤ t.toInt ∧ t.toInt < (M 1 5).toInt) := by assumption
       rw [if_neg hp] at h
       rw [e25]
       exact h)
  · refine tw_if_eq (pc := 15) (tgt := 37) rfl rfl (fun _ => ?_) (fun q => absurd q (by decide))
    have hm2 := hm (by assumption)
    have hI := hD.2.2.1
    have e25 : (tw_set M 83 4 (M 86 (M 83 4).toInt.toNat)) (25 + m.toInt.toNat) = M (25 + m.toInt.toNat) := tw_set_q _ _ (by omega)
    have e82 : (putAll 83 (-1) (tw_set M 83 4 (M 86 (M 83 4).toInt.toNat)) (dl ((tw_set M 83 4 (M 86 (M 83 4).toInt.toNat)) (25 + m.toInt.toNat)) (nPart (tw_set M 83 4 (M 86 (M 83 4).toInt.toNat)) m).toInt.toNat)) 82 3 = M 82 3 := by rw [putAll_out _ (by omega)]; rfl
    refine tw_aload_n (pc := 37) rfl rfl ?_
    refine tw_getR (pc := 38) rfl fl_CK_12 rfl rfl ?_
    refine tw_aload_n (pc := 41) rfl rfl ?_
    refine tw_getR (pc := 42) rfl fl_CK_18 rfl rfl ?_
    refine tw_iload_n (pc := 45) rfl rfl ?_
    refine tw_iconst (pc := 46) rfl tw_ic_m1 ?_
    refine tw_inv3 (pc := 47) rfl lk_CK_77 (Nat.le_of_ble_eq_true rfl) rfl rfl (sp_RW_putPartsFirst_83 hD1 hR1 hm2 hc ?_)
    refine tw_aload_n (pc := 50) rfl rfl ?_
    refine tw_dup (pc := 51) rfl ?_
    refine tw_getV (pc := 52) (v := (M 82 3)) rfl fl_CK_26 rfl rfl (by first | rfl | exact e82) ?_
    refine tw_iconst (pc := 55) rfl tw_ic_1 ?_
    refine tw_iadd (pc := 56) rfl ?_
    refine tw_putI (pc := 57) rfl fp_CK_26 rfl rfl rfl rfl ?_
    refine tw_return (pc := 60) rfl trivial ?_
    unfold tkC at h
    first
    | (have hp : (0 ≤ t.toInt ∧ t.toInt < (M 1 5).toInt) := by assumption
       rw [if_pos hp] at h
       exact h)
    | (have hp : ¬ (0 ≤ t.toInt ∧ t.toInt < (M 1 5).toInt) := by assumption
       rw [if_neg hp] at h
       rw [e25]
       exact h)
theorem sp_CK_hear {d : Nat} {M : tw_M} {Q : tw_P} {t m : Int32} (hD : DI M) (hR : ¬ M 82 4 = 0 → RowI 83 M) (ht : ¬ M 82 4 = 0 → faC M t m = 0 → ¬ M 83 4 = -1 ∧ (-1 ≤ (M 86 (M 83 4).toInt.toNat).toInt ∧ (M 86 (M 83 4).toInt.toNat).toInt < (M 83 5).toInt) ∧ (M 83 5).toInt + 5 ≤ 246 ∧ (¬ (0 ≤ t.toInt ∧ t.toInt < (M 1 5).toInt) → 0 ≤ m.toInt ∧ m.toInt < (M 1 14).toInt)) (h0 : M 82 4 = 0 → Q (some (-1)) M) (h1 : ¬ M 82 4 = 0 → ¬ faC M t m = 0 → Q (some (faC M t m)) M) (h2 : ¬ M 82 4 = 0 → faC M t m = 0 → Q (some (faC M t m)) (tkC M t m)) : tw_C (d + 5) j_CK_hear [.inr 82, .inl t, .inl m] M Q := by
  refine tw_enter pn_CK dc_CK_hear (Nat.le_of_ble_eq_true rfl) ?_
  have zm1 := tw_ti_m1
  have z0 := tw_ti_0
  refine tw_aload_n (pc := 0) rfl rfl ?_
  refine tw_getV (pc := 1) (v := (M 82 4)) rfl fl_CK_22 rfl rfl rfl ?_
  refine tw_if_ne (pc := 4) (tgt := 9) rfl rfl (fun c1 => ?_) (fun c1 => ?_)
  · refine tw_aload_n (pc := 9) rfl rfl ?_
    refine tw_iload_n (pc := 10) rfl rfl ?_
    refine tw_iload_n (pc := 11) rfl rfl ?_
    refine tw_inv2 (pc := 12) rfl lk_CK_46 (Nat.le_of_ble_eq_true rfl) rfl rfl (sp_CK_faultOf hD (hR c1.1) rfl ?_)
    refine tw_istore_n (pc := 15) rfl (Nat.le_of_ble_eq_true rfl) ?_
    refine tw_iload_n (pc := 16) rfl rfl ?_
    refine tw_if_ne (pc := 17) (tgt := 26) rfl rfl (fun c3 => ?_) (fun c3 => ?_)
    · refine tw_iload_n (pc := 26) rfl rfl ?_
      refine tw_ireturn (pc := 27) rfl rfl ?_
      exact h1 c1.1 c3.1
    · refine tw_aload_n (pc := 20) rfl rfl ?_
      refine tw_iload_n (pc := 21) rfl rfl ?_
      refine tw_iload_n (pc := 22) rfl rfl ?_
      refine tw_inv2 (pc := 23) rfl lk_CK_50 (Nat.le_of_ble_eq_true rfl) rfl rfl (sp_CK_take hD (hR c1.1) (ht c1.1 c3.1).1 (ht c1.1 c3.1).2.1 (ht c1.1 c3.1).2.2.1 (ht c1.1 c3.1).2.2.2 ?_)
      refine tw_iload_n (pc := 26) rfl rfl ?_
      refine tw_ireturn (pc := 27) rfl rfl ?_
      exact h2 c1.1 c3.1
  · refine tw_iconst (pc := 7) rfl tw_ic_m1 ?_
    refine tw_ireturn (pc := 8) rfl rfl ?_
    exact h0 c1.1
theorem lp_MD_check {d : Nat} {Q : tw_P} : ∀ (n : Nat) (M : tw_M) (pl : Int32), n ≤ 6 → (0 ≤ (M 88 39).toInt ∧ (M 88 39).toInt + (n : Int) ≤ 400) → pl.toInt = (n : Int) - 1 → Q (some (M 88 16)) (putRs 38 (-1) M (dl (M 101) n)) → tw_T none (d + 1) j_MD_check M 37 [some (.inr 88), some (.inl pl)] [] Q := by
  intro n
  induction n with
  | zero =>
    intro M pl h6 hc hp h
    have zm1 := tw_ti_m1
    have z0 := tw_ti_0
    have z1 := tw_ti_1
    have z250 := tw_ti_250
    refine tw_iload_n (pc := 37) rfl rfl ?_
    refine tw_if_lt (pc := 38) (tgt := 80) rfl rfl (fun c1 => ?_) (fun c1 => absurd c1 (by omega))
    refine tw_aload_n (pc := 80) rfl rfl ?_
    refine tw_getV (pc := 81) (v := (M 88 16)) rfl fl_MD_129 rfl rfl rfl ?_
    refine tw_ireturn (pc := 84) rfl rfl ?_
    exact h
  | succ n ih =>
    intro M pl h6 hc hp h
    have e1 : pl.toInt.toNat = n := by omega
    have q3 := tw_dec1 hp (by omega)
    have e27 : (M 88 39 + 1).toInt = (M 88 39).toInt + 1 := by rw [tw_addI (by rw [tw_ti_1]; omega), tw_ti_1]
    have q2 : 0 ≤ (M 88 39 + 1).toInt ∧ (M 88 39 + 1).toInt + (n : Int) ≤ 400 := by omega
    have zm1 := tw_ti_m1
    have z0 := tw_ti_0
    have z1 := tw_ti_1
    have z250 := tw_ti_250
    refine tw_iload_n (pc := 37) rfl rfl ?_
    refine tw_if_lt (pc := 38) (tgt := 80) rfl rfl (fun c1 => absurd c1 (by omega)) (fun c1 => ?_)
    refine tw_aload_n (pc := 41) rfl rfl ?_
    refine tw_aload_n (pc := 42) rfl rfl ?_
    refine tw_aload_n (pc := 43) rfl rfl ?_
    refine tw_getV (pc := 44) (v := (M 88 39)) rfl fl_MD_206 rfl rfl rfl ?_
    refine tw_aload_n (pc := 47) rfl rfl ?_
    refine tw_getR (pc := 48) rfl fl_MD_46 rfl rfl ?_
    refine tw_iload_n (pc := 51) rfl rfl ?_
    refine tw_ialdV (pc := 52) (v := (M 101 n)) rfl rfl ⟨by omega, by omega⟩ (by rw [e1]) ?_
    refine tw_iconst (pc := 53) rfl tw_ic_m1 ?_
    refine tw_aload_n (pc := 54) rfl rfl ?_
    refine tw_getV (pc := 55) (v := (M 88 38)) rfl fl_MD_209 rfl rfl rfl ?_
    refine tw_inv4 (pc := 58) rfl lk_MD_170 (Nat.le_of_ble_eq_true rfl) rfl rfl (sp_MD_before (by omega) ?_)
    refine tw_putI (pc := 61) rfl fp_MD_209 rfl rfl rfl rfl ?_
    refine tw_aload_n (pc := 64) rfl rfl ?_
    refine tw_dup (pc := 65) rfl ?_
    refine tw_getV (pc := 66) (v := (M 88 39)) rfl fl_MD_206 rfl rfl rfl ?_
    refine tw_iconst (pc := 69) rfl tw_ic_1 ?_
    refine tw_iadd (pc := 70) rfl ?_
    refine tw_putI (pc := 71) rfl fp_MD_206 rfl rfl rfl rfl ?_
    refine tw_iinc (pc := 74) rfl rfl tw_ic_m1 (Nat.le_of_ble_eq_true rfl) ?_
    refine tw_goto (pc := 77) (tgt := 37) rfl rfl ?_
    exact ih (putR 38 M (M 101 n) (-1)) _ (by omega) q2 q3 h
theorem sp_MD_check {d : Nat} {M : tw_M} {Q : tw_P} (ha : 0 ≤ (M 88 16).toInt ∧ (M 88 16).toInt ≤ 6) (h : Q (some (M 88 16)) (ckR M)) : tw_C (d + 2) j_MD_check [.inr 88] M Q := by
  refine tw_enter pn_MD dc_MD_check (Nat.le_of_ble_eq_true rfl) ?_
  have zm1 := tw_ti_m1
  have z0 := tw_ti_0
  have z1 := tw_ti_1
  have z250 := tw_ti_250
  refine tw_aload_n (pc := 0) rfl rfl ?_
  refine tw_iconst (pc := 1) rfl tw_ic_1 ?_
  refine tw_putI (pc := 2) rfl fp_MD_111 rfl rfl rfl rfl ?_
  refine tw_aload_n (pc := 5) rfl rfl ?_
  refine tw_aload_n (pc := 6) rfl rfl ?_
  refine tw_getV (pc := 7) (v := (M 88 15)) rfl fl_MD_126 rfl rfl rfl ?_
  refine tw_putI (pc := 10) rfl fp_MD_200 rfl rfl rfl rfl ?_
  refine tw_aload_n (pc := 13) rfl rfl ?_
  refine tw_iconst (pc := 14) rfl tw_ic_0 ?_
  refine tw_putI (pc := 15) rfl fp_MD_203 rfl rfl rfl rfl ?_
  refine tw_aload_n (pc := 18) rfl rfl ?_
  refine tw_sipush (pc := 19) rfl tw_si_250 ?_
  refine tw_putI (pc := 22) rfl fp_MD_206 rfl rfl rfl rfl ?_
  refine tw_aload_n (pc := 25) rfl rfl ?_
  refine tw_iconst (pc := 26) rfl tw_ic_m1 ?_
  refine tw_putI (pc := 27) rfl fp_MD_209 rfl rfl rfl rfl ?_
  refine tw_aload_n (pc := 30) rfl rfl ?_
  refine tw_getV (pc := 31) (v := (M 88 16)) rfl fl_MD_129 rfl rfl rfl ?_
  refine tw_iconst (pc := 34) rfl tw_ic_1 ?_
  refine tw_isubF (pc := 35) rfl ⟨by omega, by omega⟩ (fun e1 => ?_)
  refine tw_istore_n (pc := 36) rfl (Nat.le_of_ble_eq_true rfl) ?_
  exact lp_MD_check (M 88 16).toInt.toNat _ _ (by omega) ⟨by show 0 ≤ (250 : Int32).toInt; decide, by show (250 : Int32).toInt + _ ≤ 400; have z250 := tw_ti_250; omega⟩ (by omega) h
theorem lp_MD_told {d : Nat} {Q : tw_P} {t m tk : Int32} (hm : 0 ≤ m.toInt ∧ m.toInt < 40) : ∀ (n : Nat) (M : tw_M) (pl : Int32), n ≤ 5 → (0 ≤ (M 88 39).toInt ∧ (M 88 39).toInt + (n : Int) ≤ 500) → pl.toInt = (n : Int) - 1 → M 88 40 = tk → Q (some 0) (tw_set (putRs 38 tk M (dl (fun k => M 100 (5 * m.toInt.toNat + k)) n)) 88 40 (tk + 1)) → tw_T none (d + 1) j_MD_told M 186 [some (.inr 88), some (.inl t), some (.inl m), some (.inl pl)] [] Q := by
  intro n
  induction n with
  | zero =>
    intro M pl h6 hc hp htk h
    subst htk
    have zm1 := tw_ti_m1
    have z0 := tw_ti_0
    have z1 := tw_ti_1
    have z2 := tw_ti_2
    have z3 := tw_ti_3
    have z4 := tw_ti_4
    have z5 := tw_ti_5
    have z6 := tw_ti_6
    have z16 := tw_ti_16
    have z48 := tw_ti_48
    refine tw_iload_n (pc := 186) rfl rfl ?_
    refine tw_if_lt (pc := 187) (tgt := 236) rfl rfl (fun c1 => ?_) (fun c1 => absurd c1 (by omega))
    refine tw_aload_n (pc := 236) rfl rfl ?_
    refine tw_dup (pc := 237) rfl ?_
    refine tw_getV (pc := 238) (v := (M 88 40)) rfl fl_MD_203 rfl rfl rfl ?_
    refine tw_iconst (pc := 241) rfl tw_ic_1 ?_
    refine tw_iadd (pc := 242) rfl ?_
    refine tw_putI (pc := 243) rfl fp_MD_203 rfl rfl rfl rfl ?_
    refine tw_iconst (pc := 246) rfl tw_ic_0 ?_
    refine tw_ireturn (pc := 247) rfl rfl ?_
    exact h
  | succ n ih =>
    intro M pl h6 hc hp htk h
    have q3 := tw_dec1 hp (by omega)
    have e27 : (M 88 39 + 1).toInt = (M 88 39).toInt + 1 := by rw [tw_addI (by rw [tw_ti_1]; omega), tw_ti_1]
    have q2 : 0 ≤ (M 88 39 + 1).toInt ∧ (M 88 39 + 1).toInt + (n : Int) ≤ 500 := by omega
    subst htk
    have zm1 := tw_ti_m1
    have z0 := tw_ti_0
    have z1 := tw_ti_1
    have z2 := tw_ti_2
    have z3 := tw_ti_3
    have z4 := tw_ti_4
    have z5 := tw_ti_5
    have z6 := tw_ti_6
    have z16 := tw_ti_16
    have z48 := tw_ti_48
    refine tw_iload_n (pc := 186) rfl rfl ?_
    refine tw_if_lt (pc := 187) (tgt := 236) rfl rfl (fun c1 => absurd c1 (by omega)) (fun c1 => ?_)
    refine tw_aload_n (pc := 190) rfl rfl ?_
    refine tw_aload_n (pc := 191) rfl rfl ?_
    refine tw_aload_n (pc := 192) rfl rfl ?_
    refine tw_getV (pc := 193) (v := (M 88 39)) rfl fl_MD_206 rfl rfl rfl ?_
    refine tw_aload_n (pc := 196) rfl rfl ?_
    refine tw_getR (pc := 197) rfl fl_MD_43 rfl rfl ?_
    refine tw_iconst (pc := 200) rfl tw_ic_5 ?_
    refine tw_iload_n (pc := 201) rfl rfl ?_
    refine tw_imul5F (pc := 202) rfl ⟨by omega, by omega⟩ (fun e2 => ?_)
    refine tw_iload_n (pc := 203) rfl rfl ?_
    refine tw_iaddF (pc := 204) rfl ⟨by omega, by omega⟩ (fun e3 => ?_)
    refine tw_ialdV (pc := 205) (v := (M 100 (5 * m.toInt.toNat + n))) rfl rfl ⟨by omega, by omega⟩ (by rw [show (5 * m + pl).toInt.toNat = 5 * m.toInt.toNat + n by omega]) ?_
    refine tw_aload_n (pc := 206) rfl rfl ?_
    refine tw_getV (pc := 207) (v := (M 88 40)) rfl fl_MD_203 rfl rfl rfl ?_
    refine tw_aload_n (pc := 210) rfl rfl ?_
    refine tw_getV (pc := 211) (v := (M 88 38)) rfl fl_MD_209 rfl rfl rfl ?_
    refine tw_inv4 (pc := 214) rfl lk_MD_170 (Nat.le_of_ble_eq_true rfl) rfl rfl (sp_MD_before (by omega) ?_)
    refine tw_putI (pc := 217) rfl fp_MD_209 rfl rfl rfl rfl ?_
    refine tw_aload_n (pc := 220) rfl rfl ?_
    refine tw_dup (pc := 221) rfl ?_
    refine tw_getV (pc := 222) (v := (M 88 39)) rfl fl_MD_206 rfl rfl rfl ?_
    refine tw_iconst (pc := 225) rfl tw_ic_1 ?_
    refine tw_iadd (pc := 226) rfl ?_
    refine tw_putI (pc := 227) rfl fp_MD_206 rfl rfl rfl rfl ?_
    refine tw_iinc (pc := 230) rfl rfl tw_ic_m1 (Nat.le_of_ble_eq_true rfl) ?_
    refine tw_goto (pc := 233) (tgt := 186) rfl rfl ?_
    exact ih (putR 38 M (M 100 (5 * m.toInt.toNat + n)) (M 88 40)) _ (by omega) q2 q3 rfl h
theorem sp_MD_told {d : Nat} {M : tw_M} {Q : tw_P} {t m : Int32} (hI : RI M) (hh : ¬ M 88 36 = 0 → ¬ M 88 38 = -1 → (0 ≤ (M 88 38).toInt ∧ (M 88 38).toInt < 500) ∧ ((0 ≤ (M 102 (M 88 38).toInt.toNat).toInt ∧ (M 102 (M 88 38).toInt.toNat).toInt < 12) ∨ (16 ≤ (M 102 (M 88 38).toInt.toNat).toInt ∧ (M 102 (M 88 38).toInt.toNat).toInt < 28))) (hc0 : ¬ M 88 36 = 0 → ¬ M 88 40 = 48 → 0 ≤ (M 88 39).toInt ∧ (M 88 39).toInt ≤ 495) (h0 : M 88 36 = 0 → Q (some (-1)) M) (h1 : ¬ M 88 36 = 0 → ¬ foR M t m = 0 → Q (some (foR M t m)) M) (h2 : ¬ M 88 36 = 0 → foR M t m = 0 → Q (some (foR M t m)) (tkR M t m)) : tw_C (d + 2) j_MD_told [.inr 88, .inl t, .inl m] M Q := by
  refine tw_enter pn_MD dc_MD_told (Nat.le_of_ble_eq_true rfl) ?_
  have zm1 := tw_ti_m1
  have z0 := tw_ti_0
  have z1 := tw_ti_1
  have z2 := tw_ti_2
  have z3 := tw_ti_3
  have z4 := tw_ti_4
  have z5 := tw_ti_5
  have z6 := tw_ti_6
  have z16 := tw_ti_16
  have z48 := tw_ti_48
  refine tw_aload_n (pc := 0) rfl rfl ?_
  refine tw_getV (pc := 1) (v := (M 88 36)) rfl fl_MD_111 rfl rfl rfl ?_
  refine tw_if_ne (pc := 4) (tgt := 9) rfl rfl (fun c1 => ?_) (fun c1 => ?_)
  · have hon := c1.1
    refine tw_aload_n (pc := 9) rfl rfl ?_
    refine tw_getV (pc := 10) (v := (M 88 38)) rfl fl_MD_209 rfl rfl rfl ?_
    refine tw_iconst (pc := 13) rfl tw_ic_m1 ?_
    refine tw_icmp_ne (pc := 14) (tgt := 19) rfl rfl (fun c2 => ?_) (fun c2 => ?_)
    · have hh2 := hh hon (And.left (by assumption))
      refine tw_aload_n (pc := 19) rfl rfl ?_
      refine tw_getR (pc := 20) rfl fl_MD_49 rfl rfl ?_
      refine tw_aload_n (pc := 23) rfl rfl ?_
      refine tw_getV (pc := 24) (v := (M 88 38)) rfl fl_MD_209 rfl rfl rfl ?_
      refine tw_iald (pc := 27) rfl rfl ⟨by omega, by omega⟩ ?_
      refine tw_iload_n (pc := 28) rfl rfl ?_
      refine tw_icmp_eq (pc := 29) (tgt := 34) rfl rfl (fun c3 => ?_) (fun c3 => ?_)
      · refine tw_aload_n (pc := 34) rfl rfl ?_
        refine tw_getV (pc := 35) (v := (M 88 40)) rfl fl_MD_203 rfl rfl rfl ?_
        refine tw_bipush (pc := 38) rfl tw_bi_48 ?_
        refine tw_icmp_ne (pc := 40) (tgt := 45) rfl rfl (fun c4 => ?_) (fun c4 => ?_)
        · have hc := hc0 hon (And.left (by assumption))
          have hm9 := hI.2.2.1
          have et : (M 102 (M 88 38).toInt.toNat).toInt = t.toInt := And.right (by assumption : (M 102 (M 88 38).toInt.toNat) = t ∧ (M 102 (M 88 38).toInt.toNat).toInt = t.toInt)
          refine tw_iload_n (pc := 45) rfl rfl ?_
          refine tw_bipush (pc := 46) rfl tw_bi_16 ?_
          refine tw_icmp_ge (pc := 48) (tgt := 115) rfl rfl (fun c5 => ?_) (fun c5 => ?_)
          · refine tw_iload_n (pc := 115) rfl rfl ?_
            refine tw_if_lt (pc := 116) (tgt := 137) rfl rfl (fun c6 => ?_) (fun c6 => ?_)
            · refine tw_iconst (pc := 137) rfl tw_ic_5 ?_
              refine tw_ireturn (pc := 138) rfl rfl ?_
              have e : foR M t m = 5 := by
                unfold foR
                have w0 : ¬ (M 88 38 = -1) := And.left (by assumption)
                rw [if_neg w0]
                have w1 : (M 102 (M 88 38).toInt.toNat) = t := And.left (by assumption)
                rw [if_pos w1]
                have w2 : ¬ (M 88 40 = 48) := And.left (by assumption)
                rw [if_neg w2]
                have w3 : ¬ (t.toInt < 16) := by omega
                rw [if_neg w3]
                have w4 : ¬ ((0 ≤ m.toInt ∧ m.toInt < (M 88 9).toInt) ∧ M 96 m.toInt.toNat = t) := (fun q => by first | omega | exact (And.left (by assumption : ¬ M 96 m.toInt.toNat = t ∧ _)) q.2)
                rw [if_neg w4]
              rw [e] at h1
              exact h1 hon (by decide)
            · refine tw_iload_n (pc := 119) rfl rfl ?_
              refine tw_aload_n (pc := 120) rfl rfl ?_
              refine tw_getV (pc := 121) (v := (M 88 9)) rfl fl_MD_120 rfl rfl rfl ?_
              refine tw_icmp_ge (pc := 124) (tgt := 137) rfl rfl (fun c7 => ?_) (fun c7 => ?_)
              · refine tw_iconst (pc := 137) rfl tw_ic_5 ?_
                refine tw_ireturn (pc := 138) rfl rfl ?_
                have e : foR M t m = 5 := by
                  unfold foR
                  have w0 : ¬ (M 88 38 = -1) := And.left (by assumption)
                  rw [if_neg w0]
                  have w1 : (M 102 (M 88 38).toInt.toNat) = t := And.left (by assumption)
                  rw [if_pos w1]
                  have w2 : ¬ (M 88 40 = 48) := And.left (by assumption)
                  rw [if_neg w2]
                  have w3 : ¬ (t.toInt < 16) := by omega
                  rw [if_neg w3]
                  have w4 : ¬ ((0 ≤ m.toInt ∧ m.toInt < (M 88 9).toInt) ∧ M 96 m.toInt.toNat = t) := (fun q => by first | omega | exact (And.left (by assumption : ¬ M 96 m.toInt.toNat = t ∧ _)) q.2)
                  rw [if_neg w4]
                rw [e] at h1
                exact h1 hon (by decide)
              · refine tw_aload_n (pc := 127) rfl rfl ?_
                refine tw_getR (pc := 128) rfl fl_MD_31 rfl rfl ?_
                refine tw_iload_n (pc := 131) rfl rfl ?_
                refine tw_iald (pc := 132) rfl rfl ⟨by omega, by omega⟩ ?_
                refine tw_iload_n (pc := 133) rfl rfl ?_
                refine tw_icmp_eq (pc := 134) (tgt := 139) rfl rfl (fun c8 => ?_) (fun c8 => ?_)
                · refine tw_aload_n (pc := 139) rfl rfl ?_
                  refine tw_getV (pc := 140) (v := (M 88 37)) rfl fl_MD_200 rfl rfl rfl ?_
                  refine tw_aload_n (pc := 143) rfl rfl ?_
                  refine tw_getR (pc := 144) rfl fl_MD_34 rfl rfl ?_
                  refine tw_iload_n (pc := 147) rfl rfl ?_
                  refine tw_iald (pc := 148) rfl rfl ⟨by omega, by omega⟩ ?_
                  refine tw_aload_n (pc := 149) rfl rfl ?_
                  refine tw_getR (pc := 150) rfl fl_MD_37 rfl rfl ?_
                  refine tw_iload_n (pc := 153) rfl rfl ?_
                  refine tw_iald (pc := 154) rfl rfl ⟨by omega, by omega⟩ ?_
                  refine tw_invs3 (pc := 155) rfl lk_MD_177 rfl (Nat.le_of_ble_eq_true rfl) (sp_MD_holds (fun c9 => ?_) (fun c9 => ?_))
                  · refine tw_if_ne (pc := 158) (tgt := 164) rfl rfl (fun _ => ?_) (fun q => absurd q (by decide))
                    have hpm0 := hI.2.2.2.2.2 m.toInt.toNat (by omega)
                    refine tw_aload_n (pc := 164) rfl rfl ?_
                    refine tw_aload_n (pc := 165) rfl rfl ?_
                    refine tw_getR (pc := 166) rfl fl_MD_55 rfl rfl ?_
                    refine tw_aload_n (pc := 169) rfl rfl ?_
                    refine tw_getV (pc := 170) (v := (M 88 38)) rfl fl_MD_209 rfl rfl rfl ?_
                    refine tw_iald (pc := 173) rfl rfl ⟨by omega, by omega⟩ ?_
                    refine tw_putI (pc := 174) rfl fp_MD_209 rfl rfl rfl rfl ?_
                    refine tw_aload_n (pc := 177) rfl rfl ?_
                    refine tw_getR (pc := 178) rfl fl_MD_40 rfl rfl ?_
                    refine tw_iload_n (pc := 181) rfl rfl ?_
                    refine tw_ialdV (pc := 182) (v := (M 99 m.toInt.toNat)) rfl rfl ⟨by omega, by omega⟩ rfl ?_
                    refine tw_iconst (pc := 183) rfl tw_ic_1 ?_
                    refine tw_isubF (pc := 184) rfl ⟨by omega, by omega⟩ (fun e10 => ?_)
                    refine tw_istore_n (pc := 185) rfl (Nat.le_of_ble_eq_true rfl) ?_
                    have e : foR M t m = 0 := by
                      unfold foR
                      have w0 : ¬ (M 88 38 = -1) := And.left (by assumption)
                      rw [if_neg w0]
                      have w1 : (M 102 (M 88 38).toInt.toNat) = t := And.left (by assumption)
                      rw [if_pos w1]
                      have w2 : ¬ (M 88 40 = 48) := And.left (by assumption)
                      rw [if_neg w2]
                      have w3 : ¬ (t.toInt < 16) := by omega
                      rw [if_neg w3]
                      have w4 : ((0 ≤ m.toInt ∧ m.toInt < (M 88 9).toInt) ∧ M 96 m.toInt.toNat = t) := ⟨by omega, And.left (by assumption)⟩
                      rw [if_pos w4]
                      have w5 : pH (M 97 m.toInt.toNat) (M 98 m.toInt.toNat) (M 88 37) := by assumption
                      rw [if_pos w5]
                    rw [e] at h2
                    have h3 := h2 hon rfl
                    unfold tkR at h3
                    rw [if_neg (show ¬ t.toInt < 16 by omega)] at h3
                    have hpm := hI.2.2.2.2.2 m.toInt.toNat (by omega)
                    exact lp_MD_told (by omega) (M 99 m.toInt.toNat).toInt.toNat _ _ (by omega) ⟨hc.1, by show (M 88 39).toInt + _ ≤ 500; omega⟩ (by omega) rfl h3
                  · refine tw_if_ne (pc := 158) (tgt := 164) rfl rfl (fun q => absurd q (by decide)) (fun _ => ?_)
                    refine tw_bipush (pc := 161) rfl tw_bi_6 ?_
                    refine tw_ireturn (pc := 163) rfl rfl ?_
                    have e : foR M t m = 6 := by
                      unfold foR
                      have w0 : ¬ (M 88 38 = -1) := And.left (by assumption)
                      rw [if_neg w0]
                      have w1 : (M 102 (M 88 38).toInt.toNat) = t := And.left (by assumption)
                      rw [if_pos w1]
                      have w2 : ¬ (M 88 40 = 48) := And.left (by assumption)
                      rw [if_neg w2]
                      have w3 : ¬ (t.toInt < 16) := by omega
                      rw [if_neg w3]
                      have w4 : ((0 ≤ m.toInt ∧ m.toInt < (M 88 9).toInt) ∧ M 96 m.toInt.toNat = t) := ⟨by omega, And.left (by assumption)⟩
                      rw [if_pos w4]
                      have w5 : ¬ pH (M 97 m.toInt.toNat) (M 98 m.toInt.toNat) (M 88 37) := by assumption
                      rw [if_neg w5]
                    rw [e] at h1
                    exact h1 hon (by decide)
                · refine tw_iconst (pc := 137) rfl tw_ic_5 ?_
                  refine tw_ireturn (pc := 138) rfl rfl ?_
                  have e : foR M t m = 5 := by
                    unfold foR
                    have w0 : ¬ (M 88 38 = -1) := And.left (by assumption)
                    rw [if_neg w0]
                    have w1 : (M 102 (M 88 38).toInt.toNat) = t := And.left (by assumption)
                    rw [if_pos w1]
                    have w2 : ¬ (M 88 40 = 48) := And.left (by assumption)
                    rw [if_neg w2]
                    have w3 : ¬ (t.toInt < 16) := by omega
                    rw [if_neg w3]
                    have w4 : ¬ ((0 ≤ m.toInt ∧ m.toInt < (M 88 9).toInt) ∧ M 96 m.toInt.toNat = t) := (fun q => by first | omega | exact (And.left (by assumption : ¬ M 96 m.toInt.toNat = t ∧ _)) q.2)
                    rw [if_neg w4]
                  rw [e] at h1
                  exact h1 hon (by decide)
          · refine tw_aload_n (pc := 51) rfl rfl ?_
            refine tw_getV (pc := 52) (v := (M 88 37)) rfl fl_MD_200 rfl rfl rfl ?_
            refine tw_aload_n (pc := 55) rfl rfl ?_
            refine tw_getR (pc := 56) rfl fl_MD_7 rfl rfl ?_
            refine tw_iload_n (pc := 59) rfl rfl ?_
            refine tw_iald (pc := 60) rfl rfl ⟨by omega, by omega⟩ ?_
            refine tw_aload_n (pc := 61) rfl rfl ?_
            refine tw_getR (pc := 62) rfl fl_MD_13 rfl rfl ?_
            refine tw_iload_n (pc := 65) rfl rfl ?_
            refine tw_iald (pc := 66) rfl rfl ⟨by omega, by omega⟩ ?_
            refine tw_invs3 (pc := 67) rfl lk_MD_177 rfl (Nat.le_of_ble_eq_true rfl) (sp_MD_holds (fun c11 => ?_) (fun c11 => ?_))
            · refine tw_if_ne (pc := 70) (tgt := 75) rfl rfl (fun _ => ?_) (fun q => absurd q (by decide))
              refine tw_aload_n (pc := 75) rfl rfl ?_
              refine tw_aload_n (pc := 76) rfl rfl ?_
              refine tw_getV (pc := 77) (v := (M 88 37)) rfl fl_MD_200 rfl rfl rfl ?_
              refine tw_aload_n (pc := 80) rfl rfl ?_
              refine tw_getR (pc := 81) rfl fl_MD_19 rfl rfl ?_
              refine tw_iload_n (pc := 84) rfl rfl ?_
              refine tw_iald (pc := 85) rfl rfl ⟨by omega, by omega⟩ ?_
              refine tw_iconst (pc := 86) rfl tw_ic_m1 ?_
              refine tw_ixor (pc := 87) rfl ?_
              refine tw_iand (pc := 88) rfl ?_
              refine tw_aload_n (pc := 89) rfl rfl ?_
              refine tw_getR (pc := 90) rfl fl_MD_16 rfl rfl ?_
              refine tw_iload_n (pc := 93) rfl rfl ?_
              refine tw_iald (pc := 94) rfl rfl ⟨by omega, by omega⟩ ?_
              refine tw_ior (pc := 95) rfl ?_
              refine tw_putI (pc := 96) rfl fp_MD_200 rfl rfl rfl rfl ?_
              refine tw_aload_n (pc := 99) rfl rfl ?_
              refine tw_aload_n (pc := 100) rfl rfl ?_
              refine tw_getR (pc := 101) rfl fl_MD_55 rfl rfl ?_
              refine tw_aload_n (pc := 104) rfl rfl ?_
              refine tw_getV (pc := 105) (v := (M 88 38)) rfl fl_MD_209 rfl rfl rfl ?_
              refine tw_ialdV (pc := 108) (v := (M 104 (M 88 38).toInt.toNat)) rfl rfl ⟨by omega, by omega⟩ rfl ?_
              refine tw_putI (pc := 109) rfl fp_MD_209 rfl rfl rfl rfl ?_
              refine tw_goto (pc := 112) (tgt := 236) rfl rfl ?_
              refine tw_aload_n (pc := 236) rfl rfl ?_
              refine tw_dup (pc := 237) rfl ?_
              refine tw_getV (pc := 238) (v := (M 88 40)) rfl fl_MD_203 rfl rfl rfl ?_
              refine tw_iconst (pc := 241) rfl tw_ic_1 ?_
              refine tw_iadd (pc := 242) rfl ?_
              refine tw_putI (pc := 243) rfl fp_MD_203 rfl rfl rfl rfl ?_
              refine tw_iconst (pc := 246) rfl tw_ic_0 ?_
              refine tw_ireturn (pc := 247) rfl rfl ?_
              have e : foR M t m = 0 := by
                unfold foR
                have w0 : ¬ (M 88 38 = -1) := And.left (by assumption)
                rw [if_neg w0]
                have w1 : (M 102 (M 88 38).toInt.toNat) = t := And.left (by assumption)
                rw [if_pos w1]
                have w2 : ¬ (M 88 40 = 48) := And.left (by assumption)
                rw [if_neg w2]
                have w3 : t.toInt < 16 := by omega
                rw [if_pos w3]
                have w4 : pH (M 89 t.toInt.toNat) (M 90 t.toInt.toNat) (M 88 37) := by assumption
                rw [if_pos w4]
              rw [e] at h2
              have h3 := h2 hon rfl
              unfold tkR at h3
              rw [if_pos (show t.toInt < 16 by omega)] at h3
              exact h3
            · refine tw_if_ne (pc := 70) (tgt := 75) rfl rfl (fun q => absurd q (by decide)) (fun _ => ?_)
              refine tw_iconst (pc := 73) rfl tw_ic_4 ?_
              refine tw_ireturn (pc := 74) rfl rfl ?_
              have e : foR M t m = 4 := by
                unfold foR
                have w0 : ¬ (M 88 38 = -1) := And.left (by assumption)
                rw [if_neg w0]
                have w1 : (M 102 (M 88 38).toInt.toNat) = t := And.left (by assumption)
                rw [if_pos w1]
                have w2 : ¬ (M 88 40 = 48) := And.left (by assumption)
                rw [if_neg w2]
                have w3 : t.toInt < 16 := by omega
                rw [if_pos w3]
                have w4 : ¬ pH (M 89 t.toInt.toNat) (M 90 t.toInt.toNat) (M 88 37) := by assumption
                rw [if_neg w4]
              rw [e] at h1
              exact h1 hon (by decide)
        · refine tw_iconst (pc := 43) rfl tw_ic_3 ?_
          refine tw_ireturn (pc := 44) rfl rfl ?_
          have e : foR M t m = 3 := by
            unfold foR
            have w0 : ¬ (M 88 38 = -1) := And.left (by assumption)
            rw [if_neg w0]
            have w1 : (M 102 (M 88 38).toInt.toNat) = t := And.left (by assumption)
            rw [if_pos w1]
            have w2 : M 88 40 = 48 := And.left (by assumption)
            rw [if_pos w2]
          rw [e] at h1
          exact h1 hon (by decide)
      · refine tw_iconst (pc := 32) rfl tw_ic_2 ?_
        refine tw_ireturn (pc := 33) rfl rfl ?_
        have e : foR M t m = 2 := by
          unfold foR
          have w0 : ¬ (M 88 38 = -1) := And.left (by assumption)
          rw [if_neg w0]
          have w1 : ¬ ((M 102 (M 88 38).toInt.toNat) = t) := And.left (by assumption)
          rw [if_neg w1]
        rw [e] at h1
        exact h1 hon (by decide)
    · refine tw_iconst (pc := 17) rfl tw_ic_1 ?_
      refine tw_ireturn (pc := 18) rfl rfl ?_
      have e : foR M t m = 1 := by
        unfold foR
        have w0 : M 88 38 = -1 := And.left (by assumption)
        rw [if_pos w0]
      rw [e] at h1
      exact h1 hon (by decide)
  · refine tw_iconst (pc := 7) rfl tw_ic_m1 ?_
    refine tw_ireturn (pc := 8) rfl rfl ?_
    exact h0 c1.1
theorem lp_MD_left {d : Nat} {Q : tw_P} {A M : tw_M} {b : Nat} (hK : KRow A M b) (hb : b ≤ 246) (hon : ¬ M 88 36 = 0) : ∀ (n : Nat) (xc c acc : Int32), hdR xc c (b : Int) → (lnO A xc).toInt = (n : Int) → (0 ≤ acc.toInt ∧ acc.toInt + (n : Int) ≤ 1000) → (∀ r : Int32, r.toInt = acc.toInt + (n : Int) → Q (some r) M) → tw_T none d j_MD_left M 7 [some (.inr 88), some (.inl acc), some (.inl c)] [] Q := by
  intro n
  induction n with
  | zero =>
    intro xc c acc hx hl ha h
    have hz : c = -1 := by
      rcases hx with ⟨_, q⟩ | ⟨q1, q2, q3⟩
      · exact q
      · have zm := tw_ti_m1
        have hne : ¬ xc = -1 := fun z => by rw [z] at q1; omega
        have e : lnO A xc = A 87 xc.toInt.toNat := by unfold lnO; exact if_neg hne
        obtain ⟨-, -, -, c4, -⟩ := hK.2.2.2 xc.toInt.toNat (by omega)
        rw [e] at hl
        omega
    have zm1 := tw_ti_m1
    have z0 := tw_ti_0
    have z1 := tw_ti_1
    refine tw_aload_n (pc := 7) rfl rfl ?_
    refine tw_getV (pc := 8) (v := (M 88 36)) rfl fl_MD_111 rfl rfl rfl ?_
    refine tw_if_eq (pc := 11) (tgt := 32) rfl rfl (fun c1 => absurd c1.1 hon) (fun c1 => ?_)
    refine tw_iload_n (pc := 14) rfl rfl ?_
    refine tw_iconst (pc := 15) rfl tw_ic_m1 ?_
    refine tw_icmp_eq (pc := 16) (tgt := 32) rfl rfl (fun c2 => ?_) (fun c2 => absurd hz c2.1)
    refine tw_aload_n (pc := 32) rfl rfl ?_
    refine tw_getV (pc := 33) (v := (M 88 36)) rfl fl_MD_111 rfl rfl rfl ?_
    refine tw_if_eq (pc := 36) (tgt := 43) rfl rfl (fun c3 => absurd c3.1 hon) (fun c3 => ?_)
    refine tw_iload_n (pc := 39) rfl rfl ?_
    refine tw_goto (pc := 40) (tgt := 44) rfl rfl ?_
    refine tw_ireturn (pc := 44) rfl rfl ?_
    exact h _ (by omega)
  | succ n ih =>
    intro xc c acc hx hl ha h
    have zm := tw_ti_m1
    obtain ⟨q1, q2, q3⟩ : 0 ≤ xc.toInt ∧ xc.toInt < (b : Int) ∧ c.toInt = xc.toInt + 250 := by
      rcases hx with ⟨q, _⟩ | q
      · have e : lnO A xc = 0 := by unfold lnO; exact if_pos q
        rw [e, tw_ti_0] at hl
        omega
      · exact q
    have hne : ¬ xc = -1 := fun z => by rw [z] at q1; omega
    have hnc : ¬ c = -1 := fun z => by rw [z] at q3; omega
    have e : lnO A xc = A 87 xc.toInt.toNat := by unfold lnO; exact if_neg hne
    obtain ⟨-, c2, -, -, c5⟩ := hK.2.2.2 xc.toInt.toNat (by omega)
    have ei : c.toInt.toNat = 250 + xc.toInt.toNat := by omega
    rw [e, c5] at hl
    have hl2 : (lnO A (A 86 xc.toInt.toNat)).toInt = (n : Int) := by omega
    have hx2 : hdR (A 86 xc.toInt.toNat) (M 104 c.toInt.toNat) (b : Int) := by rw [ei]; exact hdR_le c2 (by omega)
    have zm1 := tw_ti_m1
    have z0 := tw_ti_0
    have z1 := tw_ti_1
    refine tw_aload_n (pc := 7) rfl rfl ?_
    refine tw_getV (pc := 8) (v := (M 88 36)) rfl fl_MD_111 rfl rfl rfl ?_
    refine tw_if_eq (pc := 11) (tgt := 32) rfl rfl (fun c1 => absurd c1.1 hon) (fun c1 => ?_)
    refine tw_iload_n (pc := 14) rfl rfl ?_
    refine tw_iconst (pc := 15) rfl tw_ic_m1 ?_
    refine tw_icmp_eq (pc := 16) (tgt := 32) rfl rfl (fun c2 => absurd c2.1 hnc) (fun c2 => ?_)
    refine tw_iincF (pc := 19) rfl rfl tw_ic_1 (Nat.le_of_ble_eq_true rfl) ⟨by omega, by omega⟩ (fun e3 => ?_)
    refine tw_aload_n (pc := 22) rfl rfl ?_
    refine tw_getR (pc := 23) rfl fl_MD_55 rfl rfl ?_
    refine tw_iload_n (pc := 26) rfl rfl ?_
    refine tw_iald (pc := 27) rfl rfl ⟨by omega, by omega⟩ ?_
    refine tw_istore_n (pc := 28) rfl (Nat.le_of_ble_eq_true rfl) ?_
    refine tw_goto (pc := 29) (tgt := 7) rfl rfl ?_
    exact ih _ _ _ hx2 hl2 (by omega) (fun r hr => h r (by omega))
theorem sp_MD_left {d : Nat} {M : tw_M} {Q : tw_P} {A : tw_M} {b : Nat} (hon : ¬ M 88 36 = 0) (hK : KRow A M b) (hb : b ≤ 246) (h : Q (some (lenV 83 A)) M) : tw_C (d + 1) j_MD_left [.inr 88] M Q := by
  have hl : 0 ≤ (lenV 83 A).toInt ∧ (lenV 83 A).toInt ≤ 246 := by
    rcases KRow_len hK with ⟨_, q⟩ | ⟨_, _, _, q⟩
    · rw [q, tw_ti_0]; omega
    · omega
  refine tw_enter pn_MD dc_MD_left (Nat.le_of_ble_eq_true rfl) ?_
  have zm1 := tw_ti_m1
  have z0 := tw_ti_0
  have z1 := tw_ti_1
  refine tw_iconst (pc := 0) rfl tw_ic_0 ?_
  refine tw_istore_n (pc := 1) rfl (Nat.le_of_ble_eq_true rfl) ?_
  refine tw_aload_n (pc := 2) rfl rfl ?_
  refine tw_getV (pc := 3) (v := (M 88 38)) rfl fl_MD_209 rfl rfl rfl ?_
  refine tw_istore_n (pc := 6) rfl (Nat.le_of_ble_eq_true rfl) ?_
  exact lp_MD_left hK hb hon (lenV 83 A).toInt.toNat (A 83 4) _ _ hK.2.2.1 (by show (lenV 83 A).toInt = _; omega) (by omega) (fun r hr => by rw [show r = lenV 83 A from Int32.toInt_inj.mp (by omega)]; exact h)
theorem sp_MD_leftN {d : Nat} {M : tw_M} {Q : tw_P} (hoff : M 88 36 = 0) (h : Q (some (-1)) M) : tw_C (d + 1) j_MD_left [.inr 88] M Q := by
  refine tw_enter pn_MD dc_MD_left (Nat.le_of_ble_eq_true rfl) ?_
  have zm1 := tw_ti_m1
  have z0 := tw_ti_0
  have z1 := tw_ti_1
  refine tw_iconst (pc := 0) rfl tw_ic_0 ?_
  refine tw_istore_n (pc := 1) rfl (Nat.le_of_ble_eq_true rfl) ?_
  refine tw_aload_n (pc := 2) rfl rfl ?_
  refine tw_getV (pc := 3) (v := (M 88 38)) rfl fl_MD_209 rfl rfl rfl ?_
  refine tw_istore_n (pc := 6) rfl (Nat.le_of_ble_eq_true rfl) ?_
  refine tw_aload_n (pc := 7) rfl rfl ?_
  refine tw_getV (pc := 8) (v := (M 88 36)) rfl fl_MD_111 rfl rfl rfl ?_
  refine tw_if_eq (pc := 11) (tgt := 32) rfl rfl (fun c1 => ?_) (fun c1 => absurd hoff c1.1)
  refine tw_aload_n (pc := 32) rfl rfl ?_
  refine tw_getV (pc := 33) (v := (M 88 36)) rfl fl_MD_111 rfl rfl rfl ?_
  refine tw_if_eq (pc := 36) (tgt := 43) rfl rfl (fun c2 => ?_) (fun c2 => absurd hoff c2.1)
  refine tw_iconst (pc := 43) rfl tw_ic_m1 ?_
  refine tw_ireturn (pc := 44) rfl rfl ?_
  exact h
