theorem sp_TW_check {d : Nat} {M : tw_M} {Q : tw_P} (hD : DI M) (hR : ¬ ckC M 82 4 = 0 → RowI 83 (ckC M)) (hon : ¬ ckC M 82 4 = 0) (h : Q (some (lenV 83 (ckC M))) (ckC M)) : tw_C (d + 5) j_TW_check [.inr 0] M Q := by
  refine tw_enter pn_TW dc_TW_check (Nat.le_of_ble_eq_true rfl) ?_
  refine tw_aload_n (pc := 0) rfl rfl ?_
  refine tw_getR (pc := 1) rfl fl_TW_35 rfl rfl ?_
  refine tw_inv0 (pc := 4) rfl lk_TW_121 (Nat.le_of_ble_eq_true rfl) rfl rfl (sp_CK_begin hD ?_)
  refine tw_aload_n (pc := 7) rfl rfl ?_
  refine tw_getR (pc := 8) rfl fl_TW_35 rfl rfl ?_
  refine tw_inv0 (pc := 11) rfl lk_TW_124 (Nat.le_of_ble_eq_true rfl) rfl rfl (sp_CK_remaining hR (fun c2 => ?_) (fun c2 => ?_))
  · refine tw_ireturn (pc := 14) rfl rfl ?_
    exact h
  · refine tw_ireturn (pc := 14) rfl rfl ?_
    exact absurd (by assumption) hon
theorem sp_TW_left {d : Nat} {M : tw_M} {Q : tw_P} (hR : ¬ M 82 4 = 0 → RowI 83 M) (h1 : ¬ M 82 4 = 0 → Q (some (lenV 83 M)) M) (h0 : M 82 4 = 0 → Q (some (-1)) M) : tw_C (d + 3) j_TW_left [.inr 0] M Q := by
  refine tw_enter pn_TW dc_TW_left (Nat.le_of_ble_eq_true rfl) ?_
  refine tw_aload_n (pc := 0) rfl rfl ?_
  refine tw_getR (pc := 1) rfl fl_TW_35 rfl rfl ?_
  refine tw_inv0 (pc := 4) rfl lk_TW_124 (Nat.le_of_ble_eq_true rfl) rfl rfl (sp_CK_remaining hR (fun c1 => ?_) (fun c1 => ?_))
  · refine tw_ireturn (pc := 7) rfl rfl ?_
    exact h1 (by assumption)
  · refine tw_ireturn (pc := 7) rfl rfl ?_
    exact h0 (by assumption)
theorem sp_TW_told {d : Nat} {M : tw_M} {Q : tw_P} {t m : Int32} (hD : DI M) (hR : ¬ M 82 4 = 0 → RowI 83 M) (ht : ¬ M 82 4 = 0 → faC M t m = 0 → ¬ M 83 4 = -1 ∧ (-1 ≤ (M 86 (M 83 4).toInt.toNat).toInt ∧ (M 86 (M 83 4).toInt.toNat).toInt < (M 83 5).toInt) ∧ (M 83 5).toInt + 5 ≤ 246 ∧ (¬ (0 ≤ t.toInt ∧ t.toInt < (M 1 5).toInt) → 0 ≤ m.toInt ∧ m.toInt < (M 1 14).toInt)) (h0 : M 82 4 = 0 → Q (some (-1)) M) (h1 : ¬ M 82 4 = 0 → ¬ faC M t m = 0 → Q (some (faC M t m)) M) (h2 : ¬ M 82 4 = 0 → faC M t m = 0 → Q (some (faC M t m)) (tkC M t m)) : tw_C (d + 6) j_TW_told [.inr 0, .inl t, .inl m] M Q := by
  refine tw_enter pn_TW dc_TW_told (Nat.le_of_ble_eq_true rfl) ?_
  refine tw_aload_n (pc := 0) rfl rfl ?_
  refine tw_getR (pc := 1) rfl fl_TW_35 rfl rfl ?_
  refine tw_iload_n (pc := 4) rfl rfl ?_
  refine tw_iload_n (pc := 5) rfl rfl ?_
  refine tw_inv2 (pc := 6) rfl lk_TW_127 (Nat.le_of_ble_eq_true rfl) rfl rfl (sp_CK_hear hD hR ht (fun c1 => ?_) (fun c1 d1 => ?_) (fun c1 d1 => ?_))
  · refine tw_ireturn (pc := 9) rfl rfl ?_
    exact h0 (by assumption)
  · refine tw_ireturn (pc := 9) rfl rfl ?_
    exact h1 (by assumption) (by assumption)
  · refine tw_ireturn (pc := 9) rfl rfl ?_
    exact h2 (by assumption) (by assumption)
theorem sp_TW_steps {d : Nat} {M : tw_M} {Q : tw_P} (h : Q (some (M 70 11)) M) : tw_C (d + 2) j_TW_steps [.inr 0] M Q := by
  refine tw_enter pn_TW dc_TW_steps (Nat.le_of_ble_eq_true rfl) ?_
  refine tw_aload_n (pc := 0) rfl rfl ?_
  refine tw_getR (pc := 1) rfl fl_TW_28 rfl rfl ?_
  refine tw_inv0 (pc := 4) rfl lk_TW_91 (Nat.le_of_ble_eq_true rfl) rfl rfl (sp_SE_stepCount ?_)
  refine tw_ireturn (pc := 7) rfl rfl ?_
  exact h
theorem sp_TW_task {d : Nat} {M : tw_M} {Q : tw_P} {k : Int32} (hn : 0 ≤ (M 70 8).toInt ∧ (M 70 8).toInt ≤ 48) (hD : DI M) (h1 : M 70 12 = 0 → Q (some (ptC M k (M 70 8).toInt.toNat 0 0)) M) (h0 : ¬ M 70 12 = 0 → Q (some (-1)) M) : tw_C (d + 4) j_TW_task [.inr 0, .inl k] M Q := by
  refine tw_enter pn_TW dc_TW_task (Nat.le_of_ble_eq_true rfl) ?_
  have zm1 := tw_ti_m1
  have z0 := tw_ti_0
  refine tw_aload_n (pc := 0) rfl rfl ?_
  refine tw_getR (pc := 1) rfl fl_TW_28 rfl rfl ?_
  refine tw_inv0 (pc := 4) rfl lk_TW_85 (Nat.le_of_ble_eq_true rfl) rfl rfl (sp_SE_hasPlan (fun c1 => ?_) (fun c1 => ?_))
  · refine tw_if_eq (pc := 7) (tgt := 21) rfl rfl (fun q => absurd q (by decide)) (fun _ => ?_)
    refine tw_aload_n (pc := 10) rfl rfl ?_
    refine tw_getR (pc := 11) rfl fl_TW_28 rfl rfl ?_
    refine tw_iload_n (pc := 14) rfl rfl ?_
    refine tw_inv1 (pc := 15) rfl lk_TW_94 (Nat.le_of_ble_eq_true rfl) rfl rfl (sp_SE_planTask hn hD ?_)
    refine tw_goto (pc := 18) (tgt := 22) rfl rfl ?_
    refine tw_ireturn (pc := 22) rfl rfl ?_
    exact h1 (by assumption)
  · refine tw_if_eq (pc := 7) (tgt := 21) rfl rfl (fun _ => ?_) (fun q => absurd q (by decide))
    refine tw_iconst (pc := 21) rfl tw_ic_m1 ?_
    refine tw_ireturn (pc := 22) rfl rfl ?_
    exact h0 (by assumption)
theorem sp_TW_found {d : Nat} {M : tw_M} {Q : tw_P} {w : Int32} (hn : 0 ≤ (M 70 8).toInt ∧ (M 70 8).toInt ≤ 48) (hD : DI M) (hN : ¬ (M 70 12 = 0 ∧ 0 ≤ w.toInt ∧ w.toInt ≤ 3) → Q (some (-1)) M) (h0 : M 70 12 = 0 → w.toInt = 0 → Q (some (plC M (M 70 8).toInt.toNat 0 0)) M) (h1 : M 70 12 = 0 → w.toInt = 1 → Q (some (pcC M (M 70 8).toInt.toNat 0 0)) M) (h2 : M 70 12 = 0 → w.toInt = 2 → Q (some (M 70 10)) M) (h3 : M 70 12 = 0 → w.toInt = 3 → Q (some (M 70 8)) M) : tw_C (d + 4) j_TW_found [.inr 0, .inl w] M Q := by
  refine tw_enter pn_TW dc_TW_found (Nat.le_of_ble_eq_true rfl) ?_
  have zm1 := tw_ti_m1
  have z0 := tw_ti_0
  refine tw_aload_n (pc := 0) rfl rfl ?_
  refine tw_getR (pc := 1) rfl fl_TW_28 rfl rfl ?_
  refine tw_inv0 (pc := 4) rfl lk_TW_85 (Nat.le_of_ble_eq_true rfl) rfl rfl (sp_SE_hasPlan (fun c1 => ?_) (fun c1 => ?_))
  · refine tw_if_ne (pc := 7) (tgt := 12) rfl rfl (fun _ => ?_) (fun q => absurd q (by decide))
    refine tw_iload_n (pc := 12) rfl rfl ?_
    by_cases c2 : w.toInt = 0
    · refine tw_tabIn (pc := 13) (tgt := 44) 0 rfl (by omega) (by decide) rfl rfl ?_
      refine tw_aload_n (pc := 44) rfl rfl ?_
      refine tw_getR (pc := 45) rfl fl_TW_28 rfl rfl ?_
      refine tw_inv0 (pc := 48) rfl lk_TW_97 (Nat.le_of_ble_eq_true rfl) rfl rfl (sp_SE_planLength hn hD ?_)
      refine tw_ireturn (pc := 51) rfl rfl ?_
      exact h0 (by assumption) (by assumption)
    by_cases c4 : w.toInt = 1
    · refine tw_tabIn (pc := 13) (tgt := 52) 1 rfl (by omega) (by decide) rfl rfl ?_
      refine tw_aload_n (pc := 52) rfl rfl ?_
      refine tw_getR (pc := 53) rfl fl_TW_28 rfl rfl ?_
      refine tw_inv0 (pc := 56) rfl lk_TW_100 (Nat.le_of_ble_eq_true rfl) rfl rfl (sp_SE_planCost hn hD ?_)
      refine tw_ireturn (pc := 59) rfl rfl ?_
      exact h1 (by assumption) (by assumption)
    by_cases c6 : w.toInt = 2
    · refine tw_tabIn (pc := 13) (tgt := 60) 2 rfl (by omega) (by decide) rfl rfl ?_
      refine tw_aload_n (pc := 60) rfl rfl ?_
      refine tw_getR (pc := 61) rfl fl_TW_28 rfl rfl ?_
      refine tw_inv0 (pc := 64) rfl lk_TW_103 (Nat.le_of_ble_eq_true rfl) rfl rfl (sp_SE_currentFacts ?_)
      refine tw_ireturn (pc := 67) rfl rfl ?_
      exact h2 (by assumption) (by assumption)
    by_cases c8 : w.toInt = 3
    · refine tw_tabIn (pc := 13) (tgt := 68) 3 rfl (by omega) (by decide) rfl rfl ?_
      refine tw_aload_n (pc := 68) rfl rfl ?_
      refine tw_getR (pc := 69) rfl fl_TW_28 rfl rfl ?_
      refine tw_inv0 (pc := 72) rfl lk_TW_106 (Nat.le_of_ble_eq_true rfl) rfl rfl (sp_SE_nodeCount ?_)
      refine tw_ireturn (pc := 75) rfl rfl ?_
      exact h3 (by assumption) (by assumption)
    refine tw_tabOut (pc := 13) (tgt := 76) rfl (by omega) rfl ?_
    refine tw_iconst (pc := 76) rfl tw_ic_m1 ?_
    refine tw_ireturn (pc := 77) rfl rfl ?_
    first | exact hN (fun q => absurd q.1 (by assumption)) | exact hN (fun q => by omega)
  · refine tw_if_ne (pc := 7) (tgt := 12) rfl rfl (fun q => absurd q (by decide)) (fun _ => ?_)
    refine tw_iconst (pc := 10) rfl tw_ic_m1 ?_
    refine tw_ireturn (pc := 11) rfl rfl ?_
    first | exact hN (fun q => absurd q.1 (by assumption)) | exact hN (fun q => by omega)
theorem sp_TW_node {d : Nat} {M : tw_M} {Q : tw_P} {k w : Int32} (hn : 0 ≤ (M 70 8).toInt ∧ (M 70 8).toInt ≤ 48) (hD : DI M) (hN : ¬ ((0 ≤ k.toInt ∧ k.toInt < (M 70 8).toInt) ∧ 0 ≤ w.toInt ∧ w.toInt ≤ 2) → Q (some (-1)) M) (h0 : (0 ≤ k.toInt ∧ k.toInt < (M 70 8).toInt) → w.toInt = 0 → Q (some (M 76 k.toInt.toNat)) M) (h1 : (0 ≤ k.toInt ∧ k.toInt < (M 70 8).toInt) → w.toInt = 1 → Q (some (M 77 k.toInt.toNat)) M) (h2 : (0 ≤ k.toInt ∧ k.toInt < (M 70 8).toInt) → w.toInt = 2 → (M 70 9 = 0 ∨ ¬ k = M 70 8 - 1) → Q (some (mAt M (M 76 k.toInt.toNat) (M 78 k.toInt.toNat))) M) (h2n : (0 ≤ k.toInt ∧ k.toInt < (M 70 8).toInt) → w.toInt = 2 → ¬ M 70 9 = 0 → k = M 70 8 - 1 → Q (some (-1)) M) : tw_C (d + 4) j_TW_node [.inr 0, .inl k, .inl w] M Q := by
  refine tw_enter pn_TW dc_TW_node (Nat.le_of_ble_eq_true rfl) ?_
  have zm1 := tw_ti_m1
  have z0 := tw_ti_0
  refine tw_aload_n (pc := 0) rfl rfl ?_
  refine tw_getR (pc := 1) rfl fl_TW_28 rfl rfl ?_
  refine tw_iload_n (pc := 4) rfl rfl ?_
  refine tw_inv1 (pc := 5) rfl lk_TW_109 (Nat.le_of_ble_eq_true rfl) rfl rfl (sp_SE_hasNode (fun c1 => ?_) (fun c1 => ?_))
  · refine tw_if_ne (pc := 8) (tgt := 13) rfl rfl (fun _ => ?_) (fun q => absurd q (by decide))
    refine tw_iload_n (pc := 13) rfl rfl ?_
    by_cases c2 : w.toInt = 0
    · refine tw_tabIn (pc := 14) (tgt := 40) 0 rfl (by omega) (by decide) rfl rfl ?_
      refine tw_aload_n (pc := 40) rfl rfl ?_
      refine tw_getR (pc := 41) rfl fl_TW_28 rfl rfl ?_
      refine tw_iload_n (pc := 44) rfl rfl ?_
      refine tw_inv1 (pc := 45) rfl lk_TW_112 (Nat.le_of_ble_eq_true rfl) rfl rfl (sp_SE_nodeTask hn (fun c3 => ?_) (fun c3 => ?_))
      · refine tw_ireturn (pc := 48) rfl rfl ?_
        exact h0 (by assumption) (by assumption)
      · refine tw_ireturn (pc := 48) rfl rfl ?_
        first | exact h2n (by assumption) (by assumption) (by assumption) (by assumption) | exact hN (fun q => by omega)
    by_cases c4 : w.toInt = 1
    · refine tw_tabIn (pc := 14) (tgt := 49) 1 rfl (by omega) (by decide) rfl rfl ?_
      refine tw_aload_n (pc := 49) rfl rfl ?_
      refine tw_getR (pc := 50) rfl fl_TW_28 rfl rfl ?_
      refine tw_iload_n (pc := 53) rfl rfl ?_
      refine tw_inv1 (pc := 54) rfl lk_TW_115 (Nat.le_of_ble_eq_true rfl) rfl rfl (sp_SE_nodeParent hn (fun c5 => ?_) (fun c5 => ?_))
      · refine tw_ireturn (pc := 57) rfl rfl ?_
        exact h1 (by assumption) (by assumption)
      · refine tw_ireturn (pc := 57) rfl rfl ?_
        first | exact h2n (by assumption) (by assumption) (by assumption) (by assumption) | exact hN (fun q => by omega)
    by_cases c6 : w.toInt = 2
    · refine tw_tabIn (pc := 14) (tgt := 58) 2 rfl (by omega) (by decide) rfl rfl ?_
      refine tw_aload_n (pc := 58) rfl rfl ?_
      refine tw_getR (pc := 59) rfl fl_TW_28 rfl rfl ?_
      refine tw_iload_n (pc := 62) rfl rfl ?_
      refine tw_inv1 (pc := 63) rfl lk_TW_118 (Nat.le_of_ble_eq_true rfl) rfl rfl (sp_SE_nodeMethod hn hD (fun c7 => ?_) (fun c7 d7 e7 => ?_) (fun c7 d7 => ?_))
      · refine tw_ireturn (pc := 66) rfl rfl ?_
        first | exact h2n (by assumption) (by assumption) (by assumption) (by assumption) | exact hN (fun q => by omega)
      · refine tw_ireturn (pc := 66) rfl rfl ?_
        first | exact h2n (by assumption) (by assumption) (by assumption) (by assumption) | exact hN (fun q => by omega)
      · refine tw_ireturn (pc := 66) rfl rfl ?_
        exact h2 (by assumption) (by assumption) (by assumption)
    refine tw_tabOut (pc := 14) (tgt := 67) rfl (by omega) rfl ?_
    refine tw_iconst (pc := 67) rfl tw_ic_m1 ?_
    refine tw_ireturn (pc := 68) rfl rfl ?_
    first | exact h2n (by assumption) (by assumption) (by assumption) (by assumption) | exact hN (fun q => by omega)
  · refine tw_if_ne (pc := 8) (tgt := 13) rfl rfl (fun q => absurd q (by decide)) (fun _ => ?_)
    refine tw_iconst (pc := 11) rfl tw_ic_m1 ?_
    refine tw_ireturn (pc := 12) rfl rfl ?_
    first | exact h2n (by assumption) (by assumption) (by assumption) (by assumption) | exact hN (fun q => by omega)
theorem sp_TW_isFuel {d : Nat} {M : tw_M} {Q : tw_P} {b : Int32} (h1 : 0 ≤ b.toInt ∧ b.toInt ≤ 5000 → Q (some 1) M) (h0 : ¬ (0 ≤ b.toInt ∧ b.toInt ≤ 5000) → Q (some 0) M) : tw_C (d + 1) j_TW_isFuel [.inl b] M Q := by
  refine tw_enter pn_TW dc_TW_isFuel (Nat.le_of_ble_eq_true rfl) ?_
  have z0 := tw_ti_0
  have z1 := tw_ti_1
  have z5000 := tw_ti_5000
  refine tw_iload_n (pc := 0) rfl rfl ?_
  refine tw_if_lt (pc := 1) (tgt := 15) rfl rfl (fun c1 => ?_) (fun c1 => ?_)
  · refine tw_iconst (pc := 15) rfl tw_ic_0 ?_
    refine tw_ireturn (pc := 16) rfl rfl ?_
    exact h0 (by omega)
  · refine tw_iload_n (pc := 4) rfl rfl ?_
    refine tw_sipush (pc := 5) rfl tw_si_5000 ?_
    refine tw_icmp_gt (pc := 8) (tgt := 15) rfl rfl (fun c2 => ?_) (fun c2 => ?_)
    · refine tw_iconst (pc := 15) rfl tw_ic_0 ?_
      refine tw_ireturn (pc := 16) rfl rfl ?_
      exact h0 (by omega)
    · refine tw_iconst (pc := 11) rfl tw_ic_1 ?_
      refine tw_goto (pc := 12) (tgt := 16) rfl rfl ?_
      refine tw_ireturn (pc := 16) rfl rfl ?_
      exact h1 (by omega)
theorem sp_TW_another {d : Nat} {M : tw_M} {Q : tw_P} {fu : Int32} (hn : 0 ≤ (M 70 8).toInt ∧ (M 70 8).toInt ≤ 48) {N : tw_M} (hD : DI M) (hg : M 70 12 = 0 → DR (seeC (rejC M)) N ∧ StR (seeC (rejC M)) N ∧ (rejC M 70 12 = 2 → rejC M 70 9 = 0 → RowI 71 (rejC M))) (h0 : ¬ ((0 ≤ fu.toInt ∧ fu.toInt ≤ 5000) ∧ M 70 12 = 0) → Q (some (-1)) M) (h1 : (0 ≤ fu.toInt ∧ fu.toInt ≤ 5000) → M 70 12 = 0 → Q (some (itC fu.toInt.toNat (seeC (rejC M)) 70 12)) (itC fu.toInt.toNat (seeC (rejC M)))) : tw_C (d + 7) j_TW_another [.inr 0, .inl fu] M Q := by
  refine tw_enter pn_TW dc_TW_another (Nat.le_of_ble_eq_true rfl) ?_
  have zm1 := tw_ti_m1
  have z0 := tw_ti_0
  refine tw_iload_n (pc := 0) rfl rfl ?_
  refine tw_invs1 (pc := 1) rfl lk_TW_75 rfl (Nat.le_of_ble_eq_true rfl) (sp_TW_isFuel (fun c1 => ?_) (fun c1 => ?_))
  · refine tw_if_eq (pc := 4) (tgt := 17) rfl rfl (fun q => absurd q (by decide)) (fun _ => ?_)
    refine tw_aload_n (pc := 7) rfl rfl ?_
    refine tw_getR (pc := 8) rfl fl_TW_28 rfl rfl ?_
    refine tw_inv0 (pc := 11) rfl lk_TW_85 (Nat.le_of_ble_eq_true rfl) rfl rfl (sp_SE_hasPlan (fun c2 => ?_) (fun c2 => ?_))
    · refine tw_if_ne (pc := 14) (tgt := 19) rfl rfl (fun _ => ?_) (fun q => absurd q (by decide))
      have hfu : (0 ≤ fu.toInt ∧ fu.toInt ≤ 5000) := by assumption
      have hz : M 70 12 = 0 := by assumption
      obtain ⟨g1, g2, g3⟩ := hg hz
      refine tw_aload_n (pc := 19) rfl rfl ?_
      refine tw_getR (pc := 20) rfl fl_TW_28 rfl rfl ?_
      refine tw_inv0 (pc := 23) rfl lk_TW_88 (Nat.le_of_ble_eq_true rfl) rfl rfl (sp_SE_rejectPlan hD hn ?_)
      refine tw_aload_n (pc := 26) rfl rfl ?_
      refine tw_getR (pc := 27) rfl fl_TW_28 rfl rfl ?_
      refine tw_iload_n (pc := 30) rfl rfl ?_
      refine tw_inv1 (pc := 31) rfl lk_TW_82 (Nat.le_of_ble_eq_true rfl) rfl rfl (sp_SE_goOn hfu g1 g2 g3 ?_)
      refine tw_ireturn (pc := 34) rfl rfl ?_
      exact h1 (by assumption) (by assumption)
    · refine tw_if_ne (pc := 14) (tgt := 19) rfl rfl (fun q => absurd q (by decide)) (fun _ => ?_)
      refine tw_iconst (pc := 17) rfl tw_ic_m1 ?_
      refine tw_ireturn (pc := 18) rfl rfl ?_
      first | exact h0 (fun q => absurd q.1 (by assumption)) | exact h0 (fun q => absurd q.2 (by assumption))
  · refine tw_if_eq (pc := 4) (tgt := 17) rfl rfl (fun _ => ?_) (fun q => absurd q (by decide))
    refine tw_iconst (pc := 17) rfl tw_ic_m1 ?_
    refine tw_ireturn (pc := 18) rfl rfl ?_
    first | exact h0 (fun q => absurd q.1 (by assumption)) | exact h0 (fun q => absurd q.2 (by assumption))
