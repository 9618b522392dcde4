theorem sp_SE_emptyTree {d : Nat} {M : tw_M} {Q : tw_P} (h : Q none (tw_set (tw_set M 70 8 0) 70 9 0)) : tw_C (d + 1) j_SE_emptyTree [.inr 70] M Q := by
  refine tw_enter pn_SE dc_SE_emptyTree (Nat.le_of_ble_eq_true rfl) ?_
  have z0 := tw_ti_0
  refine tw_aload_n (pc := 0) rfl rfl ?_
  refine tw_iconst (pc := 1) rfl tw_ic_0 ?_
  refine tw_putI (pc := 2) rfl fp_SE_71 rfl rfl rfl rfl ?_
  refine tw_aload_n (pc := 5) rfl rfl ?_
  refine tw_iconst (pc := 6) rfl tw_ic_0 ?_
  refine tw_putI (pc := 7) rfl fp_SE_67 rfl rfl rfl rfl ?_
  refine tw_return (pc := 10) rfl trivial ?_
  exact h
theorem sp_SE_discard {d : Nat} {M : tw_M} {Q : tw_P} (h : Q none (tw_set (tw_set (tw_set (tw_set M 70 12 (-1)) 70 11 0) 70 8 0) 70 9 0)) : tw_C (d + 2) j_SE_discard [.inr 70] M Q := by
  refine tw_enter pn_SE dc_SE_discard (Nat.le_of_ble_eq_true rfl) ?_
  have zm1 := tw_ti_m1
  have z0 := tw_ti_0
  refine tw_aload_n (pc := 0) rfl rfl ?_
  refine tw_iconst (pc := 1) rfl tw_ic_m1 ?_
  refine tw_putI (pc := 2) rfl fp_SE_37 rfl rfl rfl rfl ?_
  refine tw_aload_n (pc := 5) rfl rfl ?_
  refine tw_iconst (pc := 6) rfl tw_ic_0 ?_
  refine tw_putI (pc := 7) rfl fp_SE_45 rfl rfl rfl rfl ?_
  refine tw_aload_n (pc := 10) rfl rfl ?_
  refine tw_inv0 (pc := 11) rfl lk_SE_48 (Nat.le_of_ble_eq_true rfl) rfl rfl (sp_SE_emptyTree ?_)
  refine tw_return (pc := 14) rfl trivial ?_
  exact h
theorem sp_SE_stepCount {d : Nat} {M : tw_M} {Q : tw_P} (h : Q (some (M 70 11)) M) : tw_C (d + 1) j_SE_stepCount [.inr 70] M Q := by
  refine tw_enter pn_SE dc_SE_stepCount (Nat.le_of_ble_eq_true rfl) ?_
  refine tw_aload_n (pc := 0) rfl rfl ?_
  refine tw_getV (pc := 1) (v := (M 70 11)) rfl fl_SE_45 rfl rfl rfl ?_
  refine tw_ireturn (pc := 4) rfl rfl ?_
  exact h
theorem sp_SE_currentFacts {d : Nat} {M : tw_M} {Q : tw_P} (h : Q (some (M 70 10)) M) : tw_C (d + 1) j_SE_currentFacts [.inr 70] M Q := by
  refine tw_enter pn_SE dc_SE_currentFacts (Nat.le_of_ble_eq_true rfl) ?_
  refine tw_aload_n (pc := 0) rfl rfl ?_
  refine tw_getV (pc := 1) (v := (M 70 10)) rfl fl_SE_57 rfl rfl rfl ?_
  refine tw_ireturn (pc := 4) rfl rfl ?_
  exact h
theorem sp_SE_nodeCount {d : Nat} {M : tw_M} {Q : tw_P} (h : Q (some (M 70 8)) M) : tw_C (d + 1) j_SE_nodeCount [.inr 70] M Q := by
  refine tw_enter pn_SE dc_SE_nodeCount (Nat.le_of_ble_eq_true rfl) ?_
  refine tw_aload_n (pc := 0) rfl rfl ?_
  refine tw_getV (pc := 1) (v := (M 70 8)) rfl fl_SE_71 rfl rfl rfl ?_
  refine tw_ireturn (pc := 4) rfl rfl ?_
  exact h
theorem sp_SE_hasPlan {d : Nat} {M : tw_M} {Q : tw_P} (h1 : M 70 12 = 0 → Q (some 1) M) (h0 : ¬ M 70 12 = 0 → Q (some 0) M) : tw_C (d + 1) j_SE_hasPlan [.inr 70] M Q := by
  refine tw_enter pn_SE dc_SE_hasPlan (Nat.le_of_ble_eq_true rfl) ?_
  have z0 := tw_ti_0
  have z1 := tw_ti_1
  refine tw_aload_n (pc := 0) rfl rfl ?_
  refine tw_getV (pc := 1) (v := (M 70 12)) rfl fl_SE_37 rfl rfl rfl ?_
  refine tw_if_ne (pc := 4) (tgt := 11) rfl rfl (fun c1 => ?_) (fun c1 => ?_)
  · refine tw_iconst (pc := 11) rfl tw_ic_0 ?_
    refine tw_ireturn (pc := 12) rfl rfl ?_
    exact h0 c1.1
  · refine tw_iconst (pc := 7) rfl tw_ic_1 ?_
    refine tw_goto (pc := 8) (tgt := 12) rfl rfl ?_
    refine tw_ireturn (pc := 12) rfl rfl ?_
    exact h1 c1.1
theorem sp_SE_hasNode {d : Nat} {M : tw_M} {Q : tw_P} {k : Int32} (h1 : (0 ≤ k.toInt ∧ k.toInt < (M 70 8).toInt) → Q (some 1) M) (h0 : ¬ (0 ≤ k.toInt ∧ k.toInt < (M 70 8).toInt) → Q (some 0) M) : tw_C (d + 1) j_SE_hasNode [.inr 70, .inl k] M Q := by
  refine tw_enter pn_SE dc_SE_hasNode (Nat.le_of_ble_eq_true rfl) ?_
  have z0 := tw_ti_0
  have z1 := tw_ti_1
  refine tw_iload_n (pc := 0) rfl rfl ?_
  refine tw_if_lt (pc := 1) (tgt := 16) rfl rfl (fun c1 => ?_) (fun c1 => ?_)
  · refine tw_iconst (pc := 16) rfl tw_ic_0 ?_
    refine tw_ireturn (pc := 17) rfl rfl ?_
    exact h0 (by omega)
  · refine tw_iload_n (pc := 4) rfl rfl ?_
    refine tw_aload_n (pc := 5) rfl rfl ?_
    refine tw_getV (pc := 6) (v := (M 70 8)) rfl fl_SE_71 rfl rfl rfl ?_
    refine tw_icmp_ge (pc := 9) (tgt := 16) rfl rfl (fun c2 => ?_) (fun c2 => ?_)
    · refine tw_iconst (pc := 16) rfl tw_ic_0 ?_
      refine tw_ireturn (pc := 17) rfl rfl ?_
      exact h0 (by omega)
    · refine tw_iconst (pc := 12) rfl tw_ic_1 ?_
      refine tw_goto (pc := 13) (tgt := 17) rfl rfl ?_
      refine tw_ireturn (pc := 17) rfl rfl ?_
      exact h1 (by omega)
theorem sp_SE_nodeTask {d : Nat} {M : tw_M} {Q : tw_P} {k : Int32} (hn : 0 ≤ (M 70 8).toInt ∧ (M 70 8).toInt ≤ 48) (h1 : (0 ≤ k.toInt ∧ k.toInt < (M 70 8).toInt) → Q (some (M 76 k.toInt.toNat)) M) (h0 : ¬ (0 ≤ k.toInt ∧ k.toInt < (M 70 8).toInt) → Q (some (-1)) M) : tw_C (d + 2) j_SE_nodeTask [.inr 70, .inl k] M Q := by
  refine tw_enter pn_SE dc_SE_nodeTask (Nat.le_of_ble_eq_true rfl) ?_
  have zm1 := tw_ti_m1
  have z0 := tw_ti_0
  refine tw_aload_n (pc := 0) rfl rfl ?_
  refine tw_iload_n (pc := 1) rfl rfl ?_
  refine tw_inv1 (pc := 2) rfl lk_SE_92 (Nat.le_of_ble_eq_true rfl) rfl rfl (sp_SE_hasNode (fun c1 => ?_) (fun c1 => ?_))
  · refine tw_if_eq (pc := 5) (tgt := 17) rfl rfl (fun q => absurd q (by decide)) (fun _ => ?_)
    refine tw_aload_n (pc := 8) rfl rfl ?_
    refine tw_getR (pc := 9) rfl fl_SE_18 rfl rfl ?_
    refine tw_iload_n (pc := 12) rfl rfl ?_
    refine tw_iald (pc := 13) rfl rfl ⟨by omega, by omega⟩ ?_
    refine tw_goto (pc := 14) (tgt := 18) rfl rfl ?_
    refine tw_ireturn (pc := 18) rfl rfl ?_
    exact h1 (by omega)
  · refine tw_if_eq (pc := 5) (tgt := 17) rfl rfl (fun _ => ?_) (fun q => absurd q (by decide))
    refine tw_iconst (pc := 17) rfl tw_ic_m1 ?_
    refine tw_ireturn (pc := 18) rfl rfl ?_
    exact h0 (by omega)
theorem sp_SE_nodeParent {d : Nat} {M : tw_M} {Q : tw_P} {k : Int32} (hn : 0 ≤ (M 70 8).toInt ∧ (M 70 8).toInt ≤ 48) (h1 : (0 ≤ k.toInt ∧ k.toInt < (M 70 8).toInt) → Q (some (M 77 k.toInt.toNat)) M) (h0 : ¬ (0 ≤ k.toInt ∧ k.toInt < (M 70 8).toInt) → Q (some (-1)) M) : tw_C (d + 2) j_SE_nodeParent [.inr 70, .inl k] M Q := by
  refine tw_enter pn_SE dc_SE_nodeParent (Nat.le_of_ble_eq_true rfl) ?_
  have zm1 := tw_ti_m1
  have z0 := tw_ti_0
  refine tw_aload_n (pc := 0) rfl rfl ?_
  refine tw_iload_n (pc := 1) rfl rfl ?_
  refine tw_inv1 (pc := 2) rfl lk_SE_92 (Nat.le_of_ble_eq_true rfl) rfl rfl (sp_SE_hasNode (fun c1 => ?_) (fun c1 => ?_))
  · refine tw_if_eq (pc := 5) (tgt := 17) rfl rfl (fun q => absurd q (by decide)) (fun _ => ?_)
    refine tw_aload_n (pc := 8) rfl rfl ?_
    refine tw_getR (pc := 9) rfl fl_SE_22 rfl rfl ?_
    refine tw_iload_n (pc := 12) rfl rfl ?_
    refine tw_iald (pc := 13) rfl rfl ⟨by omega, by omega⟩ ?_
    refine tw_goto (pc := 14) (tgt := 18) rfl rfl ?_
    refine tw_ireturn (pc := 18) rfl rfl ?_
    exact h1 (by omega)
  · refine tw_if_eq (pc := 5) (tgt := 17) rfl rfl (fun _ => ?_) (fun q => absurd q (by decide))
    refine tw_iconst (pc := 17) rfl tw_ic_m1 ?_
    refine tw_ireturn (pc := 18) rfl rfl ?_
    exact h0 (by omega)
theorem sp_SE_seeWhetherFound {d : Nat} {M : tw_M} {Q : tw_P} (hR : M 70 12 = 2 → M 70 9 = 0 → RowI 71 M) (h : Q none (seeC M)) : tw_C (d + 2) j_SE_seeWhetherFound [.inr 70] M Q := by
  refine tw_enter pn_SE dc_SE_seeWhetherFound (Nat.le_of_ble_eq_true rfl) ?_
  have z0 := tw_ti_0
  have z2 := tw_ti_2
  refine tw_aload_n (pc := 0) rfl rfl ?_
  refine tw_getV (pc := 1) (v := (M 70 12)) rfl fl_SE_37 rfl rfl rfl ?_
  refine tw_iconst (pc := 4) rfl tw_ic_2 ?_
  refine tw_icmp_ne (pc := 5) (tgt := 30) rfl rfl (fun c1 => ?_) (fun c1 => ?_)
  · refine tw_return (pc := 30) rfl trivial ?_
    first
    | (have hc : (M 70 12 = 2 ∧ M 70 9 = 0 ∧ lenV 71 M = 0) := ⟨c1.1, c2.1, c4.1⟩
       unfold seeC at h
       rw [if_pos hc] at h
       exact h)
    | (have hc : ¬ (M 70 12 = 2 ∧ M 70 9 = 0 ∧ lenV 71 M = 0) := fun q => c4.1 q.2.2
       unfold seeC at h
       rw [if_neg hc] at h
       exact h)
    | (have hc : ¬ (M 70 12 = 2 ∧ M 70 9 = 0 ∧ lenV 71 M = 0) := fun q => c2.1 q.2.1
       unfold seeC at h
       rw [if_neg hc] at h
       exact h)
    | (have hc : ¬ (M 70 12 = 2 ∧ M 70 9 = 0 ∧ lenV 71 M = 0) := fun q => c1.1 q.1
       unfold seeC at h
       rw [if_neg hc] at h
       exact h)
  · refine tw_aload_n (pc := 8) rfl rfl ?_
    refine tw_getV (pc := 9) (v := (M 70 9)) rfl fl_SE_67 rfl rfl rfl ?_
    refine tw_if_ne (pc := 12) (tgt := 30) rfl rfl (fun c2 => ?_) (fun c2 => ?_)
    · refine tw_return (pc := 30) rfl trivial ?_
      first
      | (have hc : (M 70 12 = 2 ∧ M 70 9 = 0 ∧ lenV 71 M = 0) := ⟨c1.1, c2.1, c4.1⟩
         unfold seeC at h
         rw [if_pos hc] at h
         exact h)
      | (have hc : ¬ (M 70 12 = 2 ∧ M 70 9 = 0 ∧ lenV 71 M = 0) := fun q => c4.1 q.2.2
         unfold seeC at h
         rw [if_neg hc] at h
         exact h)
      | (have hc : ¬ (M 70 12 = 2 ∧ M 70 9 = 0 ∧ lenV 71 M = 0) := fun q => c2.1 q.2.1
         unfold seeC at h
         rw [if_neg hc] at h
         exact h)
      | (have hc : ¬ (M 70 12 = 2 ∧ M 70 9 = 0 ∧ lenV 71 M = 0) := fun q => c1.1 q.1
         unfold seeC at h
         rw [if_neg hc] at h
         exact h)
    · refine tw_aload_n (pc := 15) rfl rfl ?_
      refine tw_getR (pc := 16) rfl fl_SE_12 rfl rfl ?_
      refine tw_inv0 (pc := 19) rfl lk_SE_99 (Nat.le_of_ble_eq_true rfl) rfl rfl (sp_RW_length_71 (hR c1.1 c2.1) rfl ?_)
      refine tw_if_ne (pc := 22) (tgt := 30) rfl rfl (fun c4 => ?_) (fun c4 => ?_)
      · refine tw_return (pc := 30) rfl trivial ?_
        first
        | (have hc : (M 70 12 = 2 ∧ M 70 9 = 0 ∧ lenV 71 M = 0) := ⟨c1.1, c2.1, c4.1⟩
           unfold seeC at h
           rw [if_pos hc] at h
           exact h)
        | (have hc : ¬ (M 70 12 = 2 ∧ M 70 9 = 0 ∧ lenV 71 M = 0) := fun q => c4.1 q.2.2
           unfold seeC at h
           rw [if_neg hc] at h
           exact h)
        | (have hc : ¬ (M 70 12 = 2 ∧ M 70 9 = 0 ∧ lenV 71 M = 0) := fun q => c2.1 q.2.1
           unfold seeC at h
           rw [if_neg hc] at h
           exact h)
        | (have hc : ¬ (M 70 12 = 2 ∧ M 70 9 = 0 ∧ lenV 71 M = 0) := fun q => c1.1 q.1
           unfold seeC at h
           rw [if_neg hc] at h
           exact h)
      · refine tw_aload_n (pc := 25) rfl rfl ?_
        refine tw_iconst (pc := 26) rfl tw_ic_0 ?_
        refine tw_putI (pc := 27) rfl fp_SE_37 rfl rfl rfl rfl ?_
        refine tw_return (pc := 30) rfl trivial ?_
        first
        | (have hc : (M 70 12 = 2 ∧ M 70 9 = 0 ∧ lenV 71 M = 0) := ⟨c1.1, c2.1, c4.1⟩
           unfold seeC at h
           rw [if_pos hc] at h
           exact h)
        | (have hc : ¬ (M 70 12 = 2 ∧ M 70 9 = 0 ∧ lenV 71 M = 0) := fun q => c4.1 q.2.2
           unfold seeC at h
           rw [if_neg hc] at h
           exact h)
        | (have hc : ¬ (M 70 12 = 2 ∧ M 70 9 = 0 ∧ lenV 71 M = 0) := fun q => c2.1 q.2.1
           unfold seeC at h
           rw [if_neg hc] at h
           exact h)
        | (have hc : ¬ (M 70 12 = 2 ∧ M 70 9 = 0 ∧ lenV 71 M = 0) := fun q => c1.1 q.1
           unfold seeC at h
           rw [if_neg hc] at h
           exact h)
theorem sp_SE_hasMethodBehind {d : Nat} {M : tw_M} {Q : tw_P} {nd : Int32} (hD : DI M) (hd : 0 ≤ nd.toInt ∧ nd.toInt < 48) (h1 : ¬ mAt M (M 76 nd.toInt.toNat) (M 78 nd.toInt.toNat + 1) = -1 → Q (some 1) M) (h0 : mAt M (M 76 nd.toInt.toNat) (M 78 nd.toInt.toNat + 1) = -1 → Q (some 0) M) : tw_C (d + 3) j_SE_hasMethodBehind [.inr 70, .inl nd] M Q := by
  refine tw_enter pn_SE dc_SE_hasMethodBehind (Nat.le_of_ble_eq_true rfl) ?_
  have zm1 := tw_ti_m1
  have z0 := tw_ti_0
  have z1 := tw_ti_1
  refine tw_aload_n (pc := 0) rfl rfl ?_
  refine tw_getR (pc := 1) rfl fl_SE_41 rfl rfl ?_
  refine tw_aload_n (pc := 4) rfl rfl ?_
  refine tw_getR (pc := 5) rfl fl_SE_18 rfl rfl ?_
  refine tw_iload_n (pc := 8) rfl rfl ?_
  refine tw_iald (pc := 9) rfl rfl ⟨by omega, by omega⟩ ?_
  refine tw_aload_n (pc := 10) rfl rfl ?_
  refine tw_getR (pc := 11) rfl fl_SE_25 rfl rfl ?_
  refine tw_iload_n (pc := 14) rfl rfl ?_
  refine tw_iald (pc := 15) rfl rfl ⟨by omega, by omega⟩ ?_
  refine tw_iconst (pc := 16) rfl tw_ic_1 ?_
  refine tw_iadd (pc := 17) rfl ?_
  refine tw_inv2 (pc := 18) rfl lk_SE_95 (Nat.le_of_ble_eq_true rfl) rfl rfl (sp_DM_methodAt hD rfl ?_)
  refine tw_iconst (pc := 21) rfl tw_ic_m1 ?_
  refine tw_icmp_eq (pc := 22) (tgt := 29) rfl rfl (fun c2 => ?_) (fun c2 => ?_)
  · refine tw_iconst (pc := 29) rfl tw_ic_0 ?_
    refine tw_ireturn (pc := 30) rfl rfl ?_
    first | exact h1 (And.left (by assumption)) | exact h0 (And.left (by assumption))
  · refine tw_iconst (pc := 25) rfl tw_ic_1 ?_
    refine tw_goto (pc := 26) (tgt := 30) rfl rfl ?_
    refine tw_ireturn (pc := 30) rfl rfl ?_
    first | exact h1 (And.left (by assumption)) | exact h0 (And.left (by assumption))
theorem sp_SE_reopen {d : Nat} {M : tw_M} {Q : tw_P} {nd : Int32} (hd : 0 ≤ nd.toInt ∧ nd.toInt < 48) (h : Q none (tw_set (tw_set (tw_set (tw_set (tw_set (tw_set M 71 4 (M 79 nd.toInt.toNat)) 71 5 (M 80 nd.toInt.toNat)) 70 10 (M 81 nd.toInt.toNat)) 70 8 (nd + 1)) 78 nd.toInt.toNat ((M 78 nd.toInt.toNat) + 1)) 70 9 1)) : tw_C (d + 2) j_SE_reopen [.inr 70, .inl nd] M Q := by
  refine tw_enter pn_SE dc_SE_reopen (Nat.le_of_ble_eq_true rfl) ?_
  have z1 := tw_ti_1
  refine tw_aload_n (pc := 0) rfl rfl ?_
  refine tw_getR (pc := 1) rfl fl_SE_12 rfl rfl ?_
  refine tw_aload_n (pc := 4) rfl rfl ?_
  refine tw_getR (pc := 5) rfl fl_SE_28 rfl rfl ?_
  refine tw_iload_n (pc := 8) rfl rfl ?_
  refine tw_iald (pc := 9) rfl rfl ⟨by omega, by omega⟩ ?_
  refine tw_aload_n (pc := 10) rfl rfl ?_
  refine tw_getR (pc := 11) rfl fl_SE_31 rfl rfl ?_
  refine tw_iload_n (pc := 14) rfl rfl ?_
  refine tw_iald (pc := 15) rfl rfl ⟨by omega, by omega⟩ ?_
  refine tw_inv2 (pc := 16) rfl lk_SE_140 (Nat.le_of_ble_eq_true rfl) rfl rfl (sp_RW_goBackTo_71 ?_)
  refine tw_aload_n (pc := 19) rfl rfl ?_
  refine tw_aload_n (pc := 20) rfl rfl ?_
  refine tw_getR (pc := 21) rfl fl_SE_34 rfl rfl ?_
  refine tw_iload_n (pc := 24) rfl rfl ?_
  refine tw_ialdV (pc := 25) (v := (M 81 nd.toInt.toNat)) rfl rfl ⟨by omega, by omega⟩ rfl ?_
  refine tw_putI (pc := 26) rfl fp_SE_57 rfl rfl rfl rfl ?_
  refine tw_aload_n (pc := 29) rfl rfl ?_
  refine tw_iload_n (pc := 30) rfl rfl ?_
  refine tw_iconst (pc := 31) rfl tw_ic_1 ?_
  refine tw_iadd (pc := 32) rfl ?_
  refine tw_putI (pc := 33) rfl fp_SE_71 rfl rfl rfl rfl ?_
  refine tw_aload_n (pc := 36) rfl rfl ?_
  refine tw_getR (pc := 37) rfl fl_SE_25 rfl rfl ?_
  refine tw_iload_n (pc := 40) rfl rfl ?_
  refine tw_dup2 (pc := 41) rfl ?_
  refine tw_ialdV (pc := 42) (v := (M 78 nd.toInt.toNat)) rfl rfl ⟨by omega, by omega⟩ rfl ?_
  refine tw_iconst (pc := 43) rfl tw_ic_1 ?_
  refine tw_iadd (pc := 44) rfl ?_
  refine tw_iast (pc := 45) rfl rfl ⟨by omega, by omega⟩ ?_
  refine tw_aload_n (pc := 46) rfl rfl ?_
  refine tw_iconst (pc := 47) rfl tw_ic_1 ?_
  refine tw_putI (pc := 48) rfl fp_SE_67 rfl rfl rfl rfl ?_
  refine tw_return (pc := 51) rfl trivial ?_
  exact h
theorem lp_SE_fail {d : Nat} {Q : tw_P} {M : tw_M} (hD : DI M) : ∀ (n : Nat) (nd : Int32), n ≤ 48 → nd.toInt = (n : Int) - 1 → Q none (failC M n) → tw_T none (d + 3) j_SE_fail M 7 [some (.inr 70), some (.inl nd)] [] Q := by
  intro n
  induction n with
  | zero =>
    intro nd hn hd h
    have zm1 := tw_ti_m1
    have z0 := tw_ti_0
    have z1 := tw_ti_1
    refine tw_iload_n (pc := 7) rfl rfl ?_
    refine tw_if_lt (pc := 8) (tgt := 31) rfl rfl (fun c1 => ?_) (fun c1 => absurd c1 (by omega))
    refine tw_aload_n (pc := 31) rfl rfl ?_
    refine tw_inv0 (pc := 32) rfl lk_SE_48 (Nat.le_of_ble_eq_true rfl) rfl rfl (sp_SE_emptyTree ?_)
    refine tw_aload_n (pc := 35) rfl rfl ?_
    refine tw_iconst (pc := 36) rfl tw_ic_1 ?_
    refine tw_putI (pc := 37) rfl fp_SE_37 rfl rfl rfl rfl ?_
    refine tw_return (pc := 40) rfl trivial ?_
    exact h
  | succ n ih =>
    intro nd hn hd h
    have end1 : nd.toInt.toNat = n := by omega
    have end2 : nd = Int32.ofNat n := tw_ofN (by omega) (by omega)
    have zm1 := tw_ti_m1
    have z0 := tw_ti_0
    have z1 := tw_ti_1
    refine tw_iload_n (pc := 7) rfl rfl ?_
    refine tw_if_lt (pc := 8) (tgt := 31) rfl rfl (fun c1 => absurd c1 (by omega)) (fun c1 => ?_)
    refine tw_aload_n (pc := 11) rfl rfl ?_
    refine tw_iload_n (pc := 12) rfl rfl ?_
    refine tw_inv1 (pc := 13) rfl lk_SE_134 (Nat.le_of_ble_eq_true rfl) rfl rfl (sp_SE_hasMethodBehind hD (by omega) (fun c2 => ?_) (fun c2 => ?_))
    · refine tw_if_eq (pc := 16) (tgt := 25) rfl rfl (fun q => absurd q (by decide)) (fun _ => ?_)
      refine tw_aload_n (pc := 19) rfl rfl ?_
      refine tw_iload_n (pc := 20) rfl rfl ?_
      refine tw_inv1 (pc := 21) rfl lk_SE_137 (Nat.le_of_ble_eq_true rfl) rfl rfl (sp_SE_reopen (by omega) ?_)
      refine tw_return (pc := 24) rfl trivial ?_
      rw [end1] at c2
      have e : failC M (n + 1) = reopenC M n := by simp only [failC]; exact if_neg c2
      rw [e] at h
      subst end2
      rw [end1]
      exact h
    · refine tw_if_eq (pc := 16) (tgt := 25) rfl rfl (fun _ => ?_) (fun q => absurd q (by decide))
      refine tw_iincF (pc := 25) rfl rfl tw_ic_m1 (Nat.le_of_ble_eq_true rfl) ⟨by omega, by omega⟩ (fun e4 => ?_)
      refine tw_goto (pc := 28) (tgt := 7) rfl rfl ?_
      rw [end1] at c2
      have e : failC M (n + 1) = failC M n := by simp only [failC]; exact if_pos c2
      rw [e] at h
      exact ih _ (by omega) (tw_dec1 hd (by omega)) h
theorem sp_SE_fail {d : Nat} {M : tw_M} {Q : tw_P} (hD : DI M) (hn : 0 ≤ (M 70 8).toInt ∧ (M 70 8).toInt ≤ 48) (h : Q none (failC M (M 70 8).toInt.toNat)) : tw_C (d + 4) j_SE_fail [.inr 70] M Q := by
  refine tw_enter pn_SE dc_SE_fail (Nat.le_of_ble_eq_true rfl) ?_
  have zm1 := tw_ti_m1
  have z0 := tw_ti_0
  have z1 := tw_ti_1
  refine tw_aload_n (pc := 0) rfl rfl ?_
  refine tw_getV (pc := 1) (v := (M 70 8)) rfl fl_SE_71 rfl rfl rfl ?_
  refine tw_iconst (pc := 4) rfl tw_ic_1 ?_
  refine tw_isubF (pc := 5) rfl ⟨by omega, by omega⟩ (fun e1 => ?_)
  refine tw_istore_n (pc := 6) rfl (Nat.le_of_ble_eq_true rfl) ?_
  exact lp_SE_fail hD _ _ (by omega) (by omega) h
theorem sp_RW_takeFirstN_71 {d : Nat} {M : tw_M} {Q : tw_P} (hR : RowI 71 M) (hne : ¬ M 71 4 = -1) (h : Q none (tw_set M 71 4 (M 74 (M 71 4).toInt.toNat))) : tw_C (d + 1) j_RW_takeFirst [.inr 71] M Q := by
  refine sp_RW_takeFirst_71 hR ?_
  have e : takeFC 71 M = tw_set M 71 4 (M 74 (M 71 4).toInt.toNat) := if_neg hne
  rw [e]
  exact h
theorem sp_RW_takeFirstN_83 {d : Nat} {M : tw_M} {Q : tw_P} (hR : RowI 83 M) (hne : ¬ M 83 4 = -1) (h : Q none (tw_set M 83 4 (M 86 (M 83 4).toInt.toNat))) : tw_C (d + 1) j_RW_takeFirst [.inr 83] M Q := by
  refine sp_RW_takeFirst_83 hR ?_
  have e : takeFC 83 M = tw_set M 83 4 (M 86 (M 83 4).toInt.toNat) := if_neg hne
  rw [e]
  exact h
theorem sp_SE_addNode {d : Nat} {M : tw_M} {Q : tw_P} {t : Int32} (hR : RowI 71 M) (hne : ¬ M 71 4 = -1) (hn : 0 ≤ (M 70 8).toInt ∧ (M 70 8).toInt < 48) (h : Q none (addC M t)) : tw_C (d + 2) j_SE_addNode [.inr 70, .inl t] M Q := by
  refine tw_enter pn_SE dc_SE_addNode (Nat.le_of_ble_eq_true rfl) ?_
  have z0 := tw_ti_0
  have z1 := tw_ti_1
  refine tw_aload_n (pc := 0) rfl rfl ?_
  refine tw_getR (pc := 1) rfl fl_SE_18 rfl rfl ?_
  refine tw_aload_n (pc := 4) rfl rfl ?_
  refine tw_getV (pc := 5) (v := (M 70 8)) rfl fl_SE_71 rfl rfl rfl ?_
  refine tw_iload_n (pc := 8) rfl rfl ?_
  refine tw_iast (pc := 9) rfl rfl ⟨by omega, by omega⟩ ?_
  refine tw_aload_n (pc := 10) rfl rfl ?_
  refine tw_getR (pc := 11) rfl fl_SE_22 rfl rfl ?_
  refine tw_aload_n (pc := 14) rfl rfl ?_
  refine tw_getV (pc := 15) (v := (M 70 8)) rfl fl_SE_71 rfl rfl rfl ?_
  refine tw_aload_n (pc := 18) rfl rfl ?_
  refine tw_getR (pc := 19) rfl fl_SE_12 rfl rfl ?_
  refine tw_inv0 (pc := 22) rfl lk_SE_115 (Nat.le_of_ble_eq_true rfl) rfl rfl (sp_RW_firstParent_71 hR rfl ?_)
  refine tw_iast (pc := 25) rfl rfl ⟨by omega, by omega⟩ ?_
  refine tw_aload_n (pc := 26) rfl rfl ?_
  refine tw_getR (pc := 27) rfl fl_SE_12 rfl rfl ?_
  refine tw_inv0 (pc := 30) rfl lk_SE_118 (Nat.le_of_ble_eq_true rfl) rfl rfl (sp_RW_takeFirstN_71 hR hne ?_)
  refine tw_aload_n (pc := 33) rfl rfl ?_
  refine tw_getR (pc := 34) rfl fl_SE_25 rfl rfl ?_
  refine tw_aload_n (pc := 37) rfl rfl ?_
  refine tw_getV (pc := 38) (v := (M 70 8)) rfl fl_SE_71 rfl rfl rfl ?_
  refine tw_iconst (pc := 41) rfl tw_ic_0 ?_
  refine tw_iast (pc := 42) rfl rfl ⟨by omega, by omega⟩ ?_
  refine tw_aload_n (pc := 43) rfl rfl ?_
  refine tw_getR (pc := 44) rfl fl_SE_28 rfl rfl ?_
  refine tw_aload_n (pc := 47) rfl rfl ?_
  refine tw_getV (pc := 48) (v := (M 70 8)) rfl fl_SE_71 rfl rfl rfl ?_
  refine tw_aload_n (pc := 51) rfl rfl ?_
  refine tw_getR (pc := 52) rfl fl_SE_12 rfl rfl ?_
  refine tw_inv0 (pc := 55) rfl lk_SE_121 (Nat.le_of_ble_eq_true rfl) rfl rfl (sp_RW_firstCell_71 ?_)
  refine tw_iast (pc := 58) rfl rfl ⟨by omega, by omega⟩ ?_
  refine tw_aload_n (pc := 59) rfl rfl ?_
  refine tw_getR (pc := 60) rfl fl_SE_31 rfl rfl ?_
  refine tw_aload_n (pc := 63) rfl rfl ?_
  refine tw_getV (pc := 64) (v := (M 70 8)) rfl fl_SE_71 rfl rfl rfl ?_
  refine tw_aload_n (pc := 67) rfl rfl ?_
  refine tw_getR (pc := 68) rfl fl_SE_12 rfl rfl ?_
  refine tw_inv0 (pc := 71) rfl lk_SE_124 (Nat.le_of_ble_eq_true rfl) rfl rfl (sp_RW_cellCount_71 ?_)
  refine tw_iast (pc := 74) rfl rfl ⟨by omega, by omega⟩ ?_
  refine tw_aload_n (pc := 75) rfl rfl ?_
  refine tw_getR (pc := 76) rfl fl_SE_34 rfl rfl ?_
  refine tw_aload_n (pc := 79) rfl rfl ?_
  refine tw_getV (pc := 80) (v := (M 70 8)) rfl fl_SE_71 rfl rfl rfl ?_
  refine tw_aload_n (pc := 83) rfl rfl ?_
  refine tw_getV (pc := 84) (v := (M 70 10)) rfl fl_SE_57 rfl rfl rfl ?_
  refine tw_iast (pc := 87) rfl rfl ⟨by omega, by omega⟩ ?_
  refine tw_aload_n (pc := 88) rfl rfl ?_
  refine tw_dup (pc := 89) rfl ?_
  refine tw_getV (pc := 90) (v := (M 70 8)) rfl fl_SE_71 rfl rfl rfl ?_
  refine tw_iconst (pc := 93) rfl tw_ic_1 ?_
  refine tw_iadd (pc := 94) rfl ?_
  refine tw_putI (pc := 95) rfl fp_SE_71 rfl rfl rfl rfl ?_
  refine tw_return (pc := 98) rfl trivial ?_
  exact h
theorem DI_addC {M : tw_M} (t : Int32) (h : DI M) : DI (addC M t) := h
theorem sp_SE_takeTask {d : Nat} {M : tw_M} {Q : tw_P} (hD : DI M) (hR : RowI 71 M) (hne : ¬ M 71 4 = -1) (hn : 0 ≤ (M 70 8).toInt ∧ (M 70 8).toInt ≤ 48) (h : Q none (takeC M)) : tw_C (d + 5) j_SE_takeTask [.inr 70] M Q := by
  have hD1 := DI_addC (tskV 71 M) hD
  have z48' : (48 : Int32).toInt = 48 := by decide
  refine tw_enter pn_SE dc_SE_takeTask (Nat.le_of_ble_eq_true rfl) ?_
  have zm1 := tw_ti_m1
  have z0 := tw_ti_0
  have z1 := tw_ti_1
  have z48 := tw_ti_48
  refine tw_aload_n (pc := 0) rfl rfl ?_
  refine tw_getV (pc := 1) (v := (M 70 8)) rfl fl_SE_71 rfl rfl rfl ?_
  refine tw_bipush (pc := 4) rfl tw_bi_48 ?_
  refine tw_icmp_lt (pc := 6) (tgt := 14) rfl rfl (fun c1 => ?_) (fun c1 => ?_)
  · have e8 : (addC M (tskV 71 M) 70 8).toInt = (M 70 8).toInt + 1 := by
      show (M 70 8 + 1).toInt = _
      rw [tw_addI (by rw [tw_ti_1]; omega), tw_ti_1]
    refine tw_aload_n (pc := 14) rfl rfl ?_
    refine tw_getR (pc := 15) rfl fl_SE_12 rfl rfl ?_
    refine tw_inv0 (pc := 18) rfl lk_SE_102 (Nat.le_of_ble_eq_true rfl) rfl rfl (sp_RW_firstTask_71 hR rfl ?_)
    refine tw_istore_n (pc := 21) rfl (Nat.le_of_ble_eq_true rfl) ?_
    refine tw_aload_n (pc := 22) rfl rfl ?_
    refine tw_iload_n (pc := 23) rfl rfl ?_
    refine tw_inv1 (pc := 24) rfl lk_SE_105 (Nat.le_of_ble_eq_true rfl) rfl rfl (sp_SE_addNode hR hne (by omega) ?_)
    refine tw_aload_n (pc := 27) rfl rfl ?_
    refine tw_getR (pc := 28) rfl fl_SE_41 rfl rfl ?_
    refine tw_iload_n (pc := 31) rfl rfl ?_
    refine tw_aload_n (pc := 32) rfl rfl ?_
    refine tw_getV (pc := 33) (v := ((addC M (tskV 71 M)) 70 10)) rfl fl_SE_57 rfl rfl rfl ?_
    refine tw_inv2 (pc := 36) rfl lk_SE_108 (Nat.le_of_ble_eq_true rfl) rfl rfl (sp_DM_canDo hD1 (fun c4 => ?_) (fun c4 => ?_))
    · refine tw_if_eq (pc := 39) (tgt := 61) rfl rfl (fun q => absurd q (by decide)) (fun _ => ?_)
      refine tw_aload_n (pc := 42) rfl rfl ?_
      refine tw_aload_n (pc := 43) rfl rfl ?_
      refine tw_getR (pc := 44) rfl fl_SE_41 rfl rfl ?_
      refine tw_iload_n (pc := 47) rfl rfl ?_
      refine tw_aload_n (pc := 48) rfl rfl ?_
      refine tw_getV (pc := 49) (v := ((addC M (tskV 71 M)) 70 10)) rfl fl_SE_57 rfl rfl rfl ?_
      refine tw_inv2 (pc := 52) rfl lk_SE_112 (Nat.le_of_ble_eq_true rfl) rfl rfl (sp_DM_factsAfter hD1 rfl ?_)
      refine tw_putI (pc := 55) rfl fp_SE_57 rfl rfl rfl rfl ?_
      refine tw_goto (pc := 58) (tgt := 86) rfl rfl ?_
      refine tw_return (pc := 86) rfl trivial ?_
      first
      | (have hc : 48 ≤ (M 70 8).toInt := by omega
         unfold takeC at h
         rw [if_pos hc] at h
         exact h)
      | (have hc : ¬ 48 ≤ (M 70 8).toInt := by omega
         unfold takeC doneC at h
         rw [if_neg hc] at h
         first
         | (have hx : pDo (addC M (tskV 71 M)) (tskV 71 M) (addC M (tskV 71 M) 70 10) := by assumption
            rw [if_pos hx] at h
            exact h)
         | (have hx : ¬ pDo (addC M (tskV 71 M)) (tskV 71 M) (addC M (tskV 71 M) 70 10) := by assumption
            rw [if_neg hx] at h
            first
            | (have hy : mAt (addC M (tskV 71 M)) (tskV 71 M) 0 = -1 := And.left (by assumption)
               rw [if_pos hy] at h
               exact h)
            | (have hy : ¬ mAt (addC M (tskV 71 M)) (tskV 71 M) 0 = -1 := And.left (by assumption)
               rw [if_neg hy] at h
               exact h)))
    · refine tw_if_eq (pc := 39) (tgt := 61) rfl rfl (fun _ => ?_) (fun q => absurd q (by decide))
      refine tw_aload_n (pc := 61) rfl rfl ?_
      refine tw_getR (pc := 62) rfl fl_SE_41 rfl rfl ?_
      refine tw_iload_n (pc := 65) rfl rfl ?_
      refine tw_iconst (pc := 66) rfl tw_ic_0 ?_
      refine tw_inv2 (pc := 67) rfl lk_SE_95 (Nat.le_of_ble_eq_true rfl) rfl rfl (sp_DM_methodAt hD1 rfl ?_)
      refine tw_iconst (pc := 70) rfl tw_ic_m1 ?_
      refine tw_icmp_eq (pc := 71) (tgt := 82) rfl rfl (fun c7 => ?_) (fun c7 => ?_)
      · refine tw_aload_n (pc := 82) rfl rfl ?_
        refine tw_inv0 (pc := 83) rfl lk_SE_81 (Nat.le_of_ble_eq_true rfl) rfl rfl (sp_SE_fail hD1 (by rw [e8]; omega) ?_)
        refine tw_return (pc := 86) rfl trivial ?_
        first
        | (have hc : 48 ≤ (M 70 8).toInt := by omega
           unfold takeC at h
           rw [if_pos hc] at h
           exact h)
        | (have hc : ¬ 48 ≤ (M 70 8).toInt := by omega
           unfold takeC doneC at h
           rw [if_neg hc] at h
           first
           | (have hx : pDo (addC M (tskV 71 M)) (tskV 71 M) (addC M (tskV 71 M) 70 10) := by assumption
              rw [if_pos hx] at h
              exact h)
           | (have hx : ¬ pDo (addC M (tskV 71 M)) (tskV 71 M) (addC M (tskV 71 M) 70 10) := by assumption
              rw [if_neg hx] at h
              first
              | (have hy : mAt (addC M (tskV 71 M)) (tskV 71 M) 0 = -1 := And.left (by assumption)
                 rw [if_pos hy] at h
                 exact h)
              | (have hy : ¬ mAt (addC M (tskV 71 M)) (tskV 71 M) 0 = -1 := And.left (by assumption)
                 rw [if_neg hy] at h
                 exact h)))
      · refine tw_aload_n (pc := 74) rfl rfl ?_
        refine tw_iconst (pc := 75) rfl tw_ic_1 ?_
        refine tw_putI (pc := 76) rfl fp_SE_67 rfl rfl rfl rfl ?_
        refine tw_goto (pc := 79) (tgt := 86) rfl rfl ?_
        refine tw_return (pc := 86) rfl trivial ?_
        first
        | (have hc : 48 ≤ (M 70 8).toInt := by omega
           unfold takeC at h
           rw [if_pos hc] at h
           exact h)
        | (have hc : ¬ 48 ≤ (M 70 8).toInt := by omega
           unfold takeC doneC at h
           rw [if_neg hc] at h
           first
           | (have hx : pDo (addC M (tskV 71 M)) (tskV 71 M) (addC M (tskV 71 M) 70 10) := by assumption
              rw [if_pos hx] at h
              exact h)
           | (have hx : ¬ pDo (addC M (tskV 71 M)) (tskV 71 M) (addC M (tskV 71 M) 70 10) := by assumption
              rw [if_neg hx] at h
              first
              | (have hy : mAt (addC M (tskV 71 M)) (tskV 71 M) 0 = -1 := And.left (by assumption)
                 rw [if_pos hy] at h
                 exact h)
              | (have hy : ¬ mAt (addC M (tskV 71 M)) (tskV 71 M) 0 = -1 := And.left (by assumption)
                 rw [if_neg hy] at h
                 exact h)))
  · refine tw_aload_n (pc := 9) rfl rfl ?_
    refine tw_inv0 (pc := 10) rfl lk_SE_81 (Nat.le_of_ble_eq_true rfl) rfl rfl (sp_SE_fail hD (by omega) ?_)
    refine tw_return (pc := 13) rfl trivial ?_
    first
    | (have hc : 48 ≤ (M 70 8).toInt := by omega
       unfold takeC at h
       rw [if_pos hc] at h
       exact h)
    | (have hc : ¬ 48 ≤ (M 70 8).toInt := by omega
       unfold takeC doneC at h
       rw [if_neg hc] at h
       first
       | (have hx : pDo (addC M (tskV 71 M)) (tskV 71 M) (addC M (tskV 71 M) 70 10) := by assumption
          rw [if_pos hx] at h
          exact h)
       | (have hx : ¬ pDo (addC M (tskV 71 M)) (tskV 71 M) (addC M (tskV 71 M) 70 10) := by assumption
          rw [if_neg hx] at h
          first
          | (have hy : mAt (addC M (tskV 71 M)) (tskV 71 M) 0 = -1 := And.left (by assumption)
             rw [if_pos hy] at h
             exact h)
          | (have hy : ¬ mAt (addC M (tskV 71 M)) (tskV 71 M) 0 = -1 := And.left (by assumption)
             rw [if_neg hy] at h
             exact h)))
theorem sp_RW_putPartsFirst_71 {d : Nat} {M : tw_M} {Q : tw_P} {m p : Int32} (hD : DI M) (hR : RowI 71 M) (hm : 0 ≤ m.toInt ∧ m.toInt < (M 1 14).toInt) (hc : (M 71 5).toInt + 5 ≤ 246) (h : Q none (putAll 71 p M (dl (M (25 + m.toInt.toNat)) (nPart M m).toInt.toNat))) : tw_C (d + 3) j_RW_putPartsFirst [.inr 71, .inr 1, .inl m, .inl p] M Q := by
  have hk := hD.2.2.2.2.2 m.toInt.toNat
  have hp := hD.2.2.1
  have en : nPart M m = M 65 m.toInt.toNat := if_pos hm
  refine tw_enter pn_RW dc_RW_putPartsFirst (Nat.le_of_ble_eq_true rfl) ?_
  have zm1 := tw_ti_m1
  have z0 := tw_ti_0
  have z1 := tw_ti_1
  refine tw_aload_n (pc := 0) rfl rfl ?_
  refine tw_iload_n (pc := 1) rfl rfl ?_
  refine tw_inv1 (pc := 2) rfl lk_RW_45 (Nat.le_of_ble_eq_true rfl) rfl rfl (sp_DM_partCount hD en ?_)
  refine tw_iconst (pc := 5) rfl tw_ic_1 ?_
  refine tw_isubF (pc := 6) rfl ⟨by omega, by omega⟩ (fun e2 => ?_)
  refine tw_istore (pc := 7) rfl (Nat.le_of_ble_eq_true rfl) ?_
  rw [en] at h
  have hk2 := hk (by omega)
  exact lp_RW_putPartsFirst_71 (M 65 m.toInt.toNat).toInt.toNat _ _ hD hR (by omega) (by omega) hm (by omega) h
theorem sp_RW_putPartsFirst_83 {d : Nat} {M : tw_M} {Q : tw_P} {m p : Int32} (hD : DI M) (hR : RowI 83 M) (hm : 0 ≤ m.toInt ∧ m.toInt < (M 1 14).toInt) (hc : (M 83 5).toInt + 5 ≤ 246) (h : Q none (putAll 83 p M (dl (M (25 + m.toInt.toNat)) (nPart M m).toInt.toNat))) : tw_C (d + 3) j_RW_putPartsFirst [.inr 83, .inr 1, .inl m, .inl p] M Q := by
  have hk := hD.2.2.2.2.2 m.toInt.toNat
  have hp := hD.2.2.1
  have en : nPart M m = M 65 m.toInt.toNat := if_pos hm
  refine tw_enter pn_RW dc_RW_putPartsFirst (Nat.le_of_ble_eq_true rfl) ?_
  have zm1 := tw_ti_m1
  have z0 := tw_ti_0
  have z1 := tw_ti_1
  refine tw_aload_n (pc := 0) rfl rfl ?_
  refine tw_iload_n (pc := 1) rfl rfl ?_
  refine tw_inv1 (pc := 2) rfl lk_RW_45 (Nat.le_of_ble_eq_true rfl) rfl rfl (sp_DM_partCount hD en ?_)
  refine tw_iconst (pc := 5) rfl tw_ic_1 ?_
  refine tw_isubF (pc := 6) rfl ⟨by omega, by omega⟩ (fun e2 => ?_)
  refine tw_istore (pc := 7) rfl (Nat.le_of_ble_eq_true rfl) ?_
  rw [en] at h
  have hk2 := hk (by omega)
  exact lp_RW_putPartsFirst_83 (M 65 m.toInt.toNat).toInt.toNat _ _ hD hR (by omega) (by omega) hm (by omega) h
theorem sp_RW_beginWithAims_71 {d : Nat} {M : tw_M} {Q : tw_P} (hD : DI M) (h : Q none (beginC 71 M)) : tw_C (d + 3) j_RW_beginWithAims [.inr 71, .inr 1] M Q := by
  have ha := hD.2.2.2.1
  refine tw_enter pn_RW dc_RW_beginWithAims (Nat.le_of_ble_eq_true rfl) ?_
  have zz : RowI 71 (tw_set (tw_set M 71 4 (-1)) 71 5 0) ∧ ((tw_set (tw_set M 71 4 (-1)) 71 5 0) 71 5).toInt = 0 := ⟨⟨by show -1 ≤ (-1 : Int32).toInt; decide, by show (-1 : Int32).toInt < (0 : Int32).toInt; decide, by show (0 : Int32).toInt ≤ 246; decide⟩, by show (0 : Int32).toInt = 0; decide⟩
  have hD1 : DI (tw_set (tw_set M 71 4 (-1)) 71 5 0) := hD
  have ea : ((tw_set (tw_set M 71 4 (-1)) 71 5 0) 1 16).toInt = (M 1 16).toInt := rfl
  have zm1 := tw_ti_m1
  have z0 := tw_ti_0
  have z1 := tw_ti_1
  refine tw_aload_n (pc := 0) rfl rfl ?_
  refine tw_iconst (pc := 1) rfl tw_ic_m1 ?_
  refine tw_iconst (pc := 2) rfl tw_ic_0 ?_
  refine tw_inv2 (pc := 3) rfl lk_RW_28 (Nat.le_of_ble_eq_true rfl) rfl rfl (sp_RW_goBackTo_71 ?_)
  refine tw_aload_n (pc := 6) rfl rfl ?_
  refine tw_inv0 (pc := 7) rfl lk_RW_32 (Nat.le_of_ble_eq_true rfl) rfl rfl (sp_DM_aimCount ?_)
  refine tw_iconst (pc := 10) rfl tw_ic_1 ?_
  refine tw_isubF (pc := 11) rfl ⟨by omega, by omega⟩ (fun e3 => ?_)
  refine tw_istore_n (pc := 12) rfl (Nat.le_of_ble_eq_true rfl) ?_
  exact lp_RW_beginWithAims_71 (M 1 16).toInt.toNat _ _ hD1 zz.1 (by rw [zz.2]; omega) (by omega) (by show _ ≤ (M 1 16).toInt; omega) h
theorem sp_RW_beginWithAims_83 {d : Nat} {M : tw_M} {Q : tw_P} (hD : DI M) (h : Q none (beginC 83 M)) : tw_C (d + 3) j_RW_beginWithAims [.inr 83, .inr 1] M Q := by
  have ha := hD.2.2.2.1
  refine tw_enter pn_RW dc_RW_beginWithAims (Nat.le_of_ble_eq_true rfl) ?_
  have zz : RowI 83 (tw_set (tw_set M 83 4 (-1)) 83 5 0) ∧ ((tw_set (tw_set M 83 4 (-1)) 83 5 0) 83 5).toInt = 0 := ⟨⟨by show -1 ≤ (-1 : Int32).toInt; decide, by show (-1 : Int32).toInt < (0 : Int32).toInt; decide, by show (0 : Int32).toInt ≤ 246; decide⟩, by show (0 : Int32).toInt = 0; decide⟩
  have hD1 : DI (tw_set (tw_set M 83 4 (-1)) 83 5 0) := hD
  have ea : ((tw_set (tw_set M 83 4 (-1)) 83 5 0) 1 16).toInt = (M 1 16).toInt := rfl
  have zm1 := tw_ti_m1
  have z0 := tw_ti_0
  have z1 := tw_ti_1
  refine tw_aload_n (pc := 0) rfl rfl ?_
  refine tw_iconst (pc := 1) rfl tw_ic_m1 ?_
  refine tw_iconst (pc := 2) rfl tw_ic_0 ?_
  refine tw_inv2 (pc := 3) rfl lk_RW_28 (Nat.le_of_ble_eq_true rfl) rfl rfl (sp_RW_goBackTo_83 ?_)
  refine tw_aload_n (pc := 6) rfl rfl ?_
  refine tw_inv0 (pc := 7) rfl lk_RW_32 (Nat.le_of_ble_eq_true rfl) rfl rfl (sp_DM_aimCount ?_)
  refine tw_iconst (pc := 10) rfl tw_ic_1 ?_
  refine tw_isubF (pc := 11) rfl ⟨by omega, by omega⟩ (fun e3 => ?_)
  refine tw_istore_n (pc := 12) rfl (Nat.le_of_ble_eq_true rfl) ?_
  exact lp_RW_beginWithAims_83 (M 1 16).toInt.toNat _ _ hD1 zz.1 (by rw [zz.2]; omega) (by omega) (by show _ ≤ (M 1 16).toInt; omega) h
theorem sp_SE_tryMethod {d : Nat} {M : tw_M} {Q : tw_P} {nd : Int32} (hD : DI M) (hR : RowI 71 M) (hd : 0 ≤ nd.toInt ∧ nd.toInt < 48) (hn : 0 ≤ (M 70 8).toInt ∧ (M 70 8).toInt ≤ 48) (hc : (M 71 5).toInt + 5 ≤ 246) (h : Q none (tryC M nd)) : tw_C (d + 5) j_SE_tryMethod [.inr 70, .inl nd] M Q := by
  refine tw_enter pn_SE dc_SE_tryMethod (Nat.le_of_ble_eq_true rfl) ?_
  have z0 := tw_ti_0
  have z1 := tw_ti_1
  refine tw_aload_n (pc := 0) rfl rfl ?_
  refine tw_getR (pc := 1) rfl fl_SE_41 rfl rfl ?_
  refine tw_aload_n (pc := 4) rfl rfl ?_
  refine tw_getR (pc := 5) rfl fl_SE_18 rfl rfl ?_
  refine tw_iload_n (pc := 8) rfl rfl ?_
  refine tw_iald (pc := 9) rfl rfl ⟨by omega, by omega⟩ ?_
  refine tw_aload_n (pc := 10) rfl rfl ?_
  refine tw_getR (pc := 11) rfl fl_SE_25 rfl rfl ?_
  refine tw_iload_n (pc := 14) rfl rfl ?_
  refine tw_iald (pc := 15) rfl rfl ⟨by omega, by omega⟩ ?_
  refine tw_inv2 (pc := 16) rfl lk_SE_95 (Nat.le_of_ble_eq_true rfl) rfl rfl (sp_DM_methodAt hD rfl ?_)
  refine tw_istore_n (pc := 19) rfl (Nat.le_of_ble_eq_true rfl) ?_
  refine tw_aload_n (pc := 20) rfl rfl ?_
  refine tw_getR (pc := 21) rfl fl_SE_41 rfl rfl ?_
  refine tw_iload_n (pc := 24) rfl rfl ?_
  refine tw_aload_n (pc := 25) rfl rfl ?_
  refine tw_getV (pc := 26) (v := (M 70 10)) rfl fl_SE_57 rfl rfl rfl ?_
  refine tw_inv2 (pc := 29) rfl lk_SE_127 (Nat.le_of_ble_eq_true rfl) rfl rfl (sp_DM_methodHolds hD (fun c2 => ?_) (fun c2 => ?_))
  · refine tw_if_eq (pc := 32) (tgt := 56) rfl rfl (fun q => absurd q (by decide)) (fun _ => ?_)
    refine tw_aload_n (pc := 35) rfl rfl ?_
    refine tw_getR (pc := 36) rfl fl_SE_12 rfl rfl ?_
    refine tw_aload_n (pc := 39) rfl rfl ?_
    refine tw_getR (pc := 40) rfl fl_SE_41 rfl rfl ?_
    refine tw_iload_n (pc := 43) rfl rfl ?_
    refine tw_iload_n (pc := 44) rfl rfl ?_
    refine tw_inv3 (pc := 45) rfl lk_SE_130 (Nat.le_of_ble_eq_true rfl) rfl rfl (sp_RW_putPartsFirst_71 hD hR (And.left (by assumption)) (by omega) ?_)
    refine tw_aload_n (pc := 48) rfl rfl ?_
    refine tw_iconst (pc := 49) rfl tw_ic_0 ?_
    refine tw_putI (pc := 50) rfl fp_SE_67 rfl rfl rfl rfl ?_
    refine tw_goto (pc := 53) (tgt := 81) rfl rfl ?_
    refine tw_return (pc := 81) rfl trivial ?_
    unfold tryC at h
    first
    | (have hx : pMH M (mAt M (M 76 nd.toInt.toNat) (M 78 nd.toInt.toNat)) (M 70 10) := by assumption
       rw [if_pos hx] at h
       exact h)
    | (have hx : ¬ pMH M (mAt M (M 76 nd.toInt.toNat) (M 78 nd.toInt.toNat)) (M 70 10) := by assumption
       rw [if_neg hx] at h
       first
       | (have hy : mAt M (M 76 nd.toInt.toNat) (M 78 nd.toInt.toNat + 1) = -1 := by assumption
          rw [if_pos hy] at h
          exact h)
       | (have hy : ¬ mAt M (M 76 nd.toInt.toNat) (M 78 nd.toInt.toNat + 1) = -1 := by assumption
          rw [if_neg hy] at h
          exact h))
  · refine tw_if_eq (pc := 32) (tgt := 56) rfl rfl (fun _ => ?_) (fun q => absurd q (by decide))
    refine tw_aload_n (pc := 56) rfl rfl ?_
    refine tw_iload_n (pc := 57) rfl rfl ?_
    refine tw_inv1 (pc := 58) rfl lk_SE_134 (Nat.le_of_ble_eq_true rfl) rfl rfl (sp_SE_hasMethodBehind hD (by omega) (fun c4 => ?_) (fun c4 => ?_))
    · refine tw_if_eq (pc := 61) (tgt := 77) rfl rfl (fun q => absurd q (by decide)) (fun _ => ?_)
      refine tw_aload_n (pc := 64) rfl rfl ?_
      refine tw_getR (pc := 65) rfl fl_SE_25 rfl rfl ?_
      refine tw_iload_n (pc := 68) rfl rfl ?_
      refine tw_dup2 (pc := 69) rfl ?_
      refine tw_iald (pc := 70) rfl rfl ⟨by omega, by omega⟩ ?_
      refine tw_iconst (pc := 71) rfl tw_ic_1 ?_
      refine tw_iadd (pc := 72) rfl ?_
      refine tw_iast (pc := 73) rfl rfl ⟨by omega, by omega⟩ ?_
      refine tw_goto (pc := 74) (tgt := 81) rfl rfl ?_
      refine tw_return (pc := 81) rfl trivial ?_
      unfold tryC at h
      first
      | (have hx : pMH M (mAt M (M 76 nd.toInt.toNat) (M 78 nd.toInt.toNat)) (M 70 10) := by assumption
         rw [if_pos hx] at h
         exact h)
      | (have hx : ¬ pMH M (mAt M (M 76 nd.toInt.toNat) (M 78 nd.toInt.toNat)) (M 70 10) := by assumption
         rw [if_neg hx] at h
         first
         | (have hy : mAt M (M 76 nd.toInt.toNat) (M 78 nd.toInt.toNat + 1) = -1 := by assumption
            rw [if_pos hy] at h
            exact h)
         | (have hy : ¬ mAt M (M 76 nd.toInt.toNat) (M 78 nd.toInt.toNat + 1) = -1 := by assumption
            rw [if_neg hy] at h
            exact h))
    · refine tw_if_eq (pc := 61) (tgt := 77) rfl rfl (fun _ => ?_) (fun q => absurd q (by decide))
      refine tw_aload_n (pc := 77) rfl rfl ?_
      refine tw_inv0 (pc := 78) rfl lk_SE_81 (Nat.le_of_ble_eq_true rfl) rfl rfl (sp_SE_fail hD (by omega) ?_)
      refine tw_return (pc := 81) rfl trivial ?_
      unfold tryC at h
      first
      | (have hx : pMH M (mAt M (M 76 nd.toInt.toNat) (M 78 nd.toInt.toNat)) (M 70 10) := by assumption
         rw [if_pos hx] at h
         exact h)
      | (have hx : ¬ pMH M (mAt M (M 76 nd.toInt.toNat) (M 78 nd.toInt.toNat)) (M 70 10) := by assumption
         rw [if_neg hx] at h
         first
         | (have hy : mAt M (M 76 nd.toInt.toNat) (M 78 nd.toInt.toNat + 1) = -1 := by assumption
            rw [if_pos hy] at h
            exact h)
         | (have hy : ¬ mAt M (M 76 nd.toInt.toNat) (M 78 nd.toInt.toNat + 1) = -1 := by assumption
            rw [if_neg hy] at h
            exact h))
