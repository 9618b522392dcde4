def ptC (M : tw_M) (k : Int32) : Nat → Nat → Int32 → Int32
  | 0, _, _ => -1
  | r + 1, i, b => if 0 ≤ (M 76 i).toInt ∧ (M 76 i).toInt < (M 1 5).toInt then (if b = k then M 76 i else ptC M k r (i + 1) (b + 1)) else ptC M k r (i + 1) b
def plC (M : tw_M) : Nat → Nat → Int32 → Int32
  | 0, _, a => a
  | r + 1, i, a => if 0 ≤ (M 76 i).toInt ∧ (M 76 i).toInt < (M 1 5).toInt then plC M r (i + 1) (a + 1) else plC M r (i + 1) a
def pcC (M : tw_M) : Nat → Nat → Int32 → Int32
  | 0, _, a => a
  | r + 1, i, a => pcC M r (i + 1) (a + fCost M (M 76 i))
def ptR (N : tw_M) (k : Int32) : Nat → Nat → Int32 → Int32
  | 0, _, _ => -1
  | r + 1, i, b => if (N 105 i).toInt < 16 then (if b = k then N 105 i else ptR N k r (i + 1) (b + 1)) else ptR N k r (i + 1) b
def plR (N : tw_M) : Nat → Nat → Int32 → Int32
  | 0, _, a => a
  | r + 1, i, a => if (N 105 i).toInt < 16 then plR N r (i + 1) (a + 1) else plR N r (i + 1) a
def pcR (N : tw_M) : Nat → Nat → Int32 → Int32
  | 0, _, a => a
  | r + 1, i, a => if (N 105 i).toInt < 16 then pcR N r (i + 1) (a + N 93 (N 105 i).toInt.toNat) else pcR N r (i + 1) a
theorem lp_SE_planTask {d : Nat} {Q : tw_P} {M : tw_M} {k : Int32} (hn : 0 ≤ (M 70 8).toInt ∧ (M 70 8).toInt ≤ 48) (hD : DI M) : ∀ (r i : Nat) (iv b : Int32), iv.toInt = (i : Int) → (M 70 8).toInt = (i : Int) + (r : Int) → Q (some (ptC M k r i b)) M → tw_T none (d + 2) j_SE_planTask M 4 [some (.inr 70), some (.inl k), some (.inl b), some (.inl iv)] [] Q := by
  intro r
  induction r with
  | zero =>
    intro i iv b hi hr h
    have zm1 := tw_ti_m1
    have z0 := tw_ti_0
    have z1 := tw_ti_1
    refine tw_iload_n (pc := 4) rfl rfl ?_
    refine tw_aload_n (pc := 5) rfl rfl ?_
    refine tw_getV (pc := 6) (v := (M 70 8)) rfl fl_SE_71 rfl rfl rfl ?_
    refine tw_icmp_ge (pc := 9) (tgt := 49) rfl rfl (fun c1 => ?_) (fun c1 => absurd c1 (by omega))
    refine tw_iconst (pc := 49) rfl tw_ic_m1 ?_
    refine tw_ireturn (pc := 50) rfl rfl ?_
    exact h
  | succ r ih =>
    intro i iv b hi hr h
    have ei : iv.toInt.toNat = i := by omega
    have zm1 := tw_ti_m1
    have z0 := tw_ti_0
    have z1 := tw_ti_1
    refine tw_iload_n (pc := 4) rfl rfl ?_
    refine tw_aload_n (pc := 5) rfl rfl ?_
    refine tw_getV (pc := 6) (v := (M 70 8)) rfl fl_SE_71 rfl rfl rfl ?_
    refine tw_icmp_ge (pc := 9) (tgt := 49) rfl rfl (fun c1 => absurd c1 (by omega)) (fun c1 => ?_)
    refine tw_aload_n (pc := 12) rfl rfl ?_
    refine tw_getR (pc := 13) rfl fl_SE_41 rfl rfl ?_
    refine tw_aload_n (pc := 16) rfl rfl ?_
    refine tw_getR (pc := 17) rfl fl_SE_18 rfl rfl ?_
    refine tw_iload_n (pc := 20) rfl rfl ?_
    refine tw_ialdV (pc := 21) (v := (M 76 i)) rfl rfl ⟨by omega, by omega⟩ (by rw [ei]) ?_
    refine tw_inv1 (pc := 22) rfl lk_SE_84 (Nat.le_of_ble_eq_true rfl) rfl rfl (sp_DM_isPrimitive (fun c2 => ?_) (fun c2 => ?_))
    · refine tw_if_eq (pc := 25) (tgt := 43) rfl rfl (fun q => absurd q (by decide)) (fun _ => ?_)
      refine tw_iload_n (pc := 28) rfl rfl ?_
      refine tw_iload_n (pc := 29) rfl rfl ?_
      refine tw_icmp_ne (pc := 30) (tgt := 40) rfl rfl (fun c3 => ?_) (fun c3 => ?_)
      · refine tw_iinc (pc := 40) rfl rfl tw_ic_1 (Nat.le_of_ble_eq_true rfl) ?_
        refine tw_iincF (pc := 43) rfl rfl tw_ic_1 (Nat.le_of_ble_eq_true rfl) ⟨by omega, by omega⟩ (fun e4 => ?_)
        refine tw_goto (pc := 46) (tgt := 4) rfl rfl ?_
        unfold ptC at h
        rw [if_pos (show (0 ≤ (M 76 i).toInt ∧ (M 76 i).toInt < (M 1 5).toInt) from by assumption)] at h
        rw [if_neg (show ¬ b = k from And.left (by assumption))] at h
        exact ih (i + 1) _ _ (by omega) (by omega) h
      · refine tw_aload_n (pc := 33) rfl rfl ?_
        refine tw_getR (pc := 34) rfl fl_SE_18 rfl rfl ?_
        refine tw_iload_n (pc := 37) rfl rfl ?_
        refine tw_ialdV (pc := 38) (v := (M 76 i)) rfl rfl ⟨by omega, by omega⟩ (by rw [ei]) ?_
        refine tw_ireturn (pc := 39) rfl rfl ?_
        unfold ptC at h
        rw [if_pos (show (0 ≤ (M 76 i).toInt ∧ (M 76 i).toInt < (M 1 5).toInt) from by assumption)] at h
        rw [if_pos (show b = k from And.left (by assumption))] at h
        exact h
    · refine tw_if_eq (pc := 25) (tgt := 43) rfl rfl (fun _ => ?_) (fun q => absurd q (by decide))
      refine tw_iincF (pc := 43) rfl rfl tw_ic_1 (Nat.le_of_ble_eq_true rfl) ⟨by omega, by omega⟩ (fun e5 => ?_)
      refine tw_goto (pc := 46) (tgt := 4) rfl rfl ?_
      unfold ptC at h
      rw [if_neg (show ¬ (0 ≤ (M 76 i).toInt ∧ (M 76 i).toInt < (M 1 5).toInt) from by assumption)] at h
      exact ih (i + 1) _ _ (by omega) (by omega) h
theorem sp_SE_planTask {d : Nat} {M : tw_M} {Q : tw_P} {k : Int32} (hn : 0 ≤ (M 70 8).toInt ∧ (M 70 8).toInt ≤ 48) (hD : DI M) (h : Q (some (ptC M k (M 70 8).toInt.toNat 0 0)) M) : tw_C (d + 3) j_SE_planTask [.inr 70, .inl k] M Q := by
  refine tw_enter pn_SE dc_SE_planTask (Nat.le_of_ble_eq_true rfl) ?_
  have zm1 := tw_ti_m1
  have z0 := tw_ti_0
  have z1 := tw_ti_1
  refine tw_iconst (pc := 0) rfl tw_ic_0 ?_
  refine tw_istore_n (pc := 1) rfl (Nat.le_of_ble_eq_true rfl) ?_
  refine tw_iconst (pc := 2) rfl tw_ic_0 ?_
  refine tw_istore_n (pc := 3) rfl (Nat.le_of_ble_eq_true rfl) ?_
  exact lp_SE_planTask hn hD (M 70 8).toInt.toNat 0 _ _ (by rw [z0]; rfl) (by omega) h
theorem lp_SE_planLength {d : Nat} {Q : tw_P} {M : tw_M} (hn : 0 ≤ (M 70 8).toInt ∧ (M 70 8).toInt ≤ 48) (hD : DI M) : ∀ (r i : Nat) (iv a : Int32), iv.toInt = (i : Int) → (M 70 8).toInt = (i : Int) + (r : Int) → Q (some (plC M r i a)) M → tw_T none (d + 2) j_SE_planLength M 4 [some (.inr 70), some (.inl a), some (.inl iv)] [] Q := by
  intro r
  induction r with
  | zero =>
    intro i iv a hi hr h
    have z0 := tw_ti_0
    have z1 := tw_ti_1
    refine tw_iload_n (pc := 4) rfl rfl ?_
    refine tw_aload_n (pc := 5) rfl rfl ?_
    refine tw_getV (pc := 6) (v := (M 70 8)) rfl fl_SE_71 rfl rfl rfl ?_
    refine tw_icmp_ge (pc := 9) (tgt := 37) rfl rfl (fun c1 => ?_) (fun c1 => absurd c1 (by omega))
    refine tw_iload_n (pc := 37) rfl rfl ?_
    refine tw_ireturn (pc := 38) rfl rfl ?_
    exact h
  | succ r ih =>
    intro i iv a hi hr h
    have ei : iv.toInt.toNat = i := by omega
    have z0 := tw_ti_0
    have z1 := tw_ti_1
    refine tw_iload_n (pc := 4) rfl rfl ?_
    refine tw_aload_n (pc := 5) rfl rfl ?_
    refine tw_getV (pc := 6) (v := (M 70 8)) rfl fl_SE_71 rfl rfl rfl ?_
    refine tw_icmp_ge (pc := 9) (tgt := 37) rfl rfl (fun c1 => absurd c1 (by omega)) (fun c1 => ?_)
    refine tw_aload_n (pc := 12) rfl rfl ?_
    refine tw_getR (pc := 13) rfl fl_SE_41 rfl rfl ?_
    refine tw_aload_n (pc := 16) rfl rfl ?_
    refine tw_getR (pc := 17) rfl fl_SE_18 rfl rfl ?_
    refine tw_iload_n (pc := 20) rfl rfl ?_
    refine tw_ialdV (pc := 21) (v := (M 76 i)) rfl rfl ⟨by omega, by omega⟩ (by rw [ei]) ?_
    refine tw_inv1 (pc := 22) rfl lk_SE_84 (Nat.le_of_ble_eq_true rfl) rfl rfl (sp_DM_isPrimitive (fun c2 => ?_) (fun c2 => ?_))
    · refine tw_if_eq (pc := 25) (tgt := 31) rfl rfl (fun q => absurd q (by decide)) (fun _ => ?_)
      refine tw_iinc (pc := 28) rfl rfl tw_ic_1 (Nat.le_of_ble_eq_true rfl) ?_
      refine tw_iincF (pc := 31) rfl rfl tw_ic_1 (Nat.le_of_ble_eq_true rfl) ⟨by omega, by omega⟩ (fun e3 => ?_)
      refine tw_goto (pc := 34) (tgt := 4) rfl rfl ?_
      unfold plC at h
      rw [if_pos (show (0 ≤ (M 76 i).toInt ∧ (M 76 i).toInt < (M 1 5).toInt) from by assumption)] at h
      exact ih (i + 1) _ _ (by omega) (by omega) h
    · refine tw_if_eq (pc := 25) (tgt := 31) rfl rfl (fun _ => ?_) (fun q => absurd q (by decide))
      refine tw_iincF (pc := 31) rfl rfl tw_ic_1 (Nat.le_of_ble_eq_true rfl) ⟨by omega, by omega⟩ (fun e4 => ?_)
      refine tw_goto (pc := 34) (tgt := 4) rfl rfl ?_
      unfold plC at h
      rw [if_neg (show ¬ (0 ≤ (M 76 i).toInt ∧ (M 76 i).toInt < (M 1 5).toInt) from by assumption)] at h
      exact ih (i + 1) _ _ (by omega) (by omega) h
theorem sp_SE_planLength {d : Nat} {M : tw_M} {Q : tw_P} (hn : 0 ≤ (M 70 8).toInt ∧ (M 70 8).toInt ≤ 48) (hD : DI M) (h : Q (some (plC M (M 70 8).toInt.toNat 0 0)) M) : tw_C (d + 3) j_SE_planLength [.inr 70] M Q := by
  refine tw_enter pn_SE dc_SE_planLength (Nat.le_of_ble_eq_true rfl) ?_
  have z0 := tw_ti_0
  have z1 := tw_ti_1
  refine tw_iconst (pc := 0) rfl tw_ic_0 ?_
  refine tw_istore_n (pc := 1) rfl (Nat.le_of_ble_eq_true rfl) ?_
  refine tw_iconst (pc := 2) rfl tw_ic_0 ?_
  refine tw_istore_n (pc := 3) rfl (Nat.le_of_ble_eq_true rfl) ?_
  exact lp_SE_planLength hn hD (M 70 8).toInt.toNat 0 _ _ (by rw [z0]; rfl) (by omega) h
theorem lp_SE_planCost {d : Nat} {Q : tw_P} {M : tw_M} (hn : 0 ≤ (M 70 8).toInt ∧ (M 70 8).toInt ≤ 48) (hD : DI M) : ∀ (r i : Nat) (iv a : Int32), iv.toInt = (i : Int) → (M 70 8).toInt = (i : Int) + (r : Int) → Q (some (pcC M r i a)) M → tw_T none (d + 2) j_SE_planCost M 4 [some (.inr 70), some (.inl a), some (.inl iv)] [] Q := by
  intro r
  induction r with
  | zero =>
    intro i iv a hi hr h
    have z0 := tw_ti_0
    have z1 := tw_ti_1
    refine tw_iload_n (pc := 4) rfl rfl ?_
    refine tw_aload_n (pc := 5) rfl rfl ?_
    refine tw_getV (pc := 6) (v := (M 70 8)) rfl fl_SE_71 rfl rfl rfl ?_
    refine tw_icmp_ge (pc := 9) (tgt := 34) rfl rfl (fun c1 => ?_) (fun c1 => absurd c1 (by omega))
    refine tw_iload_n (pc := 34) rfl rfl ?_
    refine tw_ireturn (pc := 35) rfl rfl ?_
    exact h
  | succ r ih =>
    intro i iv a hi hr h
    have ei : iv.toInt.toNat = i := by omega
    have z0 := tw_ti_0
    have z1 := tw_ti_1
    refine tw_iload_n (pc := 4) rfl rfl ?_
    refine tw_aload_n (pc := 5) rfl rfl ?_
    refine tw_getV (pc := 6) (v := (M 70 8)) rfl fl_SE_71 rfl rfl rfl ?_
    refine tw_icmp_ge (pc := 9) (tgt := 34) rfl rfl (fun c1 => absurd c1 (by omega)) (fun c1 => ?_)
    refine tw_iload_n (pc := 12) rfl rfl ?_
    refine tw_aload_n (pc := 13) rfl rfl ?_
    refine tw_getR (pc := 14) rfl fl_SE_41 rfl rfl ?_
    refine tw_aload_n (pc := 17) rfl rfl ?_
    refine tw_getR (pc := 18) rfl fl_SE_18 rfl rfl ?_
    refine tw_iload_n (pc := 21) rfl rfl ?_
    refine tw_ialdV (pc := 22) (v := (M 76 i)) rfl rfl ⟨by omega, by omega⟩ (by rw [ei]) ?_
    refine tw_inv1 (pc := 23) rfl lk_SE_88 (Nat.le_of_ble_eq_true rfl) rfl rfl (sp_DM_costOf hD rfl ?_)
    refine tw_iadd (pc := 26) rfl ?_
    refine tw_istore_n (pc := 27) rfl (Nat.le_of_ble_eq_true rfl) ?_
    refine tw_iincF (pc := 28) rfl rfl tw_ic_1 (Nat.le_of_ble_eq_true rfl) ⟨by omega, by omega⟩ (fun e3 => ?_)
    refine tw_goto (pc := 31) (tgt := 4) rfl rfl ?_
    unfold pcC at h
    exact ih (i + 1) _ _ (by omega) (by omega) h
theorem sp_SE_planCost {d : Nat} {M : tw_M} {Q : tw_P} (hn : 0 ≤ (M 70 8).toInt ∧ (M 70 8).toInt ≤ 48) (hD : DI M) (h : Q (some (pcC M (M 70 8).toInt.toNat 0 0)) M) : tw_C (d + 3) j_SE_planCost [.inr 70] M Q := by
  refine tw_enter pn_SE dc_SE_planCost (Nat.le_of_ble_eq_true rfl) ?_
  have z0 := tw_ti_0
  have z1 := tw_ti_1
  refine tw_iconst (pc := 0) rfl tw_ic_0 ?_
  refine tw_istore_n (pc := 1) rfl (Nat.le_of_ble_eq_true rfl) ?_
  refine tw_iconst (pc := 2) rfl tw_ic_0 ?_
  refine tw_istore_n (pc := 3) rfl (Nat.le_of_ble_eq_true rfl) ?_
  exact lp_SE_planCost hn hD (M 70 8).toInt.toNat 0 _ _ (by rw [z0]; rfl) (by omega) h
theorem sp_SE_nodeMethod {d : Nat} {M : tw_M} {Q : tw_P} {k : Int32} (hn : 0 ≤ (M 70 8).toInt ∧ (M 70 8).toInt ≤ 48) (hD : DI M) (h0 : ¬ (0 ≤ k.toInt ∧ k.toInt < (M 70 8).toInt) → Q (some (-1)) M) (h1 : (0 ≤ k.toInt ∧ k.toInt < (M 70 8).toInt) → ¬ M 70 9 = 0 → k = M 70 8 - 1 → Q (some (-1)) M) (h2 : (0 ≤ k.toInt ∧ k.toInt < (M 70 8).toInt) → (M 70 9 = 0 ∨ ¬ k = M 70 8 - 1) → Q (some (mAt M (M 76 k.toInt.toNat) (M 78 k.toInt.toNat))) M) : tw_C (d + 3) j_SE_nodeMethod [.inr 70, .inl k] M Q := by
  refine tw_enter pn_SE dc_SE_nodeMethod (Nat.le_of_ble_eq_true rfl) ?_
  have zm1 := tw_ti_m1
  have z0 := tw_ti_0
  have z1 := tw_ti_1
  refine tw_aload_n (pc := 0) rfl rfl ?_
  refine tw_iload_n (pc := 1) rfl rfl ?_
  refine tw_inv1 (pc := 2) rfl lk_SE_92 (Nat.le_of_ble_eq_true rfl) rfl rfl (sp_SE_hasNode (fun c1 => ?_) (fun c1 => ?_))
  · refine tw_if_eq (pc := 5) (tgt := 25) rfl rfl (fun q => absurd q (by decide)) (fun _ => ?_)
    refine tw_aload_n (pc := 8) rfl rfl ?_
    refine tw_getV (pc := 9) (v := (M 70 9)) rfl fl_SE_67 rfl rfl rfl ?_
    refine tw_if_eq (pc := 12) (tgt := 27) rfl rfl (fun c2 => ?_) (fun c2 => ?_)
    · refine tw_aload_n (pc := 27) rfl rfl ?_
      refine tw_getR (pc := 28) rfl fl_SE_41 rfl rfl ?_
      refine tw_aload_n (pc := 31) rfl rfl ?_
      refine tw_getR (pc := 32) rfl fl_SE_18 rfl rfl ?_
      refine tw_iload_n (pc := 35) rfl rfl ?_
      refine tw_iald (pc := 36) rfl rfl ⟨by omega, by omega⟩ ?_
      refine tw_aload_n (pc := 37) rfl rfl ?_
      refine tw_getR (pc := 38) rfl fl_SE_25 rfl rfl ?_
      refine tw_iload_n (pc := 41) rfl rfl ?_
      refine tw_iald (pc := 42) rfl rfl ⟨by omega, by omega⟩ ?_
      refine tw_inv2 (pc := 43) rfl lk_SE_95 (Nat.le_of_ble_eq_true rfl) rfl rfl (sp_DM_methodAt hD rfl ?_)
      refine tw_ireturn (pc := 46) rfl rfl ?_
      first | exact h2 (by assumption) (Or.inl (And.left (by assumption))) | exact h2 (by assumption) (Or.inr (And.left (by assumption)))
    · refine tw_iload_n (pc := 15) rfl rfl ?_
      refine tw_aload_n (pc := 16) rfl rfl ?_
      refine tw_getV (pc := 17) (v := (M 70 8)) rfl fl_SE_71 rfl rfl rfl ?_
      refine tw_iconst (pc := 20) rfl tw_ic_1 ?_
      refine tw_isubF (pc := 21) rfl ⟨by omega, by omega⟩ (fun e4 => ?_)
      refine tw_icmp_ne (pc := 22) (tgt := 27) rfl rfl (fun c5 => ?_) (fun c5 => ?_)
      · refine tw_aload_n (pc := 27) rfl rfl ?_
        refine tw_getR (pc := 28) rfl fl_SE_41 rfl rfl ?_
        refine tw_aload_n (pc := 31) rfl rfl ?_
        refine tw_getR (pc := 32) rfl fl_SE_18 rfl rfl ?_
        refine tw_iload_n (pc := 35) rfl rfl ?_
        refine tw_iald (pc := 36) rfl rfl ⟨by omega, by omega⟩ ?_
        refine tw_aload_n (pc := 37) rfl rfl ?_
        refine tw_getR (pc := 38) rfl fl_SE_25 rfl rfl ?_
        refine tw_iload_n (pc := 41) rfl rfl ?_
        refine tw_iald (pc := 42) rfl rfl ⟨by omega, by omega⟩ ?_
        refine tw_inv2 (pc := 43) rfl lk_SE_95 (Nat.le_of_ble_eq_true rfl) rfl rfl (sp_DM_methodAt hD rfl ?_)
        refine tw_ireturn (pc := 46) rfl rfl ?_
        first | exact h2 (by assumption) (Or.inl (And.left (by assumption))) | exact h2 (by assumption) (Or.inr (And.left (by assumption)))
      · refine tw_iconst (pc := 25) rfl tw_ic_m1 ?_
        refine tw_ireturn (pc := 26) rfl rfl ?_
        first | exact h0 (by assumption) | exact h1 (by assumption) (And.left (by assumption)) (And.left (by assumption))
  · refine tw_if_eq (pc := 5) (tgt := 25) rfl rfl (fun _ => ?_) (fun q => absurd q (by decide))
    refine tw_iconst (pc := 25) rfl tw_ic_m1 ?_
    refine tw_ireturn (pc := 26) rfl rfl ?_
    first | exact h0 (by assumption) | exact h1 (by assumption) (And.left (by assumption)) (And.left (by assumption))
theorem lp_MD_task {d : Nat} {Q : tw_P} {M : tw_M} {k : Int32} (hn : 0 ≤ (M 88 28).toInt ∧ (M 88 28).toInt ≤ 48) (hf : (¬ M 88 21 = 0 ∧ M 88 22 = 0 ∧ M 88 23 = 0 ∧ M 88 26 = -1)) : ∀ (r i : Nat) (iv b : Int32), iv.toInt = (i : Int) → (M 88 28).toInt = (i : Int) + (r : Int) → Q (some (ptR M k r i b)) M → tw_T none (d + 1) j_MD_task M 4 [some (.inr 88), some (.inl k), some (.inl b), some (.inl iv)] [] Q := by
  intro r
  induction r with
  | zero =>
    intro i iv b hi hr h
    have zm1 := tw_ti_m1
    have z0 := tw_ti_0
    have z1 := tw_ti_1
    have z16 := tw_ti_16
    refine tw_iload_n (pc := 4) rfl rfl ?_
    refine tw_aload_n (pc := 5) rfl rfl ?_
    refine tw_getV (pc := 6) (v := (M 88 28)) rfl fl_MD_161 rfl rfl rfl ?_
    refine tw_icmp_ge (pc := 9) (tgt := 51) rfl rfl (fun c1 => ?_) (fun c1 => absurd c1 (by omega))
    refine tw_iconst (pc := 51) rfl tw_ic_m1 ?_
    refine tw_ireturn (pc := 52) rfl rfl ?_
    exact h
  | succ r ih =>
    intro i iv b hi hr h
    have ei : iv.toInt.toNat = i := by omega
    have zm1 := tw_ti_m1
    have z0 := tw_ti_0
    have z1 := tw_ti_1
    have z16 := tw_ti_16
    refine tw_iload_n (pc := 4) rfl rfl ?_
    refine tw_aload_n (pc := 5) rfl rfl ?_
    refine tw_getV (pc := 6) (v := (M 88 28)) rfl fl_MD_161 rfl rfl rfl ?_
    refine tw_icmp_ge (pc := 9) (tgt := 51) rfl rfl (fun c1 => absurd c1 (by omega)) (fun c1 => ?_)
    refine tw_aload_n (pc := 12) rfl rfl ?_
    refine tw_inv0 (pc := 13) rfl lk_MD_181 (Nat.le_of_ble_eq_true rfl) rfl rfl (sp_MD_isFound (fun c2 => ?_) (fun c2 => ?_))
    · refine tw_if_eq (pc := 16) (tgt := 51) rfl rfl (fun q => absurd q (by decide)) (fun _ => ?_)
      refine tw_aload_n (pc := 19) rfl rfl ?_
      refine tw_getR (pc := 20) rfl fl_MD_58 rfl rfl ?_
      refine tw_iload_n (pc := 23) rfl rfl ?_
      refine tw_ialdV (pc := 24) (v := (M 105 i)) rfl rfl ⟨by omega, by omega⟩ (by rw [ei]) ?_
      refine tw_bipush (pc := 25) rfl tw_bi_16 ?_
      refine tw_icmp_ge (pc := 27) (tgt := 45) rfl rfl (fun c3 => ?_) (fun c3 => ?_)
      · refine tw_iincF (pc := 45) rfl rfl tw_ic_1 (Nat.le_of_ble_eq_true rfl) ⟨by omega, by omega⟩ (fun e4 => ?_)
        refine tw_goto (pc := 48) (tgt := 4) rfl rfl ?_
        unfold ptR at h
        rw [if_neg (show ¬ (M 105 i).toInt < 16 by omega)] at h
        exact ih (i + 1) _ _ (by omega) (by omega) h
      · refine tw_iload_n (pc := 30) rfl rfl ?_
        refine tw_iload_n (pc := 31) rfl rfl ?_
        refine tw_icmp_ne (pc := 32) (tgt := 42) rfl rfl (fun c5 => ?_) (fun c5 => ?_)
        · refine tw_iinc (pc := 42) rfl rfl tw_ic_1 (Nat.le_of_ble_eq_true rfl) ?_
          refine tw_iincF (pc := 45) rfl rfl tw_ic_1 (Nat.le_of_ble_eq_true rfl) ⟨by omega, by omega⟩ (fun e6 => ?_)
          refine tw_goto (pc := 48) (tgt := 4) rfl rfl ?_
          unfold ptR at h
          rw [if_pos (show (M 105 i).toInt < 16 by omega), if_neg (show ¬ b = k from And.left (by assumption))] at h
          exact ih (i + 1) _ _ (by omega) (by omega) h
        · refine tw_aload_n (pc := 35) rfl rfl ?_
          refine tw_getR (pc := 36) rfl fl_MD_58 rfl rfl ?_
          refine tw_iload_n (pc := 39) rfl rfl ?_
          refine tw_ialdV (pc := 40) (v := (M 105 i)) rfl rfl ⟨by omega, by omega⟩ (by rw [ei]) ?_
          refine tw_ireturn (pc := 41) rfl rfl ?_
          unfold ptR at h
          rw [if_pos (show (M 105 i).toInt < 16 by omega), if_pos (show b = k from And.left (by assumption))] at h
          exact h
    · refine tw_if_eq (pc := 16) (tgt := 51) rfl rfl (fun _ => ?_) (fun q => absurd q (by decide))
      refine tw_iconst (pc := 51) rfl tw_ic_m1 ?_
      refine tw_ireturn (pc := 52) rfl rfl ?_
      exact absurd hf (by assumption)
theorem sp_MD_task {d : Nat} {M : tw_M} {Q : tw_P} {k : Int32} (hn : 0 ≤ (M 88 28).toInt ∧ (M 88 28).toInt ≤ 48) (hf : (¬ M 88 21 = 0 ∧ M 88 22 = 0 ∧ M 88 23 = 0 ∧ M 88 26 = -1)) (h : Q (some (ptR M k (M 88 28).toInt.toNat 0 0)) M) : tw_C (d + 2) j_MD_task [.inr 88, .inl k] M Q := by
  refine tw_enter pn_MD dc_MD_task (Nat.le_of_ble_eq_true rfl) ?_
  have zm1 := tw_ti_m1
  have z0 := tw_ti_0
  have z1 := tw_ti_1
  have z16 := tw_ti_16
  refine tw_iconst (pc := 0) rfl tw_ic_0 ?_
  refine tw_istore_n (pc := 1) rfl (Nat.le_of_ble_eq_true rfl) ?_
  refine tw_iconst (pc := 2) rfl tw_ic_0 ?_
  refine tw_istore_n (pc := 3) rfl (Nat.le_of_ble_eq_true rfl) ?_
  exact lp_MD_task hn hf (M 88 28).toInt.toNat 0 _ _ (by rw [z0]; rfl) (by omega) h
theorem sp_MD_taskN {d : Nat} {M : tw_M} {Q : tw_P} {k : Int32} (hf : ¬ (¬ M 88 21 = 0 ∧ M 88 22 = 0 ∧ M 88 23 = 0 ∧ M 88 26 = -1)) (h : Q (some (-1)) M) : tw_C (d + 2) j_MD_task [.inr 88, .inl k] M Q := by
  refine tw_enter pn_MD dc_MD_task (Nat.le_of_ble_eq_true rfl) ?_
  have zm1 := tw_ti_m1
  have z0 := tw_ti_0
  have z1 := tw_ti_1
  have z16 := tw_ti_16
  refine tw_iconst (pc := 0) rfl tw_ic_0 ?_
  refine tw_istore_n (pc := 1) rfl (Nat.le_of_ble_eq_true rfl) ?_
  refine tw_iconst (pc := 2) rfl tw_ic_0 ?_
  refine tw_istore_n (pc := 3) rfl (Nat.le_of_ble_eq_true rfl) ?_
  refine tw_iload_n (pc := 4) rfl rfl ?_
  refine tw_aload_n (pc := 5) rfl rfl ?_
  refine tw_getV (pc := 6) (v := (M 88 28)) rfl fl_MD_161 rfl rfl rfl ?_
  refine tw_icmp_ge (pc := 9) (tgt := 51) rfl rfl (fun c1 => ?_) (fun c1 => ?_)
  · refine tw_iconst (pc := 51) rfl tw_ic_m1 ?_
    refine tw_ireturn (pc := 52) rfl rfl ?_
    exact h
  · refine tw_aload_n (pc := 12) rfl rfl ?_
    refine tw_inv0 (pc := 13) rfl lk_MD_181 (Nat.le_of_ble_eq_true rfl) rfl rfl (sp_MD_isFound (fun c2 => ?_) (fun c2 => ?_))
    · refine tw_if_eq (pc := 16) (tgt := 51) rfl rfl (fun q => absurd q (by decide)) (fun _ => ?_)
      exact absurd (by assumption) hf
    · refine tw_if_eq (pc := 16) (tgt := 51) rfl rfl (fun _ => ?_) (fun q => absurd q (by decide))
      refine tw_iconst (pc := 51) rfl tw_ic_m1 ?_
      refine tw_ireturn (pc := 52) rfl rfl ?_
      exact h
theorem lp_MD_found {d : Nat} {Q : tw_P} {M : tw_M} {w : Int32} (hn : 0 ≤ (M 88 28).toInt ∧ (M 88 28).toInt ≤ 48) (ht : ∀ i : Nat, (i : Int) < (M 88 28).toInt → (M 105 i).toInt < 16 → 0 ≤ (M 105 i).toInt ∧ (M 105 i).toInt < 12) : ∀ (r i : Nat) (iv a s : Int32) (x : Option tw_V), iv.toInt = (i : Int) → (M 88 28).toInt = (i : Int) + (r : Int) → (w = 0 → Q (some (plR M r i a)) M) → (w = 1 → Q (some (pcR M r i s)) M) → (w = 2 → Q (some (M 88 25)) M) → ((¬ w = 0 ∧ ¬ w = 1 ∧ ¬ w = 2) → Q (some (M 88 28)) M) → tw_T none d j_MD_found M 25 [some (.inr 88), some (.inl w), some (.inl a), some (.inl s), some (.inl iv), x] [] Q := by
  intro r
  induction r with
  | zero =>
    intro i iv a s x hi hr h0 h1 h2 h3
    have zm1 := tw_ti_m1
    have z0 := tw_ti_0
    have z1 := tw_ti_1
    have z2 := tw_ti_2
    have z3 := tw_ti_3
    have z16 := tw_ti_16
    refine tw_iload (pc := 25) rfl rfl ?_
    refine tw_aload_n (pc := 27) rfl rfl ?_
    refine tw_getV (pc := 28) (v := (M 88 28)) rfl fl_MD_161 rfl rfl rfl ?_
    refine tw_icmp_ge (pc := 31) (tgt := 96) rfl rfl (fun c1 => ?_) (fun c1 => absurd c1 (by omega))
    refine tw_iload_n (pc := 96) rfl rfl ?_
    refine tw_if_ne (pc := 97) (tgt := 104) rfl rfl (fun c2 => ?_) (fun c2 => ?_)
    · refine tw_iload_n (pc := 104) rfl rfl ?_
      refine tw_iconst (pc := 105) rfl tw_ic_1 ?_
      refine tw_icmp_ne (pc := 106) (tgt := 113) rfl rfl (fun c3 => ?_) (fun c3 => ?_)
      · refine tw_iload_n (pc := 113) rfl rfl ?_
        refine tw_iconst (pc := 114) rfl tw_ic_2 ?_
        refine tw_icmp_ne (pc := 115) (tgt := 125) rfl rfl (fun c4 => ?_) (fun c4 => ?_)
        · refine tw_aload_n (pc := 125) rfl rfl ?_
          refine tw_getV (pc := 126) (v := (M 88 28)) rfl fl_MD_161 rfl rfl rfl ?_
          refine tw_ireturn (pc := 129) rfl rfl ?_
          first | exact h2 (And.left (by assumption)) | exact h3 ⟨c2.1, c3.1, c4.1⟩
        · refine tw_aload_n (pc := 118) rfl rfl ?_
          refine tw_getV (pc := 119) (v := (M 88 25)) rfl fl_MD_158 rfl rfl rfl ?_
          refine tw_goto (pc := 122) (tgt := 129) rfl rfl ?_
          refine tw_ireturn (pc := 129) rfl rfl ?_
          first | exact h2 (And.left (by assumption)) | exact h3 ⟨c2.1, c3.1, c4.1⟩
      · refine tw_iload_n (pc := 109) rfl rfl ?_
        refine tw_goto (pc := 110) (tgt := 129) rfl rfl ?_
        refine tw_ireturn (pc := 129) rfl rfl ?_
        exact h1 (And.left (by assumption))
    · refine tw_iload_n (pc := 100) rfl rfl ?_
      refine tw_goto (pc := 101) (tgt := 129) rfl rfl ?_
      refine tw_ireturn (pc := 129) rfl rfl ?_
      exact h0 (And.left (by assumption))
  | succ r ih =>
    intro i iv a s x hi hr h0 h1 h2 h3
    have ei : iv.toInt.toNat = i := by omega
    have hti := ht i (by omega)
    have zm1 := tw_ti_m1
    have z0 := tw_ti_0
    have z1 := tw_ti_1
    have z2 := tw_ti_2
    have z3 := tw_ti_3
    have z16 := tw_ti_16
    refine tw_iload (pc := 25) rfl rfl ?_
    refine tw_aload_n (pc := 27) rfl rfl ?_
    refine tw_getV (pc := 28) (v := (M 88 28)) rfl fl_MD_161 rfl rfl rfl ?_
    refine tw_icmp_ge (pc := 31) (tgt := 96) rfl rfl (fun c1 => absurd c1 (by omega)) (fun c1 => ?_)
    refine tw_aload_n (pc := 34) rfl rfl ?_
    refine tw_getR (pc := 35) rfl fl_MD_58 rfl rfl ?_
    refine tw_iload (pc := 38) rfl rfl ?_
    refine tw_ialdV (pc := 40) (v := (M 105 i)) rfl rfl ⟨by omega, by omega⟩ (by rw [ei]) ?_
    refine tw_bipush (pc := 41) rfl tw_bi_16 ?_
    refine tw_icmp_ge (pc := 43) (tgt := 50) rfl rfl (fun c2 => ?_) (fun c2 => ?_)
    · refine tw_iconst (pc := 50) rfl tw_ic_0 ?_
      refine tw_istore (pc := 51) rfl (Nat.le_of_ble_eq_true rfl) ?_
      refine tw_iload (pc := 53) rfl rfl ?_
      refine tw_if_eq (pc := 55) (tgt := 64) rfl rfl (fun _ => ?_) (fun q => absurd q (by decide))
      refine tw_iload_n (pc := 64) rfl rfl ?_
      refine tw_istore_n (pc := 65) rfl (Nat.le_of_ble_eq_true rfl) ?_
      refine tw_iload (pc := 66) rfl rfl ?_
      refine tw_if_eq (pc := 68) (tgt := 88) rfl rfl (fun _ => ?_) (fun q => absurd q (by decide))
      refine tw_iload_n (pc := 88) rfl rfl ?_
      refine tw_istore_n (pc := 89) rfl (Nat.le_of_ble_eq_true rfl) ?_
      refine tw_iincF (pc := 90) rfl rfl tw_ic_1 (Nat.le_of_ble_eq_true rfl) ⟨by omega, by omega⟩ (fun e3 => ?_)
      refine tw_goto (pc := 93) (tgt := 25) rfl rfl ?_
      exact ih (i + 1) _ _ _ _ (by omega) (by omega) (fun q => by have h := h0 q; unfold plR at h; rw [if_neg (show ¬ (M 105 i).toInt < 16 by omega)] at h; exact h) (fun q => by have h := h1 q; unfold pcR at h; rw [if_neg (show ¬ (M 105 i).toInt < 16 by omega)] at h; exact h) h2 h3
    · refine tw_iconst (pc := 46) rfl tw_ic_1 ?_
      refine tw_goto (pc := 47) (tgt := 51) rfl rfl ?_
      refine tw_istore (pc := 51) rfl (Nat.le_of_ble_eq_true rfl) ?_
      refine tw_iload (pc := 53) rfl rfl ?_
      refine tw_if_eq (pc := 55) (tgt := 64) rfl rfl (fun q => absurd q (by decide)) (fun _ => ?_)
      refine tw_iload_n (pc := 58) rfl rfl ?_
      refine tw_iconst (pc := 59) rfl tw_ic_1 ?_
      refine tw_iadd (pc := 60) rfl ?_
      refine tw_goto (pc := 61) (tgt := 65) rfl rfl ?_
      refine tw_istore_n (pc := 65) rfl (Nat.le_of_ble_eq_true rfl) ?_
      refine tw_iload (pc := 66) rfl rfl ?_
      refine tw_if_eq (pc := 68) (tgt := 88) rfl rfl (fun q => absurd q (by decide)) (fun _ => ?_)
      refine tw_iload_n (pc := 71) rfl rfl ?_
      refine tw_aload_n (pc := 72) rfl rfl ?_
      refine tw_getR (pc := 73) rfl fl_MD_22 rfl rfl ?_
      refine tw_aload_n (pc := 76) rfl rfl ?_
      refine tw_getR (pc := 77) rfl fl_MD_58 rfl rfl ?_
      refine tw_iload (pc := 80) rfl rfl ?_
      refine tw_ialdV (pc := 82) (v := (M 105 i)) rfl rfl ⟨by omega, by omega⟩ (by rw [ei]) ?_
      refine tw_iald (pc := 83) rfl rfl ⟨by omega, by omega⟩ ?_
      refine tw_iadd (pc := 84) rfl ?_
      refine tw_goto (pc := 85) (tgt := 89) rfl rfl ?_
      refine tw_istore_n (pc := 89) rfl (Nat.le_of_ble_eq_true rfl) ?_
      refine tw_iincF (pc := 90) rfl rfl tw_ic_1 (Nat.le_of_ble_eq_true rfl) ⟨by omega, by omega⟩ (fun e4 => ?_)
      refine tw_goto (pc := 93) (tgt := 25) rfl rfl ?_
      exact ih (i + 1) _ _ _ _ (by omega) (by omega) (fun q => by have h := h0 q; unfold plR at h; rw [if_pos (show (M 105 i).toInt < 16 by omega)] at h; exact h) (fun q => by have h := h1 q; unfold pcR at h; rw [if_pos (show (M 105 i).toInt < 16 by omega)] at h; exact h) h2 h3
theorem sp_MD_found {d : Nat} {M : tw_M} {Q : tw_P} {w : Int32} (ht : (¬ M 88 21 = 0 ∧ M 88 22 = 0 ∧ M 88 23 = 0 ∧ M 88 26 = -1) → (0 ≤ (M 88 28).toInt ∧ (M 88 28).toInt ≤ 48) ∧ ∀ i : Nat, (i : Int) < (M 88 28).toInt → (M 105 i).toInt < 16 → 0 ≤ (M 105 i).toInt ∧ (M 105 i).toInt < 12) (hN : ¬ ((¬ M 88 21 = 0 ∧ M 88 22 = 0 ∧ M 88 23 = 0 ∧ M 88 26 = -1) ∧ 0 ≤ w.toInt ∧ w.toInt ≤ 3) → Q (some (-1)) M) (h0 : (¬ M 88 21 = 0 ∧ M 88 22 = 0 ∧ M 88 23 = 0 ∧ M 88 26 = -1) → w = 0 → Q (some (plR M (M 88 28).toInt.toNat 0 0)) M) (h1 : (¬ M 88 21 = 0 ∧ M 88 22 = 0 ∧ M 88 23 = 0 ∧ M 88 26 = -1) → w = 1 → Q (some (pcR M (M 88 28).toInt.toNat 0 0)) M) (h2 : (¬ M 88 21 = 0 ∧ M 88 22 = 0 ∧ M 88 23 = 0 ∧ M 88 26 = -1) → w = 2 → Q (some (M 88 25)) M) (h3 : (¬ M 88 21 = 0 ∧ M 88 22 = 0 ∧ M 88 23 = 0 ∧ M 88 26 = -1) → (0 ≤ w.toInt ∧ w.toInt ≤ 3 ∧ ¬ w = 0 ∧ ¬ w = 1 ∧ ¬ w = 2) → Q (some (M 88 28)) M) : tw_C (d + 2) j_MD_found [.inr 88, .inl w] M Q := by
  refine tw_enter pn_MD dc_MD_found (Nat.le_of_ble_eq_true rfl) ?_
  have zm1 := tw_ti_m1
  have z0 := tw_ti_0
  have z1 := tw_ti_1
  have z2 := tw_ti_2
  have z3 := tw_ti_3
  have z16 := tw_ti_16
  refine tw_aload_n (pc := 0) rfl rfl ?_
  refine tw_inv0 (pc := 1) rfl lk_MD_181 (Nat.le_of_ble_eq_true rfl) rfl rfl (sp_MD_isFound (fun c1 => ?_) (fun c1 => ?_))
  · refine tw_if_eq (pc := 4) (tgt := 16) rfl rfl (fun q => absurd q (by decide)) (fun _ => ?_)
    refine tw_iload_n (pc := 7) rfl rfl ?_
    refine tw_if_lt (pc := 8) (tgt := 16) rfl rfl (fun c2 => ?_) (fun c2 => ?_)
    · refine tw_iconst (pc := 16) rfl tw_ic_m1 ?_
      refine tw_ireturn (pc := 17) rfl rfl ?_
      first | exact hN (fun q => by omega) | exact hN (fun q => absurd q.1 (by assumption))
    · refine tw_iload_n (pc := 11) rfl rfl ?_
      refine tw_iconst (pc := 12) rfl tw_ic_3 ?_
      refine tw_icmp_le (pc := 13) (tgt := 18) rfl rfl (fun c3 => ?_) (fun c3 => ?_)
      · refine tw_iconst (pc := 18) rfl tw_ic_0 ?_
        refine tw_istore_n (pc := 19) rfl (Nat.le_of_ble_eq_true rfl) ?_
        refine tw_iconst (pc := 20) rfl tw_ic_0 ?_
        refine tw_istore_n (pc := 21) rfl (Nat.le_of_ble_eq_true rfl) ?_
        refine tw_iconst (pc := 22) rfl tw_ic_0 ?_
        refine tw_istore (pc := 23) rfl (Nat.le_of_ble_eq_true rfl) ?_
        have hff : (¬ M 88 21 = 0 ∧ M 88 22 = 0 ∧ M 88 23 = 0 ∧ M 88 26 = -1) := by assumption
        exact lp_MD_found (ht hff).1 (ht hff).2 (M 88 28).toInt.toNat 0 _ _ _ _ (by rw [z0]; rfl) (by have := (ht hff).1; omega) (h0 hff) (h1 hff) (h2 hff) (fun q => h3 hff ⟨by omega, by omega, q.1, q.2.1, q.2.2⟩)
      · refine tw_iconst (pc := 16) rfl tw_ic_m1 ?_
        refine tw_ireturn (pc := 17) rfl rfl ?_
        first | exact hN (fun q => by omega) | exact hN (fun q => absurd q.1 (by assumption))
  · refine tw_if_eq (pc := 4) (tgt := 16) rfl rfl (fun _ => ?_) (fun q => absurd q (by decide))
    refine tw_iconst (pc := 16) rfl tw_ic_m1 ?_
    refine tw_ireturn (pc := 17) rfl rfl ?_
    first | exact hN (fun q => by omega) | exact hN (fun q => absurd q.1 (by assumption))
theorem sp_MD_steps {d : Nat} {M : tw_M} {Q : tw_P} (h1 : ¬ M 88 21 = 0 → Q (some (M 88 24)) M) (h0 : M 88 21 = 0 → Q (some 0) M) : tw_C (d + 1) j_MD_steps [.inr 88] M Q := by
  refine tw_enter pn_MD dc_MD_steps (Nat.le_of_ble_eq_true rfl) ?_
  have z0 := tw_ti_0
  refine tw_aload_n (pc := 0) rfl rfl ?_
  refine tw_getV (pc := 1) (v := (M 88 21)) rfl fl_MD_107 rfl rfl rfl ?_
  refine tw_if_eq (pc := 4) (tgt := 14) rfl rfl (fun c1 => ?_) (fun c1 => ?_)
  · refine tw_iconst (pc := 14) rfl tw_ic_0 ?_
    refine tw_ireturn (pc := 15) rfl rfl ?_
    exact h0 c1.1
  · refine tw_aload_n (pc := 7) rfl rfl ?_
    refine tw_getV (pc := 8) (v := (M 88 24)) rfl fl_MD_155 rfl rfl rfl ?_
    refine tw_goto (pc := 11) (tgt := 15) rfl rfl ?_
    refine tw_ireturn (pc := 15) rfl rfl ?_
    exact h1 c1.1
theorem sp_MD_node {d : Nat} {M : tw_M} {Q : tw_P} {k w : Int32} (hn : ¬ M 88 21 = 0 → 0 ≤ (M 88 28).toInt ∧ (M 88 28).toInt ≤ 48) (hk : ¬ M 88 21 = 0 → (0 ≤ k.toInt ∧ k.toInt < (M 88 28).toInt) → ¬ M 108 k.toInt.toNat = 0 → (16 ≤ (M 105 k.toInt.toNat).toInt ∧ (M 105 k.toInt.toNat).toInt < 28) ∧ (0 ≤ (M 107 k.toInt.toNat).toInt ∧ (M 107 k.toInt.toNat).toInt < 5)) (hN : ¬ (¬ M 88 21 = 0 ∧ (0 ≤ k.toInt ∧ k.toInt < (M 88 28).toInt) ∧ (0 ≤ w.toInt ∧ w.toInt ≤ 2)) → Q (some (-1)) M) (h0 : (¬ M 88 21 = 0 ∧ (0 ≤ k.toInt ∧ k.toInt < (M 88 28).toInt) ∧ (0 ≤ w.toInt ∧ w.toInt ≤ 2)) → w = 0 → Q (some (M 105 k.toInt.toNat)) M) (h1 : (¬ M 88 21 = 0 ∧ (0 ≤ k.toInt ∧ k.toInt < (M 88 28).toInt) ∧ (0 ≤ w.toInt ∧ w.toInt ≤ 2)) → w = 1 → Q (some (M 106 k.toInt.toNat)) M) (h2 : (¬ M 88 21 = 0 ∧ (0 ≤ k.toInt ∧ k.toInt < (M 88 28).toInt) ∧ (0 ≤ w.toInt ∧ w.toInt ≤ 2)) → w = 2 → ¬ M 108 k.toInt.toNat = 0 → Q (some (ownR M k.toInt.toNat)) M) (h2n : (¬ M 88 21 = 0 ∧ (0 ≤ k.toInt ∧ k.toInt < (M 88 28).toInt) ∧ (0 ≤ w.toInt ∧ w.toInt ≤ 2)) → w = 2 → M 108 k.toInt.toNat = 0 → Q (some (-1)) M) : tw_C (d + 1) j_MD_node [.inr 88, .inl k, .inl w] M Q := by
  refine tw_enter pn_MD dc_MD_node (Nat.le_of_ble_eq_true rfl) ?_
  have zm1 := tw_ti_m1
  have z0 := tw_ti_0
  have z2 := tw_ti_2
  have z5 := tw_ti_5
  have z16 := tw_ti_16
  refine tw_aload_n (pc := 0) rfl rfl ?_
  refine tw_getV (pc := 1) (v := (M 88 21)) rfl fl_MD_107 rfl rfl rfl ?_
  refine tw_if_eq (pc := 4) (tgt := 28) rfl rfl (fun c1 => ?_) (fun c1 => ?_)
  · refine tw_iconst (pc := 28) rfl tw_ic_m1 ?_
    refine tw_ireturn (pc := 29) rfl rfl ?_
    first | exact h2n ⟨hs, by omega, by omega⟩ (And.left (by assumption)) (And.left (by assumption)) | exact hN (fun q => by omega) | exact hN (fun q => q.1 (And.left (by assumption)))
  · have hs := c1.1
    have hn2 := hn hs
    refine tw_iload_n (pc := 7) rfl rfl ?_
    refine tw_if_lt (pc := 8) (tgt := 28) rfl rfl (fun c2 => ?_) (fun c2 => ?_)
    · refine tw_iconst (pc := 28) rfl tw_ic_m1 ?_
      refine tw_ireturn (pc := 29) rfl rfl ?_
      first | exact h2n ⟨hs, by omega, by omega⟩ (And.left (by assumption)) (And.left (by assumption)) | exact hN (fun q => by omega) | exact hN (fun q => q.1 (And.left (by assumption)))
    · refine tw_iload_n (pc := 11) rfl rfl ?_
      refine tw_aload_n (pc := 12) rfl rfl ?_
      refine tw_getV (pc := 13) (v := (M 88 28)) rfl fl_MD_161 rfl rfl rfl ?_
      refine tw_icmp_ge (pc := 16) (tgt := 28) rfl rfl (fun c3 => ?_) (fun c3 => ?_)
      · refine tw_iconst (pc := 28) rfl tw_ic_m1 ?_
        refine tw_ireturn (pc := 29) rfl rfl ?_
        first | exact h2n ⟨hs, by omega, by omega⟩ (And.left (by assumption)) (And.left (by assumption)) | exact hN (fun q => by omega) | exact hN (fun q => q.1 (And.left (by assumption)))
      · refine tw_iload_n (pc := 19) rfl rfl ?_
        refine tw_if_lt (pc := 20) (tgt := 28) rfl rfl (fun c4 => ?_) (fun c4 => ?_)
        · refine tw_iconst (pc := 28) rfl tw_ic_m1 ?_
          refine tw_ireturn (pc := 29) rfl rfl ?_
          first | exact h2n ⟨hs, by omega, by omega⟩ (And.left (by assumption)) (And.left (by assumption)) | exact hN (fun q => by omega) | exact hN (fun q => q.1 (And.left (by assumption)))
        · refine tw_iload_n (pc := 23) rfl rfl ?_
          refine tw_iconst (pc := 24) rfl tw_ic_2 ?_
          refine tw_icmp_le (pc := 25) (tgt := 30) rfl rfl (fun c5 => ?_) (fun c5 => ?_)
          · refine tw_iload_n (pc := 30) rfl rfl ?_
            refine tw_iconst (pc := 31) rfl tw_ic_2 ?_
            refine tw_icmp_ne (pc := 32) (tgt := 72) rfl rfl (fun c6 => ?_) (fun c6 => ?_)
            · refine tw_iload_n (pc := 72) rfl rfl ?_
              refine tw_if_ne (pc := 73) (tgt := 85) rfl rfl (fun c7 => ?_) (fun c7 => ?_)
              · refine tw_aload_n (pc := 85) rfl rfl ?_
                refine tw_getR (pc := 86) rfl fl_MD_61 rfl rfl ?_
                refine tw_iload_n (pc := 89) rfl rfl ?_
                refine tw_iald (pc := 90) rfl rfl ⟨by omega, by omega⟩ ?_
                refine tw_ireturn (pc := 91) rfl rfl ?_
                exact h1 ⟨hs, by omega, by omega⟩ (Int32.toInt_inj.mp (by have z1 := tw_ti_1; omega))
              · refine tw_aload_n (pc := 76) rfl rfl ?_
                refine tw_getR (pc := 77) rfl fl_MD_58 rfl rfl ?_
                refine tw_iload_n (pc := 80) rfl rfl ?_
                refine tw_iald (pc := 81) rfl rfl ⟨by omega, by omega⟩ ?_
                refine tw_goto (pc := 82) (tgt := 91) rfl rfl ?_
                refine tw_ireturn (pc := 91) rfl rfl ?_
                exact h0 ⟨hs, by omega, by omega⟩ (And.left (by assumption))
            · refine tw_aload_n (pc := 35) rfl rfl ?_
              refine tw_getR (pc := 36) rfl fl_MD_67 rfl rfl ?_
              refine tw_iload_n (pc := 39) rfl rfl ?_
              refine tw_bald (pc := 40) rfl rfl ⟨by omega, by omega⟩ ?_
              refine tw_if_eq (pc := 41) (tgt := 70) rfl rfl (fun c8 => ?_) (fun c8 => ?_)
              · refine tw_iconst (pc := 70) rfl tw_ic_m1 ?_
                refine tw_ireturn (pc := 71) rfl rfl ?_
                first | exact h2n ⟨hs, by omega, by omega⟩ (And.left (by assumption)) (And.left (by assumption)) | exact hN (fun q => by omega) | exact hN (fun q => q.1 (And.left (by assumption)))
              · have hk2 := hk hs (by omega) (And.left (by assumption))
                refine tw_aload_n (pc := 44) rfl rfl ?_
                refine tw_getR (pc := 45) rfl fl_MD_28 rfl rfl ?_
                refine tw_iconst (pc := 48) rfl tw_ic_5 ?_
                refine tw_aload_n (pc := 49) rfl rfl ?_
                refine tw_getR (pc := 50) rfl fl_MD_58 rfl rfl ?_
                refine tw_iload_n (pc := 53) rfl rfl ?_
                refine tw_iald (pc := 54) rfl rfl ⟨by omega, by omega⟩ ?_
                refine tw_bipush (pc := 55) rfl tw_bi_16 ?_
                refine tw_isubF (pc := 57) rfl ⟨by omega, by omega⟩ (fun e9 => ?_)
                refine tw_imul5F (pc := 58) rfl ⟨by omega, by omega⟩ (fun e10 => ?_)
                refine tw_aload_n (pc := 59) rfl rfl ?_
                refine tw_getR (pc := 60) rfl fl_MD_64 rfl rfl ?_
                refine tw_iload_n (pc := 63) rfl rfl ?_
                refine tw_iald (pc := 64) rfl rfl ⟨by omega, by omega⟩ ?_
                refine tw_iaddF (pc := 65) rfl ⟨by omega, by omega⟩ (fun e11 => ?_)
                refine tw_iald (pc := 66) rfl rfl ⟨by omega, by omega⟩ ?_
                refine tw_goto (pc := 67) (tgt := 71) rfl rfl ?_
                refine tw_ireturn (pc := 71) rfl rfl ?_
                exact h2 ⟨hs, by omega, by omega⟩ (And.left (by assumption)) (And.left (by assumption))
          · refine tw_iconst (pc := 28) rfl tw_ic_m1 ?_
            refine tw_ireturn (pc := 29) rfl rfl ?_
            first | exact h2n ⟨hs, by omega, by omega⟩ (And.left (by assumption)) (And.left (by assumption)) | exact hN (fun q => by omega) | exact hN (fun q => q.1 (And.left (by assumption)))
