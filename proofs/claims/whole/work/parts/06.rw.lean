def lenV (r : Nat) (M : tw_M) : Int32 := if M r 4 = -1 then 0 else M (r + 4) (M r 4).toInt.toNat
def tskV (r : Nat) (M : tw_M) : Int32 := if M r 4 = -1 then -1 else M (r + 1) (M r 4).toInt.toNat
def parV (r : Nat) (M : tw_M) : Int32 := if M r 4 = -1 then -1 else M (r + 2) (M r 4).toInt.toNat
def takeFC (r : Nat) (M : tw_M) : tw_M := if M r 4 = -1 then M else tw_set M r 4 (M (r + 3) (M r 4).toInt.toNat)
def putC (r : Nat) (M : tw_M) (t p : Int32) : tw_M := tw_set (tw_set (tw_set (tw_set (tw_set (tw_set M (r + 1) (M r 5).toInt.toNat t) (r + 2) (M r 5).toInt.toNat p) (r + 3) (M r 5).toInt.toNat (M r 4)) (r + 4) (M r 5).toInt.toNat (lenV r M + 1)) r 4 (M r 5)) r 5 (M r 5 + 1)
def putAll (r : Nat) (p : Int32) : tw_M → List Int32 → tw_M
  | M, [] => M
  | M, t :: ts => putAll r p (putC r M t p) ts
def dl (f : Nat → Int32) : Nat → List Int32
  | 0 => []
  | n + 1 => f n :: dl f n
def RowI (r : Nat) (M : tw_M) : Prop := -1 ≤ (M r 4).toInt ∧ (M r 4).toInt < (M r 5).toInt ∧ (M r 5).toInt ≤ 246
def beginC (r : Nat) (M : tw_M) : tw_M := putAll r (-1) (tw_set (tw_set M r 4 (-1)) r 5 0) (dl (M 66) (M 1 16).toInt.toNat)
theorem tw_dec1 {pl : Int32} {n : Nat} (hp : pl.toInt = ((n + 1 : Nat) : Int) - 1) (hn : n ≤ 1000) : (pl + -1).toInt = (n : Int) - 1 := by
  rw [tw_addI (by rw [tw_ti_m1]; omega), tw_ti_m1]
  omega
theorem putC_out {r q : Nat} (M : tw_M) (t p : Int32) (hq : q < r ∨ r + 4 < q) : putC r M t p q = M q := by
  unfold putC
  rw [tw_set_q _ _ (by omega), tw_set_q _ _ (by omega), tw_set_q _ _ (by omega), tw_set_q _ _ (by omega), tw_set_q _ _ (by omega), tw_set_q _ _ (by omega)]
theorem RowI_put {r : Nat} {M : tw_M} {t p : Int32} (h : RowI r M) (hc : (M r 5).toInt < 246) (h1 : r + 1 ≠ r) : RowI r (putC r M t p) ∧ (putC r M t p) r 5 = M r 5 + 1 ∧ (M r 5 + 1).toInt = (M r 5).toInt + 1 := by
  obtain ⟨a, b, c⟩ := h
  have z1 : (1 : Int32).toInt = 1 := by decide
  have e : (M r 5 + 1).toInt = (M r 5).toInt + 1 := by rw [tw_addI (by omega), z1]
  have e4 : putC r M t p r 4 = M r 5 := by simp [putC, tw_set]
  have e5 : putC r M t p r 5 = M r 5 + 1 := by simp [putC, tw_set]
  refine ⟨⟨?_, ?_, ?_⟩, e5, e⟩
  · rw [e4]; omega
  · rw [e4, e5, e]; omega
  · rw [e5, e]; omega
theorem sp_RW_goBackTo_71 {d : Nat} {M : tw_M} {Q : tw_P} {a b : Int32} (h : Q none (tw_set (tw_set M 71 4 a) 71 5 b)) : tw_C (d + 1) j_RW_goBackTo [.inr 71, .inl a, .inl b] M Q := by
  refine tw_enter pn_RW dc_RW_goBackTo (Nat.le_of_ble_eq_true rfl) ?_
  refine tw_aload_n (pc := 0) rfl rfl ?_
  refine tw_iload_n (pc := 1) rfl rfl ?_
  refine tw_putI (pc := 2) rfl fp_RW_24 rfl rfl rfl rfl ?_
  refine tw_aload_n (pc := 5) rfl rfl ?_
  refine tw_iload_n (pc := 6) rfl rfl ?_
  refine tw_putI (pc := 7) rfl fp_RW_52 rfl rfl rfl rfl ?_
  refine tw_return (pc := 10) rfl trivial ?_
  exact h
theorem sp_RW_takeFirst_71 {d : Nat} {M : tw_M} {Q : tw_P} (hR : RowI 71 M) (h : Q none (takeFC 71 M)) : tw_C (d + 1) j_RW_takeFirst [.inr 71] M Q := by
  obtain ⟨r1, r2, r3⟩ := hR
  refine tw_enter pn_RW dc_RW_takeFirst (Nat.le_of_ble_eq_true rfl) ?_
  have zm1 := tw_ti_m1
  refine tw_aload_n (pc := 0) rfl rfl ?_
  refine tw_getV (pc := 1) (v := (M 71 4)) rfl fl_RW_24 rfl rfl rfl ?_
  refine tw_iconst (pc := 4) rfl tw_ic_m1 ?_
  refine tw_icmp_eq (pc := 5) (tgt := 21) rfl rfl (fun c1 => ?_) (fun c1 => ?_)
  · refine tw_return (pc := 21) rfl trivial ?_
    have e : takeFC 71 M = M := if_pos (And.left (by assumption))
    rw [e] at h
    exact h
  · refine tw_aload_n (pc := 8) rfl rfl ?_
    refine tw_aload_n (pc := 9) rfl rfl ?_
    refine tw_getR (pc := 10) rfl fl_RW_18 rfl rfl ?_
    refine tw_aload_n (pc := 13) rfl rfl ?_
    refine tw_getV (pc := 14) (v := (M 71 4)) rfl fl_RW_24 rfl rfl rfl ?_
    refine tw_iald (pc := 17) rfl rfl ⟨by omega, by omega⟩ ?_
    refine tw_putI (pc := 18) rfl fp_RW_24 rfl rfl rfl rfl ?_
    refine tw_return (pc := 21) rfl trivial ?_
    have e : takeFC 71 M = tw_set M 71 4 (M 74 (M 71 4).toInt.toNat) := if_neg (And.left (by assumption))
    rw [e] at h
    exact h
theorem sp_RW_firstTask_71 {d : Nat} {M : tw_M} {Q : tw_P} {v : Int32} (hR : RowI 71 M) (hv : tskV 71 M = v) (h : Q (some v) M) : tw_C (d + 1) j_RW_firstTask [.inr 71] M Q := by
  subst hv
  obtain ⟨r1, r2, r3⟩ := hR
  refine tw_enter pn_RW dc_RW_firstTask (Nat.le_of_ble_eq_true rfl) ?_
  have zm1 := tw_ti_m1
  refine tw_aload_n (pc := 0) rfl rfl ?_
  refine tw_getV (pc := 1) (v := (M 71 4)) rfl fl_RW_24 rfl rfl rfl ?_
  refine tw_iconst (pc := 4) rfl tw_ic_m1 ?_
  refine tw_icmp_ne (pc := 5) (tgt := 12) rfl rfl (fun c1 => ?_) (fun c1 => ?_)
  · refine tw_aload_n (pc := 12) rfl rfl ?_
    refine tw_getR (pc := 13) rfl fl_RW_9 rfl rfl ?_
    refine tw_aload_n (pc := 16) rfl rfl ?_
    refine tw_getV (pc := 17) (v := (M 71 4)) rfl fl_RW_24 rfl rfl rfl ?_
    refine tw_iald (pc := 20) rfl rfl ⟨by omega, by omega⟩ ?_
    refine tw_ireturn (pc := 21) rfl rfl ?_
    have e : tskV 71 M = (M 72 (M 71 4).toInt.toNat) := by unfold tskV; first | exact if_pos (by first | assumption | exact (And.left (by assumption))) | exact if_neg (And.left (by assumption))
    rw [e] at h
    exact h
  · refine tw_iconst (pc := 8) rfl tw_ic_m1 ?_
    refine tw_goto (pc := 9) (tgt := 21) rfl rfl ?_
    refine tw_ireturn (pc := 21) rfl rfl ?_
    have e : tskV 71 M = (-1) := by unfold tskV; first | exact if_pos (by first | assumption | exact (And.left (by assumption))) | exact if_neg (And.left (by assumption))
    rw [e] at h
    exact h
theorem sp_RW_firstParent_71 {d : Nat} {M : tw_M} {Q : tw_P} {v : Int32} (hR : RowI 71 M) (hv : parV 71 M = v) (h : Q (some v) M) : tw_C (d + 1) j_RW_firstParent [.inr 71] M Q := by
  subst hv
  obtain ⟨r1, r2, r3⟩ := hR
  refine tw_enter pn_RW dc_RW_firstParent (Nat.le_of_ble_eq_true rfl) ?_
  have zm1 := tw_ti_m1
  refine tw_aload_n (pc := 0) rfl rfl ?_
  refine tw_getV (pc := 1) (v := (M 71 4)) rfl fl_RW_24 rfl rfl rfl ?_
  refine tw_iconst (pc := 4) rfl tw_ic_m1 ?_
  refine tw_icmp_ne (pc := 5) (tgt := 12) rfl rfl (fun c1 => ?_) (fun c1 => ?_)
  · refine tw_aload_n (pc := 12) rfl rfl ?_
    refine tw_getR (pc := 13) rfl fl_RW_15 rfl rfl ?_
    refine tw_aload_n (pc := 16) rfl rfl ?_
    refine tw_getV (pc := 17) (v := (M 71 4)) rfl fl_RW_24 rfl rfl rfl ?_
    refine tw_iald (pc := 20) rfl rfl ⟨by omega, by omega⟩ ?_
    refine tw_ireturn (pc := 21) rfl rfl ?_
    have e : parV 71 M = (M 73 (M 71 4).toInt.toNat) := by unfold parV; first | exact if_pos (by first | assumption | exact (And.left (by assumption))) | exact if_neg (And.left (by assumption))
    rw [e] at h
    exact h
  · refine tw_iconst (pc := 8) rfl tw_ic_m1 ?_
    refine tw_goto (pc := 9) (tgt := 21) rfl rfl ?_
    refine tw_ireturn (pc := 21) rfl rfl ?_
    have e : parV 71 M = (-1) := by unfold parV; first | exact if_pos (by first | assumption | exact (And.left (by assumption))) | exact if_neg (And.left (by assumption))
    rw [e] at h
    exact h
theorem sp_RW_length_71 {d : Nat} {M : tw_M} {Q : tw_P} {v : Int32} (hR : RowI 71 M) (hv : lenV 71 M = v) (h : Q (some v) M) : tw_C (d + 1) j_RW_length [.inr 71] M Q := by
  subst hv
  obtain ⟨r1, r2, r3⟩ := hR
  refine tw_enter pn_RW dc_RW_length (Nat.le_of_ble_eq_true rfl) ?_
  have zm1 := tw_ti_m1
  have z0 := tw_ti_0
  refine tw_aload_n (pc := 0) rfl rfl ?_
  refine tw_getV (pc := 1) (v := (M 71 4)) rfl fl_RW_24 rfl rfl rfl ?_
  refine tw_iconst (pc := 4) rfl tw_ic_m1 ?_
  refine tw_icmp_ne (pc := 5) (tgt := 12) rfl rfl (fun c1 => ?_) (fun c1 => ?_)
  · refine tw_aload_n (pc := 12) rfl rfl ?_
    refine tw_getR (pc := 13) rfl fl_RW_21 rfl rfl ?_
    refine tw_aload_n (pc := 16) rfl rfl ?_
    refine tw_getV (pc := 17) (v := (M 71 4)) rfl fl_RW_24 rfl rfl rfl ?_
    refine tw_iald (pc := 20) rfl rfl ⟨by omega, by omega⟩ ?_
    refine tw_ireturn (pc := 21) rfl rfl ?_
    have e : lenV 71 M = (M 75 (M 71 4).toInt.toNat) := by unfold lenV; first | exact if_pos (by first | assumption | exact (And.left (by assumption))) | exact if_neg (And.left (by assumption))
    rw [e] at h
    exact h
  · refine tw_iconst (pc := 8) rfl tw_ic_0 ?_
    refine tw_goto (pc := 9) (tgt := 21) rfl rfl ?_
    refine tw_ireturn (pc := 21) rfl rfl ?_
    have e : lenV 71 M = 0 := by unfold lenV; first | exact if_pos (by first | assumption | exact (And.left (by assumption))) | exact if_neg (And.left (by assumption))
    rw [e] at h
    exact h
theorem sp_RW_firstCell_71 {d : Nat} {M : tw_M} {Q : tw_P} (h : Q (some (M 71 4)) M) : tw_C (d + 1) j_RW_firstCell [.inr 71] M Q := by
  refine tw_enter pn_RW dc_RW_firstCell (Nat.le_of_ble_eq_true rfl) ?_
  refine tw_aload_n (pc := 0) rfl rfl ?_
  refine tw_getV (pc := 1) (v := (M 71 4)) rfl fl_RW_24 rfl rfl rfl ?_
  refine tw_ireturn (pc := 4) rfl rfl ?_
  exact h
theorem sp_RW_cellCount_71 {d : Nat} {M : tw_M} {Q : tw_P} (h : Q (some (M 71 5)) M) : tw_C (d + 1) j_RW_cellCount [.inr 71] M Q := by
  refine tw_enter pn_RW dc_RW_cellCount (Nat.le_of_ble_eq_true rfl) ?_
  refine tw_aload_n (pc := 0) rfl rfl ?_
  refine tw_getV (pc := 1) (v := (M 71 5)) rfl fl_RW_52 rfl rfl rfl ?_
  refine tw_ireturn (pc := 4) rfl rfl ?_
  exact h
theorem sp_RW_putFirst_71 {d : Nat} {M : tw_M} {Q : tw_P} {t p : Int32} (hR : RowI 71 M) (hc : (M 71 5).toInt < 246) (h : Q none (putC 71 M t p)) : tw_C (d + 2) j_RW_putFirst [.inr 71, .inl t, .inl p] M Q := by
  obtain ⟨r1, r2, r3⟩ := id hR
  refine tw_enter pn_RW dc_RW_putFirst (Nat.le_of_ble_eq_true rfl) ?_
  have z1 := tw_ti_1
  have z246 := tw_ti_246
  refine tw_aload_n (pc := 0) rfl rfl ?_
  refine tw_getV (pc := 1) (v := (M 71 5)) rfl fl_RW_52 rfl rfl rfl ?_
  refine tw_sipush (pc := 4) rfl tw_si_246 ?_
  refine tw_icmp_lt (pc := 7) (tgt := 11) rfl rfl (fun c1 => ?_) (fun c1 => absurd c1 (by omega))
  refine tw_aload_n (pc := 11) rfl rfl ?_
  refine tw_getR (pc := 12) rfl fl_RW_9 rfl rfl ?_
  refine tw_aload_n (pc := 15) rfl rfl ?_
  refine tw_getV (pc := 16) (v := (M 71 5)) rfl fl_RW_52 rfl rfl rfl ?_
  refine tw_iload_n (pc := 19) rfl rfl ?_
  refine tw_iast (pc := 20) rfl rfl ⟨by omega, by omega⟩ ?_
  refine tw_aload_n (pc := 21) rfl rfl ?_
  refine tw_getR (pc := 22) rfl fl_RW_15 rfl rfl ?_
  refine tw_aload_n (pc := 25) rfl rfl ?_
  refine tw_getV (pc := 26) (v := (M 71 5)) rfl fl_RW_52 rfl rfl rfl ?_
  refine tw_iload_n (pc := 29) rfl rfl ?_
  refine tw_iast (pc := 30) rfl rfl ⟨by omega, by omega⟩ ?_
  refine tw_aload_n (pc := 31) rfl rfl ?_
  refine tw_getR (pc := 32) rfl fl_RW_18 rfl rfl ?_
  refine tw_aload_n (pc := 35) rfl rfl ?_
  refine tw_getV (pc := 36) (v := (M 71 5)) rfl fl_RW_52 rfl rfl rfl ?_
  refine tw_aload_n (pc := 39) rfl rfl ?_
  refine tw_getV (pc := 40) (v := (M 71 4)) rfl fl_RW_24 rfl rfl rfl ?_
  refine tw_iast (pc := 43) rfl rfl ⟨by omega, by omega⟩ ?_
  refine tw_aload_n (pc := 44) rfl rfl ?_
  refine tw_getR (pc := 45) rfl fl_RW_21 rfl rfl ?_
  refine tw_aload_n (pc := 48) rfl rfl ?_
  refine tw_getV (pc := 49) (v := (M 71 5)) rfl fl_RW_52 rfl rfl rfl ?_
  refine tw_aload_n (pc := 52) rfl rfl ?_
  refine tw_inv0 (pc := 53) rfl lk_RW_55 (Nat.le_of_ble_eq_true rfl) rfl rfl (sp_RW_length_71 hR rfl ?_)
  refine tw_iconst (pc := 56) rfl tw_ic_1 ?_
  refine tw_iadd (pc := 57) rfl ?_
  refine tw_iast (pc := 58) rfl rfl ⟨by omega, by omega⟩ ?_
  refine tw_aload_n (pc := 59) rfl rfl ?_
  refine tw_aload_n (pc := 60) rfl rfl ?_
  refine tw_getV (pc := 61) (v := (M 71 5)) rfl fl_RW_52 rfl rfl rfl ?_
  refine tw_putI (pc := 64) rfl fp_RW_24 rfl rfl rfl rfl ?_
  refine tw_aload_n (pc := 67) rfl rfl ?_
  refine tw_dup (pc := 68) rfl ?_
  refine tw_getV (pc := 69) (v := (M 71 5)) rfl fl_RW_52 rfl rfl rfl ?_
  refine tw_iconst (pc := 72) rfl tw_ic_1 ?_
  refine tw_iadd (pc := 73) rfl ?_
  refine tw_putI (pc := 74) rfl fp_RW_52 rfl rfl rfl rfl ?_
  refine tw_return (pc := 77) rfl trivial ?_
  exact h
theorem sp_RW_goBackTo_83 {d : Nat} {M : tw_M} {Q : tw_P} {a b : Int32} (h : Q none (tw_set (tw_set M 83 4 a) 83 5 b)) : tw_C (d + 1) j_RW_goBackTo [.inr 83, .inl a, .inl b] M Q := by
  refine tw_enter pn_RW dc_RW_goBackTo (Nat.le_of_ble_eq_true rfl) ?_
  refine tw_aload_n (pc := 0) rfl rfl ?_
  refine tw_iload_n (pc := 1) rfl rfl ?_
  refine tw_putI (pc := 2) rfl fp_RW_24 rfl rfl rfl rfl ?_
  refine tw_aload_n (pc := 5) rfl rfl ?_
  refine tw_iload_n (pc := 6) rfl rfl ?_
  refine tw_putI (pc := 7) rfl fp_RW_52 rfl rfl rfl rfl ?_
  refine tw_return (pc := 10) rfl trivial ?_
  exact h
theorem sp_RW_takeFirst_83 {d : Nat} {M : tw_M} {Q : tw_P} (hR : RowI 83 M) (h : Q none (takeFC 83 M)) : tw_C (d + 1) j_RW_takeFirst [.inr 83] M Q := by
  obtain ⟨r1, r2, r3⟩ := hR
  refine tw_enter pn_RW dc_RW_takeFirst (Nat.le_of_ble_eq_true rfl) ?_
  have zm1 := tw_ti_m1
  refine tw_aload_n (pc := 0) rfl rfl ?_
  refine tw_getV (pc := 1) (v := (M 83 4)) rfl fl_RW_24 rfl rfl rfl ?_
  refine tw_iconst (pc := 4) rfl tw_ic_m1 ?_
  refine tw_icmp_eq (pc := 5) (tgt := 21) rfl rfl (fun c1 => ?_) (fun c1 => ?_)
  · refine tw_return (pc := 21) rfl trivial ?_
    have e : takeFC 83 M = M := if_pos (And.left (by assumption))
    rw [e] at h
    exact h
  · refine tw_aload_n (pc := 8) rfl rfl ?_
    refine tw_aload_n (pc := 9) rfl rfl ?_
    refine tw_getR (pc := 10) rfl fl_RW_18 rfl rfl ?_
    refine tw_aload_n (pc := 13) rfl rfl ?_
    refine tw_getV (pc := 14) (v := (M 83 4)) rfl fl_RW_24 rfl rfl rfl ?_
    refine tw_iald (pc := 17) rfl rfl ⟨by omega, by omega⟩ ?_
    refine tw_putI (pc := 18) rfl fp_RW_24 rfl rfl rfl rfl ?_
    refine tw_return (pc := 21) rfl trivial ?_
    have e : takeFC 83 M = tw_set M 83 4 (M 86 (M 83 4).toInt.toNat) := if_neg (And.left (by assumption))
    rw [e] at h
    exact h
theorem sp_RW_firstTask_83 {d : Nat} {M : tw_M} {Q : tw_P} {v : Int32} (hR : RowI 83 M) (hv : tskV 83 M = v) (h : Q (some v) M) : tw_C (d + 1) j_RW_firstTask [.inr 83] M Q := by
  subst hv
  obtain ⟨r1, r2, r3⟩ := hR
  refine tw_enter pn_RW dc_RW_firstTask (Nat.le_of_ble_eq_true rfl) ?_
  have zm1 := tw_ti_m1
  refine tw_aload_n (pc := 0) rfl rfl ?_
  refine tw_getV (pc := 1) (v := (M 83 4)) rfl fl_RW_24 rfl rfl rfl ?_
  refine tw_iconst (pc := 4) rfl tw_ic_m1 ?_
  refine tw_icmp_ne (pc := 5) (tgt := 12) rfl rfl (fun c1 => ?_) (fun c1 => ?_)
  · refine tw_aload_n (pc := 12) rfl rfl ?_
    refine tw_getR (pc := 13) rfl fl_RW_9 rfl rfl ?_
    refine tw_aload_n (pc := 16) rfl rfl ?_
    refine tw_getV (pc := 17) (v := (M 83 4)) rfl fl_RW_24 rfl rfl rfl ?_
    refine tw_iald (pc := 20) rfl rfl ⟨by omega, by omega⟩ ?_
    refine tw_ireturn (pc := 21) rfl rfl ?_
    have e : tskV 83 M = (M 84 (M 83 4).toInt.toNat) := by unfold tskV; first | exact if_pos (by first | assumption | exact (And.left (by assumption))) | exact if_neg (And.left (by assumption))
    rw [e] at h
    exact h
  · refine tw_iconst (pc := 8) rfl tw_ic_m1 ?_
    refine tw_goto (pc := 9) (tgt := 21) rfl rfl ?_
    refine tw_ireturn (pc := 21) rfl rfl ?_
    have e : tskV 83 M = (-1) := by unfold tskV; first | exact if_pos (by first | assumption | exact (And.left (by assumption))) | exact if_neg (And.left (by assumption))
    rw [e] at h
    exact h
theorem sp_RW_firstParent_83 {d : Nat} {M : tw_M} {Q : tw_P} {v : Int32} (hR : RowI 83 M) (hv : parV 83 M = v) (h : Q (some v) M) : tw_C (d + 1) j_RW_firstParent [.inr 83] M Q := by
  subst hv
  obtain ⟨r1, r2, r3⟩ := hR
  refine tw_enter pn_RW dc_RW_firstParent (Nat.le_of_ble_eq_true rfl) ?_
  have zm1 := tw_ti_m1
  refine tw_aload_n (pc := 0) rfl rfl ?_
  refine tw_getV (pc := 1) (v := (M 83 4)) rfl fl_RW_24 rfl rfl rfl ?_
  refine tw_iconst (pc := 4) rfl tw_ic_m1 ?_
  refine tw_icmp_ne (pc := 5) (tgt := 12) rfl rfl (fun c1 => ?_) (fun c1 => ?_)
  · refine tw_aload_n (pc := 12) rfl rfl ?_
    refine tw_getR (pc := 13) rfl fl_RW_15 rfl rfl ?_
    refine tw_aload_n (pc := 16) rfl rfl ?_
    refine tw_getV (pc := 17) (v := (M 83 4)) rfl fl_RW_24 rfl rfl rfl ?_
    refine tw_iald (pc := 20) rfl rfl ⟨by omega, by omega⟩ ?_
    refine tw_ireturn (pc := 21) rfl rfl ?_
    have e : parV 83 M = (M 85 (M 83 4).toInt.toNat) := by unfold parV; first | exact if_pos (by first | assumption | exact (And.left (by assumption))) | exact if_neg (And.left (by assumption))
    rw [e] at h
    exact h
  · refine tw_iconst (pc := 8) rfl tw_ic_m1 ?_
    refine tw_goto (pc := 9) (tgt := 21) rfl rfl ?_
    refine tw_ireturn (pc := 21) rfl rfl ?_
    have e : parV 83 M = (-1) := by unfold parV; first | exact if_pos (by first | assumption | exact (And.left (by assumption))) | exact if_neg (And.left (by assumption))
    rw [e] at h
    exact h
theorem sp_RW_length_83 {d : Nat} {M : tw_M} {Q : tw_P} {v : Int32} (hR : RowI 83 M) (hv : lenV 83 M = v) (h : Q (some v) M) : tw_C (d + 1) j_RW_length [.inr 83] M Q := by
  subst hv
  obtain ⟨r1, r2, r3⟩ := hR
  refine tw_enter pn_RW dc_RW_length (Nat.le_of_ble_eq_true rfl) ?_
  have zm1 := tw_ti_m1
  have z0 := tw_ti_0
  refine tw_aload_n (pc := 0) rfl rfl ?_
  refine tw_getV (pc := 1) (v := (M 83 4)) rfl fl_RW_24 rfl rfl rfl ?_
  refine tw_iconst (pc := 4) rfl tw_ic_m1 ?_
  refine tw_icmp_ne (pc := 5) (tgt := 12) rfl rfl (fun c1 => ?_) (fun c1 => ?_)
  · refine tw_aload_n (pc := 12) rfl rfl ?_
    refine tw_getR (pc := 13) rfl fl_RW_21 rfl rfl ?_
    refine tw_aload_n (pc := 16) rfl rfl ?_
    refine tw_getV (pc := 17) (v := (M 83 4)) rfl fl_RW_24 rfl rfl rfl ?_
    refine tw_iald (pc := 20) rfl rfl ⟨by omega, by omega⟩ ?_
    refine tw_ireturn (pc := 21) rfl rfl ?_
    have e : lenV 83 M = (M 87 (M 83 4).toInt.toNat) := by unfold lenV; first | exact if_pos (by first | assumption | exact (And.left (by assumption))) | exact if_neg (And.left (by assumption))
    rw [e] at h
    exact h
  · refine tw_iconst (pc := 8) rfl tw_ic_0 ?_
    refine tw_goto (pc := 9) (tgt := 21) rfl rfl ?_
    refine tw_ireturn (pc := 21) rfl rfl ?_
    have e : lenV 83 M = 0 := by unfold lenV; first | exact if_pos (by first | assumption | exact (And.left (by assumption))) | exact if_neg (And.left (by assumption))
    rw [e] at h
    exact h
theorem sp_RW_firstCell_83 {d : Nat} {M : tw_M} {Q : tw_P} (h : Q (some (M 83 4)) M) : tw_C (d + 1) j_RW_firstCell [.inr 83] M Q := by
  refine tw_enter pn_RW dc_RW_firstCell (Nat.le_of_ble_eq_true rfl) ?_
  refine tw_aload_n (pc := 0) rfl rfl ?_
  refine tw_getV (pc := 1) (v := (M 83 4)) rfl fl_RW_24 rfl rfl rfl ?_
  refine tw_ireturn (pc := 4) rfl rfl ?_
  exact h
theorem sp_RW_cellCount_83 {d : Nat} {M : tw_M} {Q : tw_P} (h : Q (some (M 83 5)) M) : tw_C (d + 1) j_RW_cellCount [.inr 83] M Q := by
  refine tw_enter pn_RW dc_RW_cellCount (Nat.le_of_ble_eq_true rfl) ?_
  refine tw_aload_n (pc := 0) rfl rfl ?_
  refine tw_getV (pc := 1) (v := (M 83 5)) rfl fl_RW_52 rfl rfl rfl ?_
  refine tw_ireturn (pc := 4) rfl rfl ?_
  exact h
theorem sp_RW_putFirst_83 {d : Nat} {M : tw_M} {Q : tw_P} {t p : Int32} (hR : RowI 83 M) (hc : (M 83 5).toInt < 246) (h : Q none (putC 83 M t p)) : tw_C (d + 2) j_RW_putFirst [.inr 83, .inl t, .inl p] M Q := by
  obtain ⟨r1, r2, r3⟩ := id hR
  refine tw_enter pn_RW dc_RW_putFirst (Nat.le_of_ble_eq_true rfl) ?_
  have z1 := tw_ti_1
  have z246 := tw_ti_246
  refine tw_aload_n (pc := 0) rfl rfl ?_
  refine tw_getV (pc := 1) (v := (M 83 5)) rfl fl_RW_52 rfl rfl rfl ?_
  refine tw_sipush (pc := 4) rfl tw_si_246 ?_
  refine tw_icmp_lt (pc := 7) (tgt := 11) rfl rfl (fun c1 => ?_) (fun c1 => absurd c1 (by omega))
  refine tw_aload_n (pc := 11) rfl rfl ?_
  refine tw_getR (pc := 12) rfl fl_RW_9 rfl rfl ?_
  refine tw_aload_n (pc := 15) rfl rfl ?_
  refine tw_getV (pc := 16) (v := (M 83 5)) rfl fl_RW_52 rfl rfl rfl ?_
  refine tw_iload_n (pc := 19) rfl rfl ?_
  refine tw_iast (pc := 20) rfl rfl ⟨by omega, by omega⟩ ?_
  refine tw_aload_n (pc := 21) rfl rfl ?_
  refine tw_getR (pc := 22) rfl fl_RW_15 rfl rfl ?_
  refine tw_aload_n (pc := 25) rfl rfl ?_
  refine tw_getV (pc := 26) (v := (M 83 5)) rfl fl_RW_52 rfl rfl rfl ?_
  refine tw_iload_n (pc := 29) rfl rfl ?_
  refine tw_iast (pc := 30) rfl rfl ⟨by omega, by omega⟩ ?_
  refine tw_aload_n (pc := 31) rfl rfl ?_
  refine tw_getR (pc := 32) rfl fl_RW_18 rfl rfl ?_
  refine tw_aload_n (pc := 35) rfl rfl ?_
  refine tw_getV (pc := 36) (v := (M 83 5)) rfl fl_RW_52 rfl rfl rfl ?_
  refine tw_aload_n (pc := 39) rfl rfl ?_
  refine tw_getV (pc := 40) (v := (M 83 4)) rfl fl_RW_24 rfl rfl rfl ?_
  refine tw_iast (pc := 43) rfl rfl ⟨by omega, by omega⟩ ?_
  refine tw_aload_n (pc := 44) rfl rfl ?_
  refine tw_getR (pc := 45) rfl fl_RW_21 rfl rfl ?_
  refine tw_aload_n (pc := 48) rfl rfl ?_
  refine tw_getV (pc := 49) (v := (M 83 5)) rfl fl_RW_52 rfl rfl rfl ?_
  refine tw_aload_n (pc := 52) rfl rfl ?_
  refine tw_inv0 (pc := 53) rfl lk_RW_55 (Nat.le_of_ble_eq_true rfl) rfl rfl (sp_RW_length_83 hR rfl ?_)
  refine tw_iconst (pc := 56) rfl tw_ic_1 ?_
  refine tw_iadd (pc := 57) rfl ?_
  refine tw_iast (pc := 58) rfl rfl ⟨by omega, by omega⟩ ?_
  refine tw_aload_n (pc := 59) rfl rfl ?_
  refine tw_aload_n (pc := 60) rfl rfl ?_
  refine tw_getV (pc := 61) (v := (M 83 5)) rfl fl_RW_52 rfl rfl rfl ?_
  refine tw_putI (pc := 64) rfl fp_RW_24 rfl rfl rfl rfl ?_
  refine tw_aload_n (pc := 67) rfl rfl ?_
  refine tw_dup (pc := 68) rfl ?_
  refine tw_getV (pc := 69) (v := (M 83 5)) rfl fl_RW_52 rfl rfl rfl ?_
  refine tw_iconst (pc := 72) rfl tw_ic_1 ?_
  refine tw_iadd (pc := 73) rfl ?_
  refine tw_putI (pc := 74) rfl fp_RW_52 rfl rfl rfl rfl ?_
  refine tw_return (pc := 77) rfl trivial ?_
  exact h
theorem lp_RW_putPartsFirst_71 {d : Nat} {Q : tw_P} {m p : Int32} : ∀ (n : Nat) (M : tw_M) (pl : Int32), DI M → RowI 71 M → (M 71 5).toInt + n ≤ 246 → pl.toInt = (n : Int) - 1 → (0 ≤ m.toInt ∧ m.toInt < (M 1 14).toInt) → (n : Int) ≤ (M 65 m.toInt.toNat).toInt → Q none (putAll 71 p M (dl (M (25 + m.toInt.toNat)) n)) → tw_T none (d + 2) j_RW_putPartsFirst M 9 [some (.inr 71), some (.inr 1), some (.inl m), some (.inl p), some (.inl pl)] [] Q := by
  intro n
  induction n with
  | zero =>
    intro M pl hD hR hc hp hm hn h
    have zm1 := tw_ti_m1
    have z0 := tw_ti_0
    have z1 := tw_ti_1
    refine tw_iload (pc := 9) rfl rfl ?_
    refine tw_if_lt (pc := 11) (tgt := 32) rfl rfl (fun c1 => ?_) (fun c1 => absurd c1 (by omega))
    refine tw_return (pc := 32) rfl trivial ?_
    exact h
  | succ n ih =>
    intro M pl hD hR hc hp hm hn h
    have ev : pAt M m pl = M (25 + m.toInt.toNat) n := by
      have e1 : pl.toInt.toNat = n := by omega
      unfold pAt
      rw [if_pos (by omega), e1]
    have q3 : (pl + -1).toInt = (n : Int) - 1 := tw_dec1 hp (by have := hR.2.2; have := hR.1; have := hR.2.1; omega)
    obtain ⟨p1, p2, p3⟩ := RowI_put (t := M (25 + m.toInt.toNat) n) (p := p) hR (by omega) (by decide)
    obtain ⟨r1, r2, r3⟩ := id hR
    have q1 : DI (putC 71 M (M (25 + m.toInt.toNat) n) p) := hD
    have q2 : ((putC 71 M (M (25 + m.toInt.toNat) n) p) 71 5).toInt + (n : Int) ≤ 246 := by rw [p2, p3]; omega
    have q0 : (putC 71 M (M (25 + m.toInt.toNat) n) p) (25 + m.toInt.toNat) = M (25 + m.toInt.toNat) := putC_out _ _ _ (by have := hD.2.2.1; omega)
    have q4 : (n : Int) ≤ ((putC 71 M (M (25 + m.toInt.toNat) n) p) 65 m.toInt.toNat).toInt := by show (n : Int) ≤ (M 65 m.toInt.toNat).toInt; omega
    have zm1 := tw_ti_m1
    have z0 := tw_ti_0
    have z1 := tw_ti_1
    refine tw_iload (pc := 9) rfl rfl ?_
    refine tw_if_lt (pc := 11) (tgt := 32) rfl rfl (fun c1 => absurd c1 (by omega)) (fun c1 => ?_)
    refine tw_aload_n (pc := 14) rfl rfl ?_
    refine tw_aload_n (pc := 15) rfl rfl ?_
    refine tw_iload_n (pc := 16) rfl rfl ?_
    refine tw_iload (pc := 17) rfl rfl ?_
    refine tw_inv2 (pc := 19) rfl lk_RW_48 (Nat.le_of_ble_eq_true rfl) rfl rfl (sp_DM_partAt hD ev ?_)
    refine tw_iload_n (pc := 22) rfl rfl ?_
    refine tw_inv2 (pc := 23) rfl lk_RW_42 (Nat.le_of_ble_eq_true rfl) rfl rfl (sp_RW_putFirst_71 hR (by omega) ?_)
    refine tw_iincF (pc := 26) rfl rfl tw_ic_m1 (Nat.le_of_ble_eq_true rfl) ⟨by omega, by omega⟩ (fun e4 => ?_)
    refine tw_goto (pc := 29) (tgt := 9) rfl rfl ?_
    exact ih _ _ q1 p1 q2 q3 hm q4 (by rw [q0]; exact h)
theorem lp_RW_beginWithAims_71 {d : Nat} {Q : tw_P} : ∀ (n : Nat) (M : tw_M) (pl : Int32), DI M → RowI 71 M → (M 71 5).toInt + n ≤ 246 → pl.toInt = (n : Int) - 1 → (n : Int) ≤ (M 1 16).toInt → Q none (putAll 71 (-1) M (dl (M 66) n)) → tw_T none (d + 2) j_RW_beginWithAims M 13 [some (.inr 71), some (.inr 1), some (.inl pl)] [] Q := by
  intro n
  induction n with
  | zero =>
    intro M pl hD hR hc hp hn h
    have zm1 := tw_ti_m1
    have z0 := tw_ti_0
    have z1 := tw_ti_1
    refine tw_iload_n (pc := 13) rfl rfl ?_
    refine tw_if_lt (pc := 14) (tgt := 33) rfl rfl (fun c1 => ?_) (fun c1 => absurd c1 (by omega))
    refine tw_return (pc := 33) rfl trivial ?_
    exact h
  | succ n ih =>
    intro M pl hD hR hc hp hn h
    have ev : aAt M pl = M 66 n := by
      have e1 : pl.toInt.toNat = n := by omega
      unfold aAt
      rw [if_pos (by omega), e1]
    have q3 : (pl + -1).toInt = (n : Int) - 1 := tw_dec1 hp (by have := hR.2.2; have := hR.1; have := hR.2.1; omega)
    obtain ⟨p1, p2, p3⟩ := RowI_put (t := M 66 n) (p := (-1)) hR (by omega) (by decide)
    obtain ⟨r1, r2, r3⟩ := id hR
    have q1 : DI (putC 71 M (M 66 n) (-1)) := hD
    have q2 : ((putC 71 M (M 66 n) (-1)) 71 5).toInt + (n : Int) ≤ 246 := by rw [p2, p3]; omega
    have q4 : (n : Int) ≤ ((putC 71 M (M 66 n) (-1)) 1 16).toInt := by show (n : Int) ≤ (M 1 16).toInt; omega
    have zm1 := tw_ti_m1
    have z0 := tw_ti_0
    have z1 := tw_ti_1
    refine tw_iload_n (pc := 13) rfl rfl ?_
    refine tw_if_lt (pc := 14) (tgt := 33) rfl rfl (fun c1 => absurd c1 (by omega)) (fun c1 => ?_)
    refine tw_aload_n (pc := 17) rfl rfl ?_
    refine tw_aload_n (pc := 18) rfl rfl ?_
    refine tw_iload_n (pc := 19) rfl rfl ?_
    refine tw_inv1 (pc := 20) rfl lk_RW_38 (Nat.le_of_ble_eq_true rfl) rfl rfl (sp_DM_aimAt hD ev ?_)
    refine tw_iconst (pc := 23) rfl tw_ic_m1 ?_
    refine tw_inv2 (pc := 24) rfl lk_RW_42 (Nat.le_of_ble_eq_true rfl) rfl rfl (sp_RW_putFirst_71 hR (by omega) ?_)
    refine tw_iincF (pc := 27) rfl rfl tw_ic_m1 (Nat.le_of_ble_eq_true rfl) ⟨by omega, by omega⟩ (fun e4 => ?_)
    refine tw_goto (pc := 30) (tgt := 13) rfl rfl ?_
    exact ih _ _ q1 p1 q2 q3 q4 h
theorem lp_RW_putPartsFirst_83 {d : Nat} {Q : tw_P} {m p : Int32} : ∀ (n : Nat) (M : tw_M) (pl : Int32), DI M → RowI 83 M → (M 83 5).toInt + n ≤ 246 → pl.toInt = (n : Int) - 1 → (0 ≤ m.toInt ∧ m.toInt < (M 1 14).toInt) → (n : Int) ≤ (M 65 m.toInt.toNat).toInt → Q none (putAll 83 p M (dl (M (25 + m.toInt.toNat)) n)) → tw_T none (d + 2) j_RW_putPartsFirst M 9 [some (.inr 83), some (.inr 1), some (.inl m), some (.inl p), some (.inl pl)] [] Q := by
  intro n
  induction n with
  | zero =>
    intro M pl hD hR hc hp hm hn h
    have zm1 := tw_ti_m1
    have z0 := tw_ti_0
    have z1 := tw_ti_1
    refine tw_iload (pc := 9) rfl rfl ?_
    refine tw_if_lt (pc := 11) (tgt := 32) rfl rfl (fun c1 => ?_) (fun c1 => absurd c1 (by omega))
    refine tw_return (pc := 32) rfl trivial ?_
    exact h
  | succ n ih =>
    intro M pl hD hR hc hp hm hn h
    have ev : pAt M m pl = M (25 + m.toInt.toNat) n := by
      have e1 : pl.toInt.toNat = n := by omega
      unfold pAt
      rw [if_pos (by omega), e1]
    have q3 : (pl + -1).toInt = (n : Int) - 1 := tw_dec1 hp (by have := hR.2.2; have := hR.1; have := hR.2.1; omega)
    obtain ⟨p1, p2, p3⟩ := RowI_put (t := M (25 + m.toInt.toNat) n) (p := p) hR (by omega) (by decide)
    obtain ⟨r1, r2, r3⟩ := id hR
    have q1 : DI (putC 83 M (M (25 + m.toInt.toNat) n) p) := hD
    have q2 : ((putC 83 M (M (25 + m.toInt.toNat) n) p) 83 5).toInt + (n : Int) ≤ 246 := by rw [p2, p3]; omega
    have q0 : (putC 83 M (M (25 + m.toInt.toNat) n) p) (25 + m.toInt.toNat) = M (25 + m.toInt.toNat) := putC_out _ _ _ (by have := hD.2.2.1; omega)
    have q4 : (n : Int) ≤ ((putC 83 M (M (25 + m.toInt.toNat) n) p) 65 m.toInt.toNat).toInt := by show (n : Int) ≤ (M 65 m.toInt.toNat).toInt; omega
    have zm1 := tw_ti_m1
    have z0 := tw_ti_0
    have z1 := tw_ti_1
    refine tw_iload (pc := 9) rfl rfl ?_
    refine tw_if_lt (pc := 11) (tgt := 32) rfl rfl (fun c1 => absurd c1 (by omega)) (fun c1 => ?_)
    refine tw_aload_n (pc := 14) rfl rfl ?_
    refine tw_aload_n (pc := 15) rfl rfl ?_
    refine tw_iload_n (pc := 16) rfl rfl ?_
    refine tw_iload (pc := 17) rfl rfl ?_
    refine tw_inv2 (pc := 19) rfl lk_RW_48 (Nat.le_of_ble_eq_true rfl) rfl rfl (sp_DM_partAt hD ev ?_)
    refine tw_iload_n (pc := 22) rfl rfl ?_
    refine tw_inv2 (pc := 23) rfl lk_RW_42 (Nat.le_of_ble_eq_true rfl) rfl rfl (sp_RW_putFirst_83 hR (by omega) ?_)
    refine tw_iincF (pc := 26) rfl rfl tw_ic_m1 (Nat.le_of_ble_eq_true rfl) ⟨by omega, by omega⟩ (fun e4 => ?_)
    refine tw_goto (pc := 29) (tgt := 9) rfl rfl ?_
    exact ih _ _ q1 p1 q2 q3 hm q4 (by rw [q0]; exact h)
theorem lp_RW_beginWithAims_83 {d : Nat} {Q : tw_P} : ∀ (n : Nat) (M : tw_M) (pl : Int32), DI M → RowI 83 M → (M 83 5).toInt + n ≤ 246 → pl.toInt = (n : Int) - 1 → (n : Int) ≤ (M 1 16).toInt → Q none (putAll 83 (-1) M (dl (M 66) n)) → tw_T none (d + 2) j_RW_beginWithAims M 13 [some (.inr 83), some (.inr 1), some (.inl pl)] [] Q := by
  intro n
  induction n with
  | zero =>
    intro M pl hD hR hc hp hn h
    have zm1 := tw_ti_m1
    have z0 := tw_ti_0
    have z1 := tw_ti_1
    refine tw_iload_n (pc := 13) rfl rfl ?_
    refine tw_if_lt (pc := 14) (tgt := 33) rfl rfl (fun c1 => ?_) (fun c1 => absurd c1 (by omega))
    refine tw_return (pc := 33) rfl trivial ?_
    exact h
  | succ n ih =>
    intro M pl hD hR hc hp hn h
    have ev : aAt M pl = M 66 n := by
      have e1 : pl.toInt.toNat = n := by omega
      unfold aAt
      rw [if_pos (by omega), e1]
    have q3 : (pl + -1).toInt = (n : Int) - 1 := tw_dec1 hp (by have := hR.2.2; have := hR.1; have := hR.2.1; omega)
    obtain ⟨p1, p2, p3⟩ := RowI_put (t := M 66 n) (p := (-1)) hR (by omega) (by decide)
    obtain ⟨r1, r2, r3⟩ := id hR
    have q1 : DI (putC 83 M (M 66 n) (-1)) := hD
    have q2 : ((putC 83 M (M 66 n) (-1)) 83 5).toInt + (n : Int) ≤ 246 := by rw [p2, p3]; omega
    have q4 : (n : Int) ≤ ((putC 83 M (M 66 n) (-1)) 1 16).toInt := by show (n : Int) ≤ (M 1 16).toInt; omega
    have zm1 := tw_ti_m1
    have z0 := tw_ti_0
    have z1 := tw_ti_1
    refine tw_iload_n (pc := 13) rfl rfl ?_
    refine tw_if_lt (pc := 14) (tgt := 33) rfl rfl (fun c1 => absurd c1 (by omega)) (fun c1 => ?_)
    refine tw_aload_n (pc := 17) rfl rfl ?_
    refine tw_aload_n (pc := 18) rfl rfl ?_
    refine tw_iload_n (pc := 19) rfl rfl ?_
    refine tw_inv1 (pc := 20) rfl lk_RW_38 (Nat.le_of_ble_eq_true rfl) rfl rfl (sp_DM_aimAt hD ev ?_)
    refine tw_iconst (pc := 23) rfl tw_ic_m1 ?_
    refine tw_inv2 (pc := 24) rfl lk_RW_42 (Nat.le_of_ble_eq_true rfl) rfl rfl (sp_RW_putFirst_83 hR (by omega) ?_)
    refine tw_iincF (pc := 27) rfl rfl tw_ic_m1 (Nat.le_of_ble_eq_true rfl) ⟨by omega, by omega⟩ (fun e4 => ?_)
    refine tw_goto (pc := 30) (tgt := 13) rfl rfl ?_
    exact ih _ _ q1 p1 q2 q3 q4 h
