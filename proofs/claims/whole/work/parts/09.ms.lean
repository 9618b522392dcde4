theorem GoR_RowI {M N : tw_M} (h : GoR M N) : RowI 71 M := by
  obtain ⟨-, n, o, h2, h3, h4, h5, h6, h7⟩ := h
  refine ⟨h7.1, h7.2.1, ?_⟩
  have ho : o ≤ 48 := by
    rcases h4 with ⟨_, q⟩ | ⟨_, q, _⟩
    · omega
    · omega
  omega
theorem GoR_n {M N : tw_M} (h : GoR M N) : 0 ≤ (M 70 8).toInt ∧ (M 70 8).toInt ≤ 48 := by
  obtain ⟨-, n, o, h2, h3, -⟩ := h
  omega
theorem GoR_open {M N : tw_M} (h : GoR M N) (h9 : M 70 9 = 1) : 1 ≤ (M 70 8).toInt ∧ (M 71 5).toInt + 5 ≤ 246 := by
  obtain ⟨-, n, o, h2, h3, h4, h5, h6, h7⟩ := h
  rcases h4 with ⟨q, _⟩ | ⟨_, q, _⟩
  · rw [h9] at q; exact absurd q (by decide)
  · omega
theorem RI_of {A M : tw_M} (h : DR A M) : RI M := by
  obtain ⟨hI, ⟨e1, e2, e3, e4, e5⟩, ⟨k2, k3, k4, k5, k6, k20, k21, k22, k23, k65, k66⟩, -⟩ := h
  unfold RI
  rw [← e1, ← e2, ← e3, ← e4, ← k20, ← k65]
  exact hI
theorem kept_task {A M : tw_M} (hD : DR A M) (h : GoR A M) : ∀ i : Nat, (i : Int) < (M 88 28).toInt → ¬ M 108 i = 0 → 16 ≤ (M 105 i).toInt ∧ (M 105 i).toInt < 28 := by
  obtain ⟨⟨e9, e11, e10, e4, e5, e8, e21, e22⟩, n, o, h2, h3, h4, h5, h6, h7⟩ := h
  intro i hi hk
  rw [← e8, h2] at hi
  have hI8 := hD.1.2.1
  have hI5 := hD.1.1
  by_cases hio : i < o
  · obtain ⟨⟨f1, -⟩, ht, -⟩ := h5.1 i (by omega)
    have hki := h6 i hio
    unfold KeptR at hki
    rw [← f1]
    by_cases hc : (A 76 i).toInt < 16
    · rw [if_pos hc] at hki; exact absurd hki hk
    · rcases ht with q | q
      · omega
      · omega
  · rcases h4 with ⟨_, q⟩ | ⟨_, q, _, q2⟩
    · omega
    · have : i = o := by omega
      subst this
      exact absurd q2 hk
theorem ref_take {A M : tw_M} (hD : DR A M) (h : GoR A M) (hne : ¬ M 88 26 = -1) : (0 ≤ (M 88 28).toInt ∧ (M 88 28).toInt ≤ 48) ∧ (0 ≤ (M 88 26).toInt ∧ (M 88 26).toInt < 246) ∧ ((0 ≤ (M 102 (M 88 26).toInt.toNat).toInt ∧ (M 102 (M 88 26).toInt.toNat).toInt < 12) ∨ (16 ≤ (M 102 (M 88 26).toInt.toNat).toInt ∧ (M 102 (M 88 26).toInt.toNat).toInt < 28)) := by
  have hr := GoR_RowI h
  have hn := GoR_n h
  obtain ⟨r1, r2, r3, r4, r5⟩ := GoR_row h
  have e8 := h.1.2.2.2.2.2.1
  have zm : (-1 : Int32).toInt = -1 := by decide
  have q := tw_ne hne
  have hI8 := hD.1.2.1
  have hI5 := hD.1.1
  rw [← r1] at hne q ⊢
  rw [← e8]
  obtain ⟨⟨c1, -⟩, c4, -⟩ := r3 (A 71 4).toInt.toNat (by omega)
  have h3 := hr.2.2
  refine ⟨hn, by omega, ?_⟩
  rw [← c1]
  rcases c4 with q | q
  · exact Or.inl (by omega)
  · exact Or.inr (by omega)
theorem ref_try {A M : tw_M} (hD : DR A M) (h : GoR A M) (h9 : M 88 23 = 1) : ∃ v : Nat, (M 88 28).toInt = (v : Int) + 1 ∧ v < 48 ∧ (16 ≤ (M 105 v).toInt ∧ (M 105 v).toInt < 28) ∧ (0 ≤ (M 107 v).toInt ∧ (M 107 v).toInt < 5) ∧ (0 ≤ (ownR M v).toInt ∧ (ownR M v).toInt < 40) ∧ (0 ≤ (M 88 27).toInt ∧ (M 88 27).toInt ≤ 241) := by
  have hrI := GoR_RowI h
  obtain ⟨⟨e9, e11, e10, e4, e5, e8, e21, e22⟩, n, o, h2, h3, h4, h5, h6, h7⟩ := h
  have z5 : (5 : Int32).toInt = 5 := by decide
  have z16 : (16 : Int32).toInt = 16 := by decide
  obtain ⟨q1, q2, q3⟩ : n = o + 1 ∧ 16 ≤ (A 76 o).toInt ∧ M 108 o = 0 := by
    rcases h4 with ⟨q, _⟩ | ⟨_, q⟩
    · rw [e9, h9] at q; exact absurd q (by decide)
    · exact q
  subst q1
  obtain ⟨⟨f1, f2, f3, f4, f5, f6⟩, ht, hp, hx⟩ := h5.1 o (by omega)
  have hpp := hp q2
  have hI := hD.1
  have hI8 := hI.2.1
  have hI5 := hI.1
  have hci : 16 ≤ (A 76 o).toInt ∧ (A 76 o).toInt < 16 + (A 1 8).toInt := by
    rcases ht with q | q
    · omega
    · exact q
  have es : (A 76 o - 16).toInt = (A 76 o).toInt - 16 := by rw [tw_subI (by omega), z16]
  have hmc := hI.2.2.2.2.1 (A 76 o - 16).toInt.toNat (by omega)
  have hmr := hD.2.2.2.2.2.2.2.1 (A 76 o - 16).toInt.toNat (A 78 o).toInt.toNat (by omega) (by omega)
  have hI14 := hI.2.2.1
  have a1 : ((5 : Int32) * (A 76 o - 16)).toInt = 5 * (A 76 o - 16).toInt := by rw [tw_mulI (by rw [z5]; omega), z5]
  have a2 : ((5 : Int32) * (A 76 o - 16) + A 78 o).toInt = 5 * (A 76 o - 16).toInt + (A 78 o).toInt := by rw [tw_addI (by omega), a1]
  have eown : ownR M o = A (8 + (A 76 o - 16).toInt.toNat) (A 78 o).toInt.toNat := by
    unfold ownR
    rw [← f1, ← f3, hD.2.2.2.1 (A 76 o - 16).toInt.toNat (A 78 o).toInt.toNat (by omega) (by omega)]
    congr 1
    omega
  refine ⟨o, ?_, by omega, ?_, ?_, ?_, ?_⟩
  · rw [← e8, h2]; rfl
  · rw [← f1]; omega
  · rw [← f3]; omega
  · rw [eown]; omega
  · rw [← e5]; omega
def ansR (N : tw_M) : Int32 := if N 88 22 = 0 then (if ¬ N 88 21 = 0 ∧ N 88 22 = 0 ∧ N 88 23 = 0 ∧ N 88 26 = -1 then 0 else 2) else 1
def begC (M : tw_M) : tw_M := if M 70 12 = -1 then beginC 71 (tw_set (tw_set M 70 12 2) 70 10 (M 1 17)) else M
def rejC (M : tw_M) : tw_M := if M 70 12 = 0 then failC (tw_set M 70 12 2) (M 70 8).toInt.toNat else M
theorem sp_SE_beginIfNone {d : Nat} {M : tw_M} {Q : tw_P} (hD : DI M) (h : Q none (begC M)) : tw_C (d + 4) j_SE_beginIfNone [.inr 70] M Q := by
  have hD1 : DI (tw_set (tw_set M 70 12 2) 70 10 (M 1 17)) := hD
  refine tw_enter pn_SE dc_SE_beginIfNone (Nat.le_of_ble_eq_true rfl) ?_
  have zm1 := tw_ti_m1
  have z2 := tw_ti_2
  refine tw_aload_n (pc := 0) rfl rfl ?_
  refine tw_getV (pc := 1) (v := (M 70 12)) rfl fl_SE_37 rfl rfl rfl ?_
  refine tw_iconst (pc := 4) rfl tw_ic_m1 ?_
  refine tw_icmp_ne (pc := 5) (tgt := 35) rfl rfl (fun c1 => ?_) (fun c1 => ?_)
  · refine tw_return (pc := 35) rfl trivial ?_
    unfold begC at h
    first | (rw [if_pos c1.1] at h; exact h) | (rw [if_neg c1.1] at h; exact h)
  · refine tw_aload_n (pc := 8) rfl rfl ?_
    refine tw_iconst (pc := 9) rfl tw_ic_2 ?_
    refine tw_putI (pc := 10) rfl fp_SE_37 rfl rfl rfl rfl ?_
    refine tw_aload_n (pc := 13) rfl rfl ?_
    refine tw_aload_n (pc := 14) rfl rfl ?_
    refine tw_getR (pc := 15) rfl fl_SE_41 rfl rfl ?_
    refine tw_inv0 (pc := 18) rfl lk_SE_51 (Nat.le_of_ble_eq_true rfl) rfl rfl (sp_DM_startFacts ?_)
    refine tw_putI (pc := 21) rfl fp_SE_57 rfl rfl rfl rfl ?_
    refine tw_aload_n (pc := 24) rfl rfl ?_
    refine tw_getR (pc := 25) rfl fl_SE_12 rfl rfl ?_
    refine tw_aload_n (pc := 28) rfl rfl ?_
    refine tw_getR (pc := 29) rfl fl_SE_41 rfl rfl ?_
    refine tw_inv1 (pc := 32) rfl lk_SE_60 (Nat.le_of_ble_eq_true rfl) rfl rfl (sp_RW_beginWithAims_71 hD1 ?_)
    refine tw_return (pc := 35) rfl trivial ?_
    unfold begC at h
    first | (rw [if_pos c1.1] at h; exact h) | (rw [if_neg c1.1] at h; exact h)
theorem sp_SE_rejectPlan {d : Nat} {M : tw_M} {Q : tw_P} (hD : DI M) (hn : 0 ≤ (M 70 8).toInt ∧ (M 70 8).toInt ≤ 48) (h : Q none (rejC M)) : tw_C (d + 5) j_SE_rejectPlan [.inr 70] M Q := by
  have hD1 : DI (tw_set M 70 12 2) := hD
  refine tw_enter pn_SE dc_SE_rejectPlan (Nat.le_of_ble_eq_true rfl) ?_
  have z0 := tw_ti_0
  have z2 := tw_ti_2
  refine tw_aload_n (pc := 0) rfl rfl ?_
  refine tw_getV (pc := 1) (v := (M 70 12)) rfl fl_SE_37 rfl rfl rfl ?_
  refine tw_if_ne (pc := 4) (tgt := 16) rfl rfl (fun c1 => ?_) (fun c1 => ?_)
  · refine tw_return (pc := 16) rfl trivial ?_
    unfold rejC at h
    first | (rw [if_pos c1.1] at h; exact h) | (rw [if_neg c1.1] at h; exact h)
  · refine tw_aload_n (pc := 7) rfl rfl ?_
    refine tw_iconst (pc := 8) rfl tw_ic_2 ?_
    refine tw_putI (pc := 9) rfl fp_SE_37 rfl rfl rfl rfl ?_
    refine tw_aload_n (pc := 12) rfl rfl ?_
    refine tw_inv0 (pc := 13) rfl lk_SE_81 (Nat.le_of_ble_eq_true rfl) rfl rfl (sp_SE_fail hD1 hn ?_)
    refine tw_return (pc := 16) rfl trivial ?_
    unfold rejC at h
    first | (rw [if_pos c1.1] at h; exact h) | (rw [if_neg c1.1] at h; exact h)
theorem lp_SE_goOn {d : Nat} {Q : tw_P} {fu : Int32} (hf : fu.toInt ≤ 5000) : ∀ (n : Nat) (M N : tw_M) (mk : Int32), DR M N → StR M N → (0 ≤ mk.toInt ∧ fu.toInt = mk.toInt + (n : Int)) → Q (some (itC n M 70 12)) (itC n M) → tw_T none (d + 5) j_SE_goOn M 6 [some (.inr 70), some (.inl fu), some (.inl mk)] [] Q := by
  intro n
  induction n with
  | zero =>
    intro M N mk hD hS hm h
    have z0 := tw_ti_0
    have z1 := tw_ti_1
    have z2 := tw_ti_2
    refine tw_iload_n (pc := 6) rfl rfl ?_
    refine tw_iload_n (pc := 7) rfl rfl ?_
    refine tw_icmp_ge (pc := 8) (tgt := 63) rfl rfl (fun c1 => ?_) (fun c1 => absurd c1 (by omega))
    refine tw_aload_n (pc := 63) rfl rfl ?_
    refine tw_getV (pc := 64) (v := (M 70 12)) rfl fl_SE_37 rfl rfl rfl ?_
    refine tw_ireturn (pc := 67) rfl rfl ?_
    exact h
  | succ n ih =>
    intro M N mk hD hS hm h
    by_cases h2 : M 70 12 = 2
    · have e : itC (n + 1) M = itC n (stepC M) := by simp only [itC]; exact if_pos h2
      rw [e] at h
      obtain ⟨hG, hnf⟩ : GoR M N ∧ ¬ (M 70 9 = 0 ∧ M 71 4 = -1) := by
        rcases hS with ⟨_, g, f⟩ | ⟨a, _⟩ | g
        · exact ⟨g, f⟩
        · rw [a] at h2; exact absurd h2 (by decide)
        · rw [g.1] at h2; exact absurd h2 (by decide)
      have hDI : DI (tw_set M 70 11 (M 70 11 + 1)) := hD.1
      have hRI0 := GoR_RowI hG
      have hRI : RowI 71 (tw_set M 70 11 (M 70 11 + 1)) := hRI0
      have hn2 := GoR_n hG
      have hnn : 0 ≤ ((tw_set M 70 11 (M 70 11 + 1)) 70 8).toInt ∧ ((tw_set M 70 11 (M 70 11 + 1)) 70 8).toInt ≤ 48 := hn2
      have hG1 := GoR_inc hG
      have hD1 : DR (tw_set M 70 11 (M 70 11 + 1)) (tw_set N 88 24 (N 88 24 + 1)) := DR_congr hD ⟨fun q hq => tw_set_q _ _ (by omega), fun q h1 h2 => tw_set_q _ _ (by omega), fun k hk => tw_set_k _ _ (by omega)⟩
      have hst := step_R hD hG h2 hnf
      have hdr := DR_step hD
      rcases open_R hG with h9 | h9
      · have hne : ¬ M 71 4 = -1 := fun q => hnf ⟨h9, q⟩
        have es : stepC M = seeC (takeC (tw_set M 70 11 (M 70 11 + 1))) := if_pos h9
        have hR2 : takeC (tw_set M 70 11 (M 70 11 + 1)) 70 12 = 2 → takeC (tw_set M 70 11 (M 70 11 + 1)) 70 9 = 0 → RowI 71 (takeC (tw_set M 70 11 (M 70 11 + 1))) := by
          intro q _
          rcases take_R hD1 hG1 h9 hne with g | g
          · rw [g.1] at q; exact absurd q (by decide)
          · exact GoR_RowI g.1
        clear hG1 hD1
        have z0 := tw_ti_0
        have z1 := tw_ti_1
        have z2 := tw_ti_2
        refine tw_iload_n (pc := 6) rfl rfl ?_
        refine tw_iload_n (pc := 7) rfl rfl ?_
        refine tw_icmp_ge (pc := 8) (tgt := 63) rfl rfl (fun c1 => absurd c1 (by omega)) (fun c1 => ?_)
        refine tw_aload_n (pc := 11) rfl rfl ?_
        refine tw_getV (pc := 12) (v := (M 70 12)) rfl fl_SE_37 rfl rfl rfl ?_
        refine tw_iconst (pc := 15) rfl tw_ic_2 ?_
        refine tw_icmp_ne (pc := 16) (tgt := 63) rfl rfl (fun c2 => absurd h2 c2.1) (fun c2 => ?_)
        refine tw_aload_n (pc := 19) rfl rfl ?_
        refine tw_dup (pc := 20) rfl ?_
        refine tw_getV (pc := 21) (v := (M 70 11)) rfl fl_SE_45 rfl rfl rfl ?_
        refine tw_iconst (pc := 24) rfl tw_ic_1 ?_
        refine tw_iadd (pc := 25) rfl ?_
        refine tw_putI (pc := 26) rfl fp_SE_45 rfl rfl rfl rfl ?_
        refine tw_aload_n (pc := 29) rfl rfl ?_
        refine tw_getV (pc := 30) (v := (M 70 9)) rfl fl_SE_67 rfl rfl rfl ?_
        refine tw_if_eq (pc := 33) (tgt := 49) rfl rfl (fun c3 => ?_) (fun c3 => absurd h9 c3.1)
        refine tw_aload_n (pc := 49) rfl rfl ?_
        refine tw_inv0 (pc := 50) rfl lk_SE_78 (Nat.le_of_ble_eq_true rfl) rfl rfl (sp_SE_takeTask hDI hRI hne hnn ?_)
        refine tw_aload_n (pc := 53) rfl rfl ?_
        refine tw_inv0 (pc := 54) rfl lk_SE_64 (Nat.le_of_ble_eq_true rfl) rfl rfl (sp_SE_seeWhetherFound hR2 ?_)
        refine tw_iincF (pc := 57) rfl rfl tw_ic_1 (Nat.le_of_ble_eq_true rfl) ⟨by omega, by omega⟩ (fun e6 => ?_)
        refine tw_goto (pc := 60) (tgt := 6) rfl rfl ?_
        rw [← es]
        exact ih (stepC M) (stepR N) _ hdr hst ⟨by omega, by omega⟩ h
      · have hn0 : ¬ M 70 9 = 0 := by rw [h9]; decide
        have ho := GoR_open hG h9
        have es : stepC M = seeC (tryC (tw_set M 70 11 (M 70 11 + 1)) (M 70 8 - 1)) := if_neg hn0
        have hcap : ((tw_set M 70 11 (M 70 11 + 1)) 71 5).toInt + 5 ≤ 246 := ho.2
        have hR2 : tryC (tw_set M 70 11 (M 70 11 + 1)) (M 70 8 - 1) 70 12 = 2 → tryC (tw_set M 70 11 (M 70 11 + 1)) (M 70 8 - 1) 70 9 = 0 → RowI 71 (tryC (tw_set M 70 11 (M 70 11 + 1)) (M 70 8 - 1)) := by
          intro q _
          rcases try_R hD1 hG1 h9 with g | g
          · have g1 : tryC (tw_set M 70 11 (M 70 11 + 1)) (M 70 8 - 1) 70 12 = 1 := g.1
            rw [g1] at q; exact absurd q (by decide)
          · exact GoR_RowI g.1
        clear hG1 hD1
        have z0 := tw_ti_0
        have z1 := tw_ti_1
        have z2 := tw_ti_2
        refine tw_iload_n (pc := 6) rfl rfl ?_
        refine tw_iload_n (pc := 7) rfl rfl ?_
        refine tw_icmp_ge (pc := 8) (tgt := 63) rfl rfl (fun c1 => absurd c1 (by omega)) (fun c1 => ?_)
        refine tw_aload_n (pc := 11) rfl rfl ?_
        refine tw_getV (pc := 12) (v := (M 70 12)) rfl fl_SE_37 rfl rfl rfl ?_
        refine tw_iconst (pc := 15) rfl tw_ic_2 ?_
        refine tw_icmp_ne (pc := 16) (tgt := 63) rfl rfl (fun c2 => absurd h2 c2.1) (fun c2 => ?_)
        refine tw_aload_n (pc := 19) rfl rfl ?_
        refine tw_dup (pc := 20) rfl ?_
        refine tw_getV (pc := 21) (v := (M 70 11)) rfl fl_SE_45 rfl rfl rfl ?_
        refine tw_iconst (pc := 24) rfl tw_ic_1 ?_
        refine tw_iadd (pc := 25) rfl ?_
        refine tw_putI (pc := 26) rfl fp_SE_45 rfl rfl rfl rfl ?_
        refine tw_aload_n (pc := 29) rfl rfl ?_
        refine tw_getV (pc := 30) (v := (M 70 9)) rfl fl_SE_67 rfl rfl rfl ?_
        refine tw_if_eq (pc := 33) (tgt := 49) rfl rfl (fun c3 => absurd c3.1 hn0) (fun c3 => ?_)
        refine tw_aload_n (pc := 36) rfl rfl ?_
        refine tw_aload_n (pc := 37) rfl rfl ?_
        refine tw_getV (pc := 38) (v := (M 70 8)) rfl fl_SE_71 rfl rfl rfl ?_
        refine tw_iconst (pc := 41) rfl tw_ic_1 ?_
        refine tw_isubF (pc := 42) rfl ⟨by omega, by omega⟩ (fun e4 => ?_)
        refine tw_inv1 (pc := 43) rfl lk_SE_74 (Nat.le_of_ble_eq_true rfl) rfl rfl (sp_SE_tryMethod hDI hRI (by omega) hnn hcap ?_)
        refine tw_goto (pc := 46) (tgt := 53) rfl rfl ?_
        refine tw_aload_n (pc := 53) rfl rfl ?_
        refine tw_inv0 (pc := 54) rfl lk_SE_64 (Nat.le_of_ble_eq_true rfl) rfl rfl (sp_SE_seeWhetherFound hR2 ?_)
        refine tw_iincF (pc := 57) rfl rfl tw_ic_1 (Nat.le_of_ble_eq_true rfl) ⟨by omega, by omega⟩ (fun e7 => ?_)
        refine tw_goto (pc := 60) (tgt := 6) rfl rfl ?_
        rw [← es]
        exact ih (stepC M) (stepR N) _ hdr hst ⟨by omega, by omega⟩ h
    · have e : itC (n + 1) M = M := by simp only [itC]; exact if_neg h2
      rw [e] at h
      have z0 := tw_ti_0
      have z1 := tw_ti_1
      have z2 := tw_ti_2
      refine tw_iload_n (pc := 6) rfl rfl ?_
      refine tw_iload_n (pc := 7) rfl rfl ?_
      refine tw_icmp_ge (pc := 8) (tgt := 63) rfl rfl (fun c1 => absurd c1 (by omega)) (fun c1 => ?_)
      refine tw_aload_n (pc := 11) rfl rfl ?_
      refine tw_getV (pc := 12) (v := (M 70 12)) rfl fl_SE_37 rfl rfl rfl ?_
      refine tw_iconst (pc := 15) rfl tw_ic_2 ?_
      refine tw_icmp_ne (pc := 16) (tgt := 63) rfl rfl (fun c2 => ?_) (fun c2 => absurd c2.1 h2)
      refine tw_aload_n (pc := 63) rfl rfl ?_
      refine tw_getV (pc := 64) (v := (M 70 12)) rfl fl_SE_37 rfl rfl rfl ?_
      refine tw_ireturn (pc := 67) rfl rfl ?_
      exact h
theorem sp_SE_goOn {d : Nat} {M : tw_M} {Q : tw_P} {fu : Int32} {N : tw_M} (hf : 0 ≤ fu.toInt ∧ fu.toInt ≤ 5000) (hD : DR (seeC M) N) (hS : StR (seeC M) N) (hR : M 70 12 = 2 → M 70 9 = 0 → RowI 71 M) (h : Q (some (itC fu.toInt.toNat (seeC M) 70 12)) (itC fu.toInt.toNat (seeC M))) : tw_C (d + 6) j_SE_goOn [.inr 70, .inl fu] M Q := by
  refine tw_enter pn_SE dc_SE_goOn (Nat.le_of_ble_eq_true rfl) ?_
  have z0 := tw_ti_0
  have z1 := tw_ti_1
  have z2 := tw_ti_2
  refine tw_aload_n (pc := 0) rfl rfl ?_
  refine tw_inv0 (pc := 1) rfl lk_SE_64 (Nat.le_of_ble_eq_true rfl) rfl rfl (sp_SE_seeWhetherFound hR ?_)
  refine tw_iconst (pc := 4) rfl tw_ic_0 ?_
  refine tw_istore_n (pc := 5) rfl (Nat.le_of_ble_eq_true rfl) ?_
  exact lp_SE_goOn hf.2 fu.toInt.toNat _ N _ hD hS (by omega) h
theorem sp_MD_before {d : Nat} {M : tw_M} {Q : tw_P} {c t p x : Int32} (hc : 0 ≤ c.toInt ∧ c.toInt < 500) (h : Q (some c) (tw_set (tw_set (tw_set M 102 c.toInt.toNat t) 103 c.toInt.toNat p) 104 c.toInt.toNat x)) : tw_C (d + 1) j_MD_before [.inr 88, .inl c, .inl t, .inl p, .inl x] M Q := by
  refine tw_enter pn_MD dc_MD_before (Nat.le_of_ble_eq_true rfl) ?_
  refine tw_aload_n (pc := 0) rfl rfl ?_
  refine tw_getR (pc := 1) rfl fl_MD_49 rfl rfl ?_
  refine tw_iload_n (pc := 4) rfl rfl ?_
  refine tw_iload_n (pc := 5) rfl rfl ?_
  refine tw_iast (pc := 6) rfl rfl ⟨by omega, by omega⟩ ?_
  refine tw_aload_n (pc := 7) rfl rfl ?_
  refine tw_getR (pc := 8) rfl fl_MD_52 rfl rfl ?_
  refine tw_iload_n (pc := 11) rfl rfl ?_
  refine tw_iload_n (pc := 12) rfl rfl ?_
  refine tw_iast (pc := 13) rfl rfl ⟨by omega, by omega⟩ ?_
  refine tw_aload_n (pc := 14) rfl rfl ?_
  refine tw_getR (pc := 15) rfl fl_MD_55 rfl rfl ?_
  refine tw_iload_n (pc := 18) rfl rfl ?_
  refine tw_iload (pc := 19) rfl rfl ?_
  refine tw_iast (pc := 21) rfl rfl ⟨by omega, by omega⟩ ?_
  refine tw_iload_n (pc := 22) rfl rfl ?_
  refine tw_ireturn (pc := 23) rfl rfl ?_
  exact h
theorem sp_MD_isFound {d : Nat} {M : tw_M} {Q : tw_P} (h1 : (¬ M 88 21 = 0 ∧ M 88 22 = 0 ∧ M 88 23 = 0 ∧ M 88 26 = -1) → Q (some 1) M) (h0 : ¬ (¬ M 88 21 = 0 ∧ M 88 22 = 0 ∧ M 88 23 = 0 ∧ M 88 26 = -1) → Q (some 0) M) : tw_C (d + 1) j_MD_isFound [.inr 88] M Q := by
  refine tw_enter pn_MD dc_MD_isFound (Nat.le_of_ble_eq_true rfl) ?_
  have zm1 := tw_ti_m1
  have z0 := tw_ti_0
  have z1 := tw_ti_1
  refine tw_aload_n (pc := 0) rfl rfl ?_
  refine tw_getV (pc := 1) (v := (M 88 21)) rfl fl_MD_107 rfl rfl rfl ?_
  refine tw_if_eq (pc := 4) (tgt := 33) rfl rfl (fun c1 => ?_) (fun c1 => ?_)
  · refine tw_iconst (pc := 33) rfl tw_ic_0 ?_
    refine tw_ireturn (pc := 34) rfl rfl ?_
    first | exact h0 (fun q => c4.1 q.2.2.2) | exact h0 (fun q => c3.1 q.2.2.1) | exact h0 (fun q => c2.1 q.2.1) | exact h0 (fun q => q.1 c1.1)
  · refine tw_aload_n (pc := 7) rfl rfl ?_
    refine tw_getV (pc := 8) (v := (M 88 22)) rfl fl_MD_149 rfl rfl rfl ?_
    refine tw_if_ne (pc := 11) (tgt := 33) rfl rfl (fun c2 => ?_) (fun c2 => ?_)
    · refine tw_iconst (pc := 33) rfl tw_ic_0 ?_
      refine tw_ireturn (pc := 34) rfl rfl ?_
      first | exact h0 (fun q => c4.1 q.2.2.2) | exact h0 (fun q => c3.1 q.2.2.1) | exact h0 (fun q => c2.1 q.2.1) | exact h0 (fun q => q.1 c1.1)
    · refine tw_aload_n (pc := 14) rfl rfl ?_
      refine tw_getV (pc := 15) (v := (M 88 23)) rfl fl_MD_152 rfl rfl rfl ?_
      refine tw_if_ne (pc := 18) (tgt := 33) rfl rfl (fun c3 => ?_) (fun c3 => ?_)
      · refine tw_iconst (pc := 33) rfl tw_ic_0 ?_
        refine tw_ireturn (pc := 34) rfl rfl ?_
        first | exact h0 (fun q => c4.1 q.2.2.2) | exact h0 (fun q => c3.1 q.2.2.1) | exact h0 (fun q => c2.1 q.2.1) | exact h0 (fun q => q.1 c1.1)
      · refine tw_aload_n (pc := 21) rfl rfl ?_
        refine tw_getV (pc := 22) (v := (M 88 26)) rfl fl_MD_167 rfl rfl rfl ?_
        refine tw_iconst (pc := 25) rfl tw_ic_m1 ?_
        refine tw_icmp_ne (pc := 26) (tgt := 33) rfl rfl (fun c4 => ?_) (fun c4 => ?_)
        · refine tw_iconst (pc := 33) rfl tw_ic_0 ?_
          refine tw_ireturn (pc := 34) rfl rfl ?_
          first | exact h0 (fun q => c4.1 q.2.2.2) | exact h0 (fun q => c3.1 q.2.2.1) | exact h0 (fun q => c2.1 q.2.1) | exact h0 (fun q => q.1 c1.1)
        · refine tw_iconst (pc := 29) rfl tw_ic_1 ?_
          refine tw_goto (pc := 30) (tgt := 34) rfl rfl ?_
          refine tw_ireturn (pc := 34) rfl rfl ?_
          exact h1 ⟨c1.1, c2.1, c3.1, c4.1⟩
theorem lp_MD_begin {d : Nat} {Q : tw_P} : ∀ (n : Nat) (M : tw_M) (pl : Int32), n ≤ 6 → (0 ≤ (M 88 27).toInt ∧ (M 88 27).toInt + (n : Int) ≤ 250) → pl.toInt = (n : Int) - 1 → Q none (putRs 26 (-1) M (dl (M 101) n)) → tw_T none (d + 1) j_MD_begin M 50 [some (.inr 88), some (.inl pl)] [] Q := by
  intro n
  induction n with
  | zero =>
    intro M pl h6 hc hp h
    have zm1 := tw_ti_m1
    have z0 := tw_ti_0
    have z1 := tw_ti_1
    refine tw_iload_n (pc := 50) rfl rfl ?_
    refine tw_if_lt (pc := 51) (tgt := 93) rfl rfl (fun c1 => ?_) (fun c1 => absurd c1 (by omega))
    refine tw_return (pc := 93) rfl trivial ?_
    exact h
  | succ n ih =>
    intro M pl h6 hc hp h
    have e1 : pl.toInt.toNat = n := by omega
    have q3 := tw_dec1 hp (by omega)
    have e27 : (M 88 27 + 1).toInt = (M 88 27).toInt + 1 := by rw [tw_addI (by rw [tw_ti_1]; omega), tw_ti_1]
    have q2 : 0 ≤ (M 88 27 + 1).toInt ∧ (M 88 27 + 1).toInt + (n : Int) ≤ 250 := by omega
    have zm1 := tw_ti_m1
    have z0 := tw_ti_0
    have z1 := tw_ti_1
    refine tw_iload_n (pc := 50) rfl rfl ?_
    refine tw_if_lt (pc := 51) (tgt := 93) rfl rfl (fun c1 => absurd c1 (by omega)) (fun c1 => ?_)
    refine tw_aload_n (pc := 54) rfl rfl ?_
    refine tw_aload_n (pc := 55) rfl rfl ?_
    refine tw_aload_n (pc := 56) rfl rfl ?_
    refine tw_getV (pc := 57) (v := (M 88 27)) rfl fl_MD_164 rfl rfl rfl ?_
    refine tw_aload_n (pc := 60) rfl rfl ?_
    refine tw_getR (pc := 61) rfl fl_MD_46 rfl rfl ?_
    refine tw_iload_n (pc := 64) rfl rfl ?_
    refine tw_ialdV (pc := 65) (v := (M 101 n)) rfl rfl ⟨by omega, by omega⟩ (by rw [e1]) ?_
    refine tw_iconst (pc := 66) rfl tw_ic_m1 ?_
    refine tw_aload_n (pc := 67) rfl rfl ?_
    refine tw_getV (pc := 68) (v := (M 88 26)) rfl fl_MD_167 rfl rfl rfl ?_
    refine tw_inv4 (pc := 71) rfl lk_MD_170 (Nat.le_of_ble_eq_true rfl) rfl rfl (sp_MD_before (by omega) ?_)
    refine tw_putI (pc := 74) rfl fp_MD_167 rfl rfl rfl rfl ?_
    refine tw_aload_n (pc := 77) rfl rfl ?_
    refine tw_dup (pc := 78) rfl ?_
    refine tw_getV (pc := 79) (v := (M 88 27)) rfl fl_MD_164 rfl rfl rfl ?_
    refine tw_iconst (pc := 82) rfl tw_ic_1 ?_
    refine tw_iadd (pc := 83) rfl ?_
    refine tw_putI (pc := 84) rfl fp_MD_164 rfl rfl rfl rfl ?_
    refine tw_iinc (pc := 87) rfl rfl tw_ic_m1 (Nat.le_of_ble_eq_true rfl) ?_
    refine tw_goto (pc := 90) (tgt := 50) rfl rfl ?_
    exact ih (putR 26 M (M 101 n) (-1)) _ (by omega) q2 q3 h
def begR (M : tw_M) : tw_M := putRs 26 (-1) (tw_set (tw_set (tw_set (tw_set (tw_set (tw_set (tw_set (tw_set M 88 21 1) 88 22 0) 88 23 0) 88 24 0) 88 25 (M 88 15)) 88 28 0) 88 27 0) 88 26 (-1)) (dl (M 101) (M 88 16).toInt.toNat)
theorem sp_MD_begin {d : Nat} {M : tw_M} {Q : tw_P} (ha : 0 ≤ (M 88 16).toInt ∧ (M 88 16).toInt ≤ 6) (h : Q none (begR M)) : tw_C (d + 2) j_MD_begin [.inr 88] M Q := by
  refine tw_enter pn_MD dc_MD_begin (Nat.le_of_ble_eq_true rfl) ?_
  have zm1 := tw_ti_m1
  have z0 := tw_ti_0
  have z1 := tw_ti_1
  refine tw_aload_n (pc := 0) rfl rfl ?_
  refine tw_iconst (pc := 1) rfl tw_ic_1 ?_
  refine tw_putI (pc := 2) rfl fp_MD_107 rfl rfl rfl rfl ?_
  refine tw_aload_n (pc := 5) rfl rfl ?_
  refine tw_iconst (pc := 6) rfl tw_ic_0 ?_
  refine tw_putI (pc := 7) rfl fp_MD_149 rfl rfl rfl rfl ?_
  refine tw_aload_n (pc := 10) rfl rfl ?_
  refine tw_iconst (pc := 11) rfl tw_ic_0 ?_
  refine tw_putI (pc := 12) rfl fp_MD_152 rfl rfl rfl rfl ?_
  refine tw_aload_n (pc := 15) rfl rfl ?_
  refine tw_iconst (pc := 16) rfl tw_ic_0 ?_
  refine tw_putI (pc := 17) rfl fp_MD_155 rfl rfl rfl rfl ?_
  refine tw_aload_n (pc := 20) rfl rfl ?_
  refine tw_aload_n (pc := 21) rfl rfl ?_
  refine tw_getV (pc := 22) (v := (M 88 15)) rfl fl_MD_126 rfl rfl rfl ?_
  refine tw_putI (pc := 25) rfl fp_MD_158 rfl rfl rfl rfl ?_
  refine tw_aload_n (pc := 28) rfl rfl ?_
  refine tw_iconst (pc := 29) rfl tw_ic_0 ?_
  refine tw_putI (pc := 30) rfl fp_MD_161 rfl rfl rfl rfl ?_
  refine tw_aload_n (pc := 33) rfl rfl ?_
  refine tw_iconst (pc := 34) rfl tw_ic_0 ?_
  refine tw_putI (pc := 35) rfl fp_MD_164 rfl rfl rfl rfl ?_
  refine tw_aload_n (pc := 38) rfl rfl ?_
  refine tw_iconst (pc := 39) rfl tw_ic_m1 ?_
  refine tw_putI (pc := 40) rfl fp_MD_167 rfl rfl rfl rfl ?_
  refine tw_aload_n (pc := 43) rfl rfl ?_
  refine tw_getV (pc := 44) (v := (M 88 16)) rfl fl_MD_129 rfl rfl rfl ?_
  refine tw_iconst (pc := 47) rfl tw_ic_1 ?_
  refine tw_isubF (pc := 48) rfl ⟨by omega, by omega⟩ (fun e1 => ?_)
  refine tw_istore_n (pc := 49) rfl (Nat.le_of_ble_eq_true rfl) ?_
  exact lp_MD_begin (M 88 16).toInt.toNat _ _ (by omega) ⟨by show 0 ≤ (0 : Int32).toInt; decide, by show (0 : Int32).toInt + _ ≤ 250; omega⟩ (by omega) h
theorem lp_MD_fail {d : Nat} {Q : tw_P} {M : tw_M} : ∀ (n : Nat) (nd : Int32), n ≤ 48 → nd.toInt = (n : Int) - 1 → (∀ i : Nat, (i : Int) < (n : Int) → ¬ M 108 i = 0 → 16 ≤ (M 105 i).toInt ∧ (M 105 i).toInt < 28) → Q none (failR M n) → tw_T none d j_MD_fail M 7 [some (.inr 88), some (.inl nd)] [] Q := by
  intro n
  induction n with
  | zero =>
    intro nd hn hd hk h
    have zm1 := tw_ti_m1
    have z0 := tw_ti_0
    have z1 := tw_ti_1
    have z16 := tw_ti_16
    refine tw_iload_n (pc := 7) rfl rfl ?_
    refine tw_if_lt (pc := 8) (tgt := 51) rfl rfl (fun c1 => ?_) (fun c1 => absurd c1 (by omega))
    refine tw_iload_n (pc := 51) rfl rfl ?_
    refine tw_if_ge (pc := 52) (tgt := 66) rfl rfl (fun c2 => absurd c2 (by omega)) (fun c2 => ?_)
    refine tw_aload_n (pc := 55) rfl rfl ?_
    refine tw_iconst (pc := 56) rfl tw_ic_1 ?_
    refine tw_putI (pc := 57) rfl fp_MD_149 rfl rfl rfl rfl ?_
    refine tw_aload_n (pc := 60) rfl rfl ?_
    refine tw_iconst (pc := 61) rfl tw_ic_0 ?_
    refine tw_putI (pc := 62) rfl fp_MD_161 rfl rfl rfl rfl ?_
    refine tw_return (pc := 65) rfl trivial ?_
    exact h
  | succ n ih =>
    intro nd hn hd hk h
    have end1 : nd.toInt.toNat = n := by omega
    have end2 : nd = Int32.ofNat n := tw_ofN (by omega) (by omega)
    have hkn := hk n (by omega)
    have ihk : ∀ i : Nat, (i : Int) < (n : Int) → ¬ M 108 i = 0 → 16 ≤ (M 105 i).toInt ∧ (M 105 i).toInt < 28 := fun i hi => hk i (by omega)
    have q3 := tw_dec1 hd (by omega)
    rw [← end1] at hkn
    have zm1 := tw_ti_m1
    have z0 := tw_ti_0
    have z1 := tw_ti_1
    have z16 := tw_ti_16
    refine tw_iload_n (pc := 7) rfl rfl ?_
    refine tw_if_lt (pc := 8) (tgt := 51) rfl rfl (fun c1 => absurd c1 (by omega)) (fun c1 => ?_)
    refine tw_aload_n (pc := 11) rfl rfl ?_
    refine tw_getR (pc := 12) rfl fl_MD_67 rfl rfl ?_
    refine tw_iload_n (pc := 15) rfl rfl ?_
    refine tw_bald (pc := 16) rfl rfl ⟨by omega, by omega⟩ ?_
    refine tw_if_eq (pc := 17) (tgt := 45) rfl rfl (fun c2 => ?_) (fun c2 => ?_)
    · refine tw_iinc (pc := 45) rfl rfl tw_ic_m1 (Nat.le_of_ble_eq_true rfl) ?_
      refine tw_goto (pc := 48) (tgt := 7) rfl rfl ?_
      rw [end1] at *
      have hno : ¬ (¬ M 108 n = 0 ∧ (M 107 n + 1).toInt < (M 94 (M 105 n - 16).toInt.toNat).toInt) := fun q => q.1 c2.1
      have e : failR M (n + 1) = failR M n := by
        simp only [failR]
        exact if_neg hno
      rw [e] at h
      exact ih _ (by omega) q3 ihk h
    · refine tw_aload_n (pc := 20) rfl rfl ?_
      refine tw_getR (pc := 21) rfl fl_MD_64 rfl rfl ?_
      refine tw_iload_n (pc := 24) rfl rfl ?_
      refine tw_iald (pc := 25) rfl rfl ⟨by omega, by omega⟩ ?_
      refine tw_iconst (pc := 26) rfl tw_ic_1 ?_
      refine tw_iadd (pc := 27) rfl ?_
      refine tw_aload_n (pc := 28) rfl rfl ?_
      refine tw_getR (pc := 29) rfl fl_MD_25 rfl rfl ?_
      refine tw_aload_n (pc := 32) rfl rfl ?_
      refine tw_getR (pc := 33) rfl fl_MD_58 rfl rfl ?_
      refine tw_iload_n (pc := 36) rfl rfl ?_
      refine tw_iald (pc := 37) rfl rfl ⟨by omega, by omega⟩ ?_
      have hk2 := hkn c2.1
      refine tw_bipush (pc := 38) rfl tw_bi_16 ?_
      refine tw_isubF (pc := 40) rfl ⟨by omega, by omega⟩ (fun e3 => ?_)
      refine tw_iald (pc := 41) rfl rfl ⟨by omega, by omega⟩ ?_
      refine tw_icmp_lt (pc := 42) (tgt := 51) rfl rfl (fun c4 => ?_) (fun c4 => ?_)
      · refine tw_iload_n (pc := 51) rfl rfl ?_
        refine tw_if_ge (pc := 52) (tgt := 66) rfl rfl (fun c5 => ?_) (fun c5 => absurd (by omega) c5)
        refine tw_aload_n (pc := 66) rfl rfl ?_
        refine tw_iload_n (pc := 67) rfl rfl ?_
        refine tw_iconst (pc := 68) rfl tw_ic_1 ?_
        refine tw_iadd (pc := 69) rfl ?_
        refine tw_putI (pc := 70) rfl fp_MD_161 rfl rfl rfl rfl ?_
        refine tw_aload_n (pc := 73) rfl rfl ?_
        refine tw_aload_n (pc := 74) rfl rfl ?_
        refine tw_getR (pc := 75) rfl fl_MD_71 rfl rfl ?_
        refine tw_iload_n (pc := 78) rfl rfl ?_
        refine tw_ialdV (pc := 79) (v := (M 109 nd.toInt.toNat)) rfl rfl ⟨by omega, by omega⟩ rfl ?_
        refine tw_putI (pc := 80) rfl fp_MD_158 rfl rfl rfl rfl ?_
        refine tw_aload_n (pc := 83) rfl rfl ?_
        refine tw_aload_n (pc := 84) rfl rfl ?_
        refine tw_getR (pc := 85) rfl fl_MD_74 rfl rfl ?_
        refine tw_iload_n (pc := 88) rfl rfl ?_
        refine tw_ialdV (pc := 89) (v := (M 110 nd.toInt.toNat)) rfl rfl ⟨by omega, by omega⟩ rfl ?_
        refine tw_putI (pc := 90) rfl fp_MD_167 rfl rfl rfl rfl ?_
        refine tw_aload_n (pc := 93) rfl rfl ?_
        refine tw_aload_n (pc := 94) rfl rfl ?_
        refine tw_getR (pc := 95) rfl fl_MD_77 rfl rfl ?_
        refine tw_iload_n (pc := 98) rfl rfl ?_
        refine tw_ialdV (pc := 99) (v := (M 111 nd.toInt.toNat)) rfl rfl ⟨by omega, by omega⟩ rfl ?_
        refine tw_putI (pc := 100) rfl fp_MD_164 rfl rfl rfl rfl ?_
        refine tw_aload_n (pc := 103) rfl rfl ?_
        refine tw_getR (pc := 104) rfl fl_MD_67 rfl rfl ?_
        refine tw_iload_n (pc := 107) rfl rfl ?_
        refine tw_iconst (pc := 108) rfl tw_ic_0 ?_
        refine tw_bast (pc := 109) rfl rfl ⟨by omega, by omega⟩ rfl ?_
        refine tw_aload_n (pc := 110) rfl rfl ?_
        refine tw_getR (pc := 111) rfl fl_MD_64 rfl rfl ?_
        refine tw_iload_n (pc := 114) rfl rfl ?_
        refine tw_dup2 (pc := 115) rfl ?_
        refine tw_ialdV (pc := 116) (v := (M 107 nd.toInt.toNat)) rfl rfl ⟨by omega, by omega⟩ rfl ?_
        refine tw_iconst (pc := 117) rfl tw_ic_1 ?_
        refine tw_iadd (pc := 118) rfl ?_
        refine tw_iast (pc := 119) rfl rfl ⟨by omega, by omega⟩ ?_
        refine tw_aload_n (pc := 120) rfl rfl ?_
        refine tw_iconst (pc := 121) rfl tw_ic_1 ?_
        refine tw_putI (pc := 122) rfl fp_MD_152 rfl rfl rfl rfl ?_
        refine tw_return (pc := 125) rfl trivial ?_
        rw [end1] at *
        have e : failR M (n + 1) = reopenR M n := by
          simp only [failR]
          exact if_pos ⟨c2.1, c4⟩
        rw [e] at h
        subst end2
        exact h
      · refine tw_iinc (pc := 45) rfl rfl tw_ic_m1 (Nat.le_of_ble_eq_true rfl) ?_
        refine tw_goto (pc := 48) (tgt := 7) rfl rfl ?_
        rw [end1] at *
        have hno : ¬ (¬ M 108 n = 0 ∧ (M 107 n + 1).toInt < (M 94 (M 105 n - 16).toInt.toNat).toInt) := fun q => c4 q.2
        have e : failR M (n + 1) = failR M n := by
          simp only [failR]
          exact if_neg hno
        rw [e] at h
        exact ih _ (by omega) q3 ihk h
theorem sp_MD_fail {d : Nat} {M : tw_M} {Q : tw_P} (hn : 0 ≤ (M 88 28).toInt ∧ (M 88 28).toInt ≤ 48) (hk : ∀ i : Nat, (i : Int) < (M 88 28).toInt → ¬ M 108 i = 0 → 16 ≤ (M 105 i).toInt ∧ (M 105 i).toInt < 28) (h : Q none (failR M (M 88 28).toInt.toNat)) : tw_C (d + 1) j_MD_fail [.inr 88] M Q := by
  refine tw_enter pn_MD dc_MD_fail (Nat.le_of_ble_eq_true rfl) ?_
  have zm1 := tw_ti_m1
  have z0 := tw_ti_0
  have z1 := tw_ti_1
  have z16 := tw_ti_16
  refine tw_aload_n (pc := 0) rfl rfl ?_
  refine tw_getV (pc := 1) (v := (M 88 28)) rfl fl_MD_161 rfl rfl rfl ?_
  refine tw_iconst (pc := 4) rfl tw_ic_1 ?_
  refine tw_isubF (pc := 5) rfl ⟨by omega, by omega⟩ (fun e1 => ?_)
  refine tw_istore_n (pc := 6) rfl (Nat.le_of_ble_eq_true rfl) ?_
  exact lp_MD_fail (M 88 28).toInt.toNat _ (by omega) (by omega) (fun i hi => hk i (by omega)) h
