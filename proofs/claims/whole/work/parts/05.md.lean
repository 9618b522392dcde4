def RI (M : tw_M) : Prop := (0 ≤ (M 88 0).toInt ∧ (M 88 0).toInt ≤ 12) ∧ (0 ≤ (M 88 6).toInt ∧ (M 88 6).toInt ≤ 12) ∧ (0 ≤ (M 88 9).toInt ∧ (M 88 9).toInt ≤ 40) ∧ (0 ≤ (M 88 16).toInt ∧ (M 88 16).toInt ≤ 6) ∧ (∀ k, k < 12 → 0 ≤ (M 94 k).toInt ∧ (M 94 k).toInt ≤ 5) ∧ (∀ k, k < 40 → 0 ≤ (M 99 k).toInt ∧ (M 99 k).toInt ≤ 5)
theorem sp_MD_isBits {d : Nat} {M : tw_M} {Q : tw_P} {b : Int32} (h1 : 0 ≤ b.toInt ∧ b.toInt ≤ 65535 → Q (some 1) M) (h0 : ¬ (0 ≤ b.toInt ∧ b.toInt ≤ 65535) → Q (some 0) M) : tw_C (d + 1) j_MD_isBits [.inl b] M Q := by
  refine tw_enter pn_MD dc_MD_isBits (Nat.le_of_ble_eq_true rfl) ?_
  have z0 := tw_ti_0
  have z1 := tw_ti_1
  have z65535 := tw_ti_65535
  refine tw_iload_n (pc := 0) rfl rfl ?_
  refine tw_if_lt (pc := 1) (tgt := 14) rfl rfl (fun c1 => ?_) (fun c1 => ?_)
  · refine tw_iconst (pc := 14) rfl tw_ic_0 ?_
    refine tw_ireturn (pc := 15) rfl rfl ?_
    exact h0 (by omega)
  · refine tw_iload_n (pc := 4) rfl rfl ?_
    refine tw_ldc (pc := 5) rfl ld_MD_92 ?_
    refine tw_icmp_gt (pc := 7) (tgt := 14) rfl rfl (fun c2 => ?_) (fun c2 => ?_)
    · refine tw_iconst (pc := 14) rfl tw_ic_0 ?_
      refine tw_ireturn (pc := 15) rfl rfl ?_
      exact h0 (by omega)
    · refine tw_iconst (pc := 10) rfl tw_ic_1 ?_
      refine tw_goto (pc := 11) (tgt := 15) rfl rfl ?_
      refine tw_ireturn (pc := 15) rfl rfl ?_
      exact h1 (by omega)
theorem sp_MD_isFuel {d : Nat} {M : tw_M} {Q : tw_P} {b : Int32} (h1 : 0 ≤ b.toInt ∧ b.toInt ≤ 5000 → Q (some 1) M) (h0 : ¬ (0 ≤ b.toInt ∧ b.toInt ≤ 5000) → Q (some 0) M) : tw_C (d + 1) j_MD_isFuel [.inl b] M Q := by
  refine tw_enter pn_MD dc_MD_isFuel (Nat.le_of_ble_eq_true rfl) ?_
  have z0 := tw_ti_0
  have z1 := tw_ti_1
  have z5000 := tw_ti_5000
  refine tw_iload_n (pc := 0) rfl rfl ?_
  refine tw_if_lt (pc := 1) (tgt := 15) rfl rfl (fun c1 => ?_) (fun c1 => ?_)
  · refine tw_iconst (pc := 15) rfl tw_ic_0 ?_
    refine tw_ireturn (pc := 16) rfl rfl ?_
    exact h0 (by omega)
  · refine tw_iload_n (pc := 4) rfl rfl ?_
    refine tw_sipush (pc := 5) rfl tw_si_5000 ?_
    refine tw_icmp_gt (pc := 8) (tgt := 15) rfl rfl (fun c2 => ?_) (fun c2 => ?_)
    · refine tw_iconst (pc := 15) rfl tw_ic_0 ?_
      refine tw_ireturn (pc := 16) rfl rfl ?_
      exact h0 (by omega)
    · refine tw_iconst (pc := 11) rfl tw_ic_1 ?_
      refine tw_goto (pc := 12) (tgt := 16) rfl rfl ?_
      refine tw_ireturn (pc := 16) rfl rfl ?_
      exact h1 (by omega)
theorem sp_MD_holds {d : Nat} {M : tw_M} {Q : tw_P} {f n l : Int32} (h1 : pH n l f → Q (some 1) M) (h0 : ¬ (pH n l f) → Q (some 0) M) : tw_C (d + 1) j_MD_holds [.inl f, .inl n, .inl l] M Q := by
  refine tw_enter pn_MD dc_MD_holds (Nat.le_of_ble_eq_true rfl) ?_
  have z0 := tw_ti_0
  have z1 := tw_ti_1
  refine tw_iload_n (pc := 0) rfl rfl ?_
  refine tw_iload_n (pc := 1) rfl rfl ?_
  refine tw_iand (pc := 2) rfl ?_
  refine tw_iload_n (pc := 3) rfl rfl ?_
  refine tw_icmp_ne (pc := 4) (tgt := 17) rfl rfl (fun c1 => ?_) (fun c1 => ?_)
  · refine tw_iconst (pc := 17) rfl tw_ic_0 ?_
    refine tw_ireturn (pc := 18) rfl rfl ?_
    first | exact h0 (fun q => c2.1 q.2) | exact h0 (fun q => c1.1 q.1)
  · refine tw_iload_n (pc := 7) rfl rfl ?_
    refine tw_iload_n (pc := 8) rfl rfl ?_
    refine tw_iand (pc := 9) rfl ?_
    refine tw_if_ne (pc := 10) (tgt := 17) rfl rfl (fun c2 => ?_) (fun c2 => ?_)
    · refine tw_iconst (pc := 17) rfl tw_ic_0 ?_
      refine tw_ireturn (pc := 18) rfl rfl ?_
      first | exact h0 (fun q => c2.1 q.2) | exact h0 (fun q => c1.1 q.1)
    · refine tw_iconst (pc := 13) rfl tw_ic_1 ?_
      refine tw_goto (pc := 14) (tgt := 18) rfl rfl ?_
      refine tw_ireturn (pc := 18) rfl rfl ?_
      exact h1 ⟨c1.1, c2.1⟩
theorem sp_MD_isPrimitive {d : Nat} {M : tw_M} {Q : tw_P} {t : Int32} (h1 : 0 ≤ t.toInt ∧ t.toInt < (M 88 0).toInt → Q (some 1) M) (h0 : ¬ (0 ≤ t.toInt ∧ t.toInt < (M 88 0).toInt) → Q (some 0) M) : tw_C (d + 1) j_MD_isPrimitive [.inr 88, .inl t] M Q := by
  refine tw_enter pn_MD dc_MD_isPrimitive (Nat.le_of_ble_eq_true rfl) ?_
  have z0 := tw_ti_0
  have z1 := tw_ti_1
  refine tw_iload_n (pc := 0) rfl rfl ?_
  refine tw_if_lt (pc := 1) (tgt := 16) rfl rfl (fun c1 => ?_) (fun c1 => ?_)
  · refine tw_iconst (pc := 16) rfl tw_ic_0 ?_
    refine tw_ireturn (pc := 17) rfl rfl ?_
    exact h0 (by omega)
  · refine tw_iload_n (pc := 4) rfl rfl ?_
    refine tw_aload_n (pc := 5) rfl rfl ?_
    refine tw_getV (pc := 6) (v := (M 88 0)) rfl fl_MD_93 rfl rfl rfl ?_
    refine tw_icmp_ge (pc := 9) (tgt := 16) rfl rfl (fun c2 => ?_) (fun c2 => ?_)
    · refine tw_iconst (pc := 16) rfl tw_ic_0 ?_
      refine tw_ireturn (pc := 17) rfl rfl ?_
      exact h0 (by omega)
    · refine tw_iconst (pc := 12) rfl tw_ic_1 ?_
      refine tw_goto (pc := 13) (tgt := 17) rfl rfl ?_
      refine tw_ireturn (pc := 17) rfl rfl ?_
      exact h1 (by omega)
theorem sp_MD_isCompound {d : Nat} {M : tw_M} {Q : tw_P} {t : Int32} (hD : RI M) (h1 : 16 ≤ t.toInt ∧ t.toInt < 16 + (M 88 6).toInt → Q (some 1) M) (h0 : ¬ (16 ≤ t.toInt ∧ t.toInt < 16 + (M 88 6).toInt) → Q (some 0) M) : tw_C (d + 1) j_MD_isCompound [.inr 88, .inl t] M Q := by
  have hc := hD.2.1
  refine tw_enter pn_MD dc_MD_isCompound (Nat.le_of_ble_eq_true rfl) ?_
  have z0 := tw_ti_0
  have z1 := tw_ti_1
  have z16 := tw_ti_16
  refine tw_iload_n (pc := 0) rfl rfl ?_
  refine tw_bipush (pc := 1) rfl tw_bi_16 ?_
  refine tw_icmp_lt (pc := 3) (tgt := 21) rfl rfl (fun c1 => ?_) (fun c1 => ?_)
  · refine tw_iconst (pc := 21) rfl tw_ic_0 ?_
    refine tw_ireturn (pc := 22) rfl rfl ?_
    exact h0 (by omega)
  · refine tw_iload_n (pc := 6) rfl rfl ?_
    refine tw_bipush (pc := 7) rfl tw_bi_16 ?_
    refine tw_aload_n (pc := 9) rfl rfl ?_
    refine tw_getV (pc := 10) (v := (M 88 6)) rfl fl_MD_97 rfl rfl rfl ?_
    refine tw_iaddF (pc := 13) rfl ⟨by omega, by omega⟩ (fun e2 => ?_)
    refine tw_icmp_ge (pc := 14) (tgt := 21) rfl rfl (fun c3 => ?_) (fun c3 => ?_)
    · refine tw_iconst (pc := 21) rfl tw_ic_0 ?_
      refine tw_ireturn (pc := 22) rfl rfl ?_
      exact h0 (by omega)
    · refine tw_iconst (pc := 17) rfl tw_ic_1 ?_
      refine tw_goto (pc := 18) (tgt := 22) rfl rfl ?_
      refine tw_ireturn (pc := 22) rfl rfl ?_
      exact h1 (by omega)
theorem sp_MD_changed {d : Nat} {M : tw_M} {Q : tw_P} (h : Q none (tw_set (tw_set M 88 21 0) 88 36 0)) : tw_C (d + 1) j_MD_changed [.inr 88] M Q := by
  refine tw_enter pn_MD dc_MD_changed (Nat.le_of_ble_eq_true rfl) ?_
  have z0 := tw_ti_0
  refine tw_aload_n (pc := 0) rfl rfl ?_
  refine tw_iconst (pc := 1) rfl tw_ic_0 ?_
  refine tw_putI (pc := 2) rfl fp_MD_107 rfl rfl rfl rfl ?_
  refine tw_aload_n (pc := 5) rfl rfl ?_
  refine tw_iconst (pc := 6) rfl tw_ic_0 ?_
  refine tw_putI (pc := 7) rfl fp_MD_111 rfl rfl rfl rfl ?_
  refine tw_return (pc := 10) rfl trivial ?_
  exact h
theorem sp_MD_isTask {d : Nat} {M : tw_M} {Q : tw_P} {t : Int32} (hD : RI M) (h1 : (0 ≤ t.toInt ∧ t.toInt < (M 88 0).toInt) ∨ (16 ≤ t.toInt ∧ t.toInt < 16 + (M 88 6).toInt) → Q (some 1) M) (h0 : ¬ ((0 ≤ t.toInt ∧ t.toInt < (M 88 0).toInt) ∨ (16 ≤ t.toInt ∧ t.toInt < 16 + (M 88 6).toInt)) → Q (some 0) M) : tw_C (d + 2) j_MD_isTask [.inr 88, .inl t] M Q := by
  refine tw_enter pn_MD dc_MD_isTask (Nat.le_of_ble_eq_true rfl) ?_
  have z0 := tw_ti_0
  have z1 := tw_ti_1
  refine tw_aload_n (pc := 0) rfl rfl ?_
  refine tw_iload_n (pc := 1) rfl rfl ?_
  refine tw_inv1 (pc := 2) rfl lk_MD_100 (Nat.le_of_ble_eq_true rfl) rfl rfl (sp_MD_isPrimitive (fun c1 => ?_) (fun c1 => ?_))
  · refine tw_if_ne (pc := 5) (tgt := 16) rfl rfl (fun _ => ?_) (fun q => absurd q (by decide))
    refine tw_iconst (pc := 16) rfl tw_ic_1 ?_
    refine tw_goto (pc := 17) (tgt := 21) rfl rfl ?_
    refine tw_ireturn (pc := 21) rfl rfl ?_
    exact h1 (by omega)
  · refine tw_if_ne (pc := 5) (tgt := 16) rfl rfl (fun q => absurd q (by decide)) (fun _ => ?_)
    refine tw_aload_n (pc := 8) rfl rfl ?_
    refine tw_iload_n (pc := 9) rfl rfl ?_
    refine tw_inv1 (pc := 10) rfl lk_MD_104 (Nat.le_of_ble_eq_true rfl) rfl rfl (sp_MD_isCompound hD (fun c2 => ?_) (fun c2 => ?_))
    · refine tw_if_eq (pc := 13) (tgt := 20) rfl rfl (fun q => absurd q (by decide)) (fun _ => ?_)
      refine tw_iconst (pc := 16) rfl tw_ic_1 ?_
      refine tw_goto (pc := 17) (tgt := 21) rfl rfl ?_
      refine tw_ireturn (pc := 21) rfl rfl ?_
      exact h1 (by omega)
    · refine tw_if_eq (pc := 13) (tgt := 20) rfl rfl (fun _ => ?_) (fun q => absurd q (by decide))
      refine tw_iconst (pc := 20) rfl tw_ic_0 ?_
      refine tw_ireturn (pc := 21) rfl rfl ?_
      exact h0 (by omega)
theorem sp_MD_primitive {d : Nat} {M : tw_M} {Q : tw_P} {n l a r c : Int32} (hD : RI M) (h1 : (0 ≤ n.toInt ∧ n.toInt ≤ 65535) ∧ (0 ≤ l.toInt ∧ l.toInt ≤ 65535) ∧ (0 ≤ a.toInt ∧ a.toInt ≤ 65535) ∧ (0 ≤ r.toInt ∧ r.toInt ≤ 65535) ∧ (0 ≤ c.toInt ∧ c.toInt ≤ 100) ∧ (M 88 0).toInt < 12 → Q (some (((M 88 0) + 1) - 1)) (tw_set (tw_set (tw_set (tw_set (tw_set (tw_set (tw_set (tw_set M 89 (M 88 0).toInt.toNat n) 90 (M 88 0).toInt.toNat l) 91 (M 88 0).toInt.toNat a) 92 (M 88 0).toInt.toNat r) 93 (M 88 0).toInt.toNat c) 88 0 ((M 88 0) + 1)) 88 21 0) 88 36 0)) (h0 : ¬ ((0 ≤ n.toInt ∧ n.toInt ≤ 65535) ∧ (0 ≤ l.toInt ∧ l.toInt ≤ 65535) ∧ (0 ≤ a.toInt ∧ a.toInt ≤ 65535) ∧ (0 ≤ r.toInt ∧ r.toInt ≤ 65535) ∧ (0 ≤ c.toInt ∧ c.toInt ≤ 100) ∧ (M 88 0).toInt < 12) → Q (some (-1)) M) : tw_C (d + 2) j_MD_primitive [.inr 88, .inl n, .inl l, .inl a, .inl r, .inl c] M Q := by
  have hp := hD.1
  refine tw_enter pn_MD dc_MD_primitive (Nat.le_of_ble_eq_true rfl) ?_
  have zm1 := tw_ti_m1
  have z0 := tw_ti_0
  have z1 := tw_ti_1
  have z12 := tw_ti_12
  have z100 := tw_ti_100
  refine tw_iload_n (pc := 0) rfl rfl ?_
  refine tw_invs1 (pc := 1) rfl lk_MD_114 rfl (Nat.le_of_ble_eq_true rfl) (sp_MD_isBits (fun c1 => ?_) (fun c1 => ?_))
  · refine tw_if_eq (pc := 4) (tgt := 45) rfl rfl (fun q => absurd q (by decide)) (fun _ => ?_)
    refine tw_iload_n (pc := 7) rfl rfl ?_
    refine tw_invs1 (pc := 8) rfl lk_MD_114 rfl (Nat.le_of_ble_eq_true rfl) (sp_MD_isBits (fun c2 => ?_) (fun c2 => ?_))
    · refine tw_if_eq (pc := 11) (tgt := 45) rfl rfl (fun q => absurd q (by decide)) (fun _ => ?_)
      refine tw_iload_n (pc := 14) rfl rfl ?_
      refine tw_invs1 (pc := 15) rfl lk_MD_114 rfl (Nat.le_of_ble_eq_true rfl) (sp_MD_isBits (fun c3 => ?_) (fun c3 => ?_))
      · refine tw_if_eq (pc := 18) (tgt := 45) rfl rfl (fun q => absurd q (by decide)) (fun _ => ?_)
        refine tw_iload (pc := 21) rfl rfl ?_
        refine tw_invs1 (pc := 23) rfl lk_MD_114 rfl (Nat.le_of_ble_eq_true rfl) (sp_MD_isBits (fun c4 => ?_) (fun c4 => ?_))
        · refine tw_if_eq (pc := 26) (tgt := 45) rfl rfl (fun q => absurd q (by decide)) (fun _ => ?_)
          refine tw_iload (pc := 29) rfl rfl ?_
          refine tw_if_lt (pc := 31) (tgt := 45) rfl rfl (fun c5 => ?_) (fun c5 => ?_)
          · refine tw_iconst (pc := 45) rfl tw_ic_0 ?_
            refine tw_istore (pc := 46) rfl (Nat.le_of_ble_eq_true rfl) ?_
            refine tw_iload (pc := 48) rfl rfl ?_
            refine tw_if_eq (pc := 50) (tgt := 62) rfl rfl (fun _ => ?_) (fun q => absurd q (by decide))
            refine tw_iconst (pc := 62) rfl tw_ic_m1 ?_
            refine tw_ireturn (pc := 63) rfl rfl ?_
            exact h0 (by omega)
          · refine tw_iload (pc := 34) rfl rfl ?_
            refine tw_bipush (pc := 36) rfl tw_bi_100 ?_
            refine tw_icmp_gt (pc := 38) (tgt := 45) rfl rfl (fun c6 => ?_) (fun c6 => ?_)
            · refine tw_iconst (pc := 45) rfl tw_ic_0 ?_
              refine tw_istore (pc := 46) rfl (Nat.le_of_ble_eq_true rfl) ?_
              refine tw_iload (pc := 48) rfl rfl ?_
              refine tw_if_eq (pc := 50) (tgt := 62) rfl rfl (fun _ => ?_) (fun q => absurd q (by decide))
              refine tw_iconst (pc := 62) rfl tw_ic_m1 ?_
              refine tw_ireturn (pc := 63) rfl rfl ?_
              exact h0 (by omega)
            · refine tw_iconst (pc := 41) rfl tw_ic_1 ?_
              refine tw_goto (pc := 42) (tgt := 46) rfl rfl ?_
              refine tw_istore (pc := 46) rfl (Nat.le_of_ble_eq_true rfl) ?_
              refine tw_iload (pc := 48) rfl rfl ?_
              refine tw_if_eq (pc := 50) (tgt := 62) rfl rfl (fun q => absurd q (by decide)) (fun _ => ?_)
              refine tw_aload_n (pc := 53) rfl rfl ?_
              refine tw_getV (pc := 54) (v := (M 88 0)) rfl fl_MD_93 rfl rfl rfl ?_
              refine tw_bipush (pc := 57) rfl tw_bi_12 ?_
              refine tw_icmp_ne (pc := 59) (tgt := 64) rfl rfl (fun c7 => ?_) (fun c7 => ?_)
              · refine tw_aload_n (pc := 64) rfl rfl ?_
                refine tw_getR (pc := 65) rfl fl_MD_7 rfl rfl ?_
                refine tw_aload_n (pc := 68) rfl rfl ?_
                refine tw_getV (pc := 69) (v := (M 88 0)) rfl fl_MD_93 rfl rfl rfl ?_
                refine tw_iload_n (pc := 72) rfl rfl ?_
                refine tw_iast (pc := 73) rfl rfl ⟨by omega, by omega⟩ ?_
                refine tw_aload_n (pc := 74) rfl rfl ?_
                refine tw_getR (pc := 75) rfl fl_MD_13 rfl rfl ?_
                refine tw_aload_n (pc := 78) rfl rfl ?_
                refine tw_getV (pc := 79) (v := (M 88 0)) rfl fl_MD_93 rfl rfl rfl ?_
                refine tw_iload_n (pc := 82) rfl rfl ?_
                refine tw_iast (pc := 83) rfl rfl ⟨by omega, by omega⟩ ?_
                refine tw_aload_n (pc := 84) rfl rfl ?_
                refine tw_getR (pc := 85) rfl fl_MD_16 rfl rfl ?_
                refine tw_aload_n (pc := 88) rfl rfl ?_
                refine tw_getV (pc := 89) (v := (M 88 0)) rfl fl_MD_93 rfl rfl rfl ?_
                refine tw_iload_n (pc := 92) rfl rfl ?_
                refine tw_iast (pc := 93) rfl rfl ⟨by omega, by omega⟩ ?_
                refine tw_aload_n (pc := 94) rfl rfl ?_
                refine tw_getR (pc := 95) rfl fl_MD_19 rfl rfl ?_
                refine tw_aload_n (pc := 98) rfl rfl ?_
                refine tw_getV (pc := 99) (v := (M 88 0)) rfl fl_MD_93 rfl rfl rfl ?_
                refine tw_iload (pc := 102) rfl rfl ?_
                refine tw_iast (pc := 104) rfl rfl ⟨by omega, by omega⟩ ?_
                refine tw_aload_n (pc := 105) rfl rfl ?_
                refine tw_getR (pc := 106) rfl fl_MD_22 rfl rfl ?_
                refine tw_aload_n (pc := 109) rfl rfl ?_
                refine tw_getV (pc := 110) (v := (M 88 0)) rfl fl_MD_93 rfl rfl rfl ?_
                refine tw_iload (pc := 113) rfl rfl ?_
                refine tw_iast (pc := 115) rfl rfl ⟨by omega, by omega⟩ ?_
                refine tw_aload_n (pc := 116) rfl rfl ?_
                refine tw_dup (pc := 117) rfl ?_
                refine tw_getV (pc := 118) (v := (M 88 0)) rfl fl_MD_93 rfl rfl rfl ?_
                refine tw_iconst (pc := 121) rfl tw_ic_1 ?_
                refine tw_iaddF (pc := 122) rfl ⟨by omega, by omega⟩ (fun e8 => ?_)
                refine tw_putI (pc := 123) rfl fp_MD_93 rfl rfl rfl rfl ?_
                refine tw_aload_n (pc := 126) rfl rfl ?_
                refine tw_inv0 (pc := 127) rfl lk_MD_117 (Nat.le_of_ble_eq_true rfl) rfl rfl (sp_MD_changed ?_)
                refine tw_aload_n (pc := 130) rfl rfl ?_
                refine tw_getV (pc := 131) (v := ((M 88 0) + 1)) rfl fl_MD_93 rfl rfl rfl ?_
                refine tw_iconst (pc := 134) rfl tw_ic_1 ?_
                refine tw_isubF (pc := 135) rfl ⟨by omega, by omega⟩ (fun e10 => ?_)
                refine tw_ireturn (pc := 136) rfl rfl ?_
                exact h1 (by omega)
              · refine tw_iconst (pc := 62) rfl tw_ic_m1 ?_
                refine tw_ireturn (pc := 63) rfl rfl ?_
                exact h0 (by omega)
        · refine tw_if_eq (pc := 26) (tgt := 45) rfl rfl (fun _ => ?_) (fun q => absurd q (by decide))
          refine tw_iconst (pc := 45) rfl tw_ic_0 ?_
          refine tw_istore (pc := 46) rfl (Nat.le_of_ble_eq_true rfl) ?_
          refine tw_iload (pc := 48) rfl rfl ?_
          refine tw_if_eq (pc := 50) (tgt := 62) rfl rfl (fun _ => ?_) (fun q => absurd q (by decide))
          refine tw_iconst (pc := 62) rfl tw_ic_m1 ?_
          refine tw_ireturn (pc := 63) rfl rfl ?_
          exact h0 (by omega)
      · refine tw_if_eq (pc := 18) (tgt := 45) rfl rfl (fun _ => ?_) (fun q => absurd q (by decide))
        refine tw_iconst (pc := 45) rfl tw_ic_0 ?_
        refine tw_istore (pc := 46) rfl (Nat.le_of_ble_eq_true rfl) ?_
        refine tw_iload (pc := 48) rfl rfl ?_
        refine tw_if_eq (pc := 50) (tgt := 62) rfl rfl (fun _ => ?_) (fun q => absurd q (by decide))
        refine tw_iconst (pc := 62) rfl tw_ic_m1 ?_
        refine tw_ireturn (pc := 63) rfl rfl ?_
        exact h0 (by omega)
    · refine tw_if_eq (pc := 11) (tgt := 45) rfl rfl (fun _ => ?_) (fun q => absurd q (by decide))
      refine tw_iconst (pc := 45) rfl tw_ic_0 ?_
      refine tw_istore (pc := 46) rfl (Nat.le_of_ble_eq_true rfl) ?_
      refine tw_iload (pc := 48) rfl rfl ?_
      refine tw_if_eq (pc := 50) (tgt := 62) rfl rfl (fun _ => ?_) (fun q => absurd q (by decide))
      refine tw_iconst (pc := 62) rfl tw_ic_m1 ?_
      refine tw_ireturn (pc := 63) rfl rfl ?_
      exact h0 (by omega)
  · refine tw_if_eq (pc := 4) (tgt := 45) rfl rfl (fun _ => ?_) (fun q => absurd q (by decide))
    refine tw_iconst (pc := 45) rfl tw_ic_0 ?_
    refine tw_istore (pc := 46) rfl (Nat.le_of_ble_eq_true rfl) ?_
    refine tw_iload (pc := 48) rfl rfl ?_
    refine tw_if_eq (pc := 50) (tgt := 62) rfl rfl (fun _ => ?_) (fun q => absurd q (by decide))
    refine tw_iconst (pc := 62) rfl tw_ic_m1 ?_
    refine tw_ireturn (pc := 63) rfl rfl ?_
    exact h0 (by omega)
theorem sp_MD_compound {d : Nat} {M : tw_M} {Q : tw_P} (hD : RI M) (h1 : (M 88 6).toInt < 12 → Q (some (15 + ((M 88 6) + 1))) (tw_set (tw_set (tw_set (tw_set M 94 (M 88 6).toInt.toNat 0) 88 6 ((M 88 6) + 1)) 88 21 0) 88 36 0)) (h0 : ¬ ((M 88 6).toInt < 12) → Q (some (-1)) M) : tw_C (d + 2) j_MD_compound [.inr 88] M Q := by
  have hp := hD.2.1
  refine tw_enter pn_MD dc_MD_compound (Nat.le_of_ble_eq_true rfl) ?_
  have zm1 := tw_ti_m1
  have z0 := tw_ti_0
  have z1 := tw_ti_1
  have z12 := tw_ti_12
  have z15 := tw_ti_15
  refine tw_aload_n (pc := 0) rfl rfl ?_
  refine tw_getV (pc := 1) (v := (M 88 6)) rfl fl_MD_97 rfl rfl rfl ?_
  refine tw_bipush (pc := 4) rfl tw_bi_12 ?_
  refine tw_icmp_ne (pc := 6) (tgt := 11) rfl rfl (fun c1 => ?_) (fun c1 => ?_)
  · refine tw_aload_n (pc := 11) rfl rfl ?_
    refine tw_getR (pc := 12) rfl fl_MD_25 rfl rfl ?_
    refine tw_aload_n (pc := 15) rfl rfl ?_
    refine tw_getV (pc := 16) (v := (M 88 6)) rfl fl_MD_97 rfl rfl rfl ?_
    refine tw_iconst (pc := 19) rfl tw_ic_0 ?_
    refine tw_iast (pc := 20) rfl rfl ⟨by omega, by omega⟩ ?_
    refine tw_aload_n (pc := 21) rfl rfl ?_
    refine tw_dup (pc := 22) rfl ?_
    refine tw_getV (pc := 23) (v := (M 88 6)) rfl fl_MD_97 rfl rfl rfl ?_
    refine tw_iconst (pc := 26) rfl tw_ic_1 ?_
    refine tw_iaddF (pc := 27) rfl ⟨by omega, by omega⟩ (fun e2 => ?_)
    refine tw_putI (pc := 28) rfl fp_MD_97 rfl rfl rfl rfl ?_
    refine tw_aload_n (pc := 31) rfl rfl ?_
    refine tw_inv0 (pc := 32) rfl lk_MD_117 (Nat.le_of_ble_eq_true rfl) rfl rfl (sp_MD_changed ?_)
    refine tw_bipush (pc := 35) rfl tw_bi_15 ?_
    refine tw_aload_n (pc := 37) rfl rfl ?_
    refine tw_getV (pc := 38) (v := ((M 88 6) + 1)) rfl fl_MD_97 rfl rfl rfl ?_
    refine tw_iaddF (pc := 41) rfl ⟨by omega, by omega⟩ (fun e4 => ?_)
    refine tw_ireturn (pc := 42) rfl rfl ?_
    exact h1 (by omega)
  · refine tw_iconst (pc := 9) rfl tw_ic_m1 ?_
    refine tw_ireturn (pc := 10) rfl rfl ?_
    exact h0 (by omega)
theorem sp_MD_method {d : Nat} {M : tw_M} {Q : tw_P} {t n l : Int32} (hD : RI M) (h1 : (16 ≤ t.toInt ∧ t.toInt < 16 + (M 88 6).toInt) ∧ (0 ≤ n.toInt ∧ n.toInt ≤ 65535) ∧ (0 ≤ l.toInt ∧ l.toInt ≤ 65535) ∧ (M 88 9).toInt < 40 ∧ (M 94 (t - 16).toInt.toNat).toInt < 5 → Q (some (((M 88 9) + 1) - 1)) (tw_set (tw_set (tw_set (tw_set (tw_set (tw_set (tw_set (tw_set (tw_set M 95 ((5 * (t - 16)) + (M 94 (t - 16).toInt.toNat)).toInt.toNat (M 88 9)) 94 (t - 16).toInt.toNat ((M 94 (t - 16).toInt.toNat) + 1)) 96 (M 88 9).toInt.toNat t) 97 (M 88 9).toInt.toNat n) 98 (M 88 9).toInt.toNat l) 99 (M 88 9).toInt.toNat 0) 88 9 ((M 88 9) + 1)) 88 21 0) 88 36 0)) (h0 : ¬ ((16 ≤ t.toInt ∧ t.toInt < 16 + (M 88 6).toInt) ∧ (0 ≤ n.toInt ∧ n.toInt ≤ 65535) ∧ (0 ≤ l.toInt ∧ l.toInt ≤ 65535) ∧ (M 88 9).toInt < 40 ∧ (M 94 (t - 16).toInt.toNat).toInt < 5) → Q (some (-1)) M) : tw_C (d + 2) j_MD_method [.inr 88, .inl t, .inl n, .inl l] M Q := by
  have hc := hD.2.1
  have hm := hD.2.2.1
  have hk := hD.2.2.2.2.1 (t - 16).toInt.toNat
  refine tw_enter pn_MD dc_MD_method (Nat.le_of_ble_eq_true rfl) ?_
  have zm1 := tw_ti_m1
  have z0 := tw_ti_0
  have z1 := tw_ti_1
  have z5 := tw_ti_5
  have z16 := tw_ti_16
  have z40 := tw_ti_40
  refine tw_aload_n (pc := 0) rfl rfl ?_
  refine tw_iload_n (pc := 1) rfl rfl ?_
  refine tw_inv1 (pc := 2) rfl lk_MD_104 (Nat.le_of_ble_eq_true rfl) rfl rfl (sp_MD_isCompound hD (fun c1 => ?_) (fun c1 => ?_))
  · refine tw_if_eq (pc := 5) (tgt := 44) rfl rfl (fun q => absurd q (by decide)) (fun _ => ?_)
    refine tw_aload_n (pc := 8) rfl rfl ?_
    refine tw_getR (pc := 9) rfl fl_MD_25 rfl rfl ?_
    refine tw_iload_n (pc := 12) rfl rfl ?_
    refine tw_bipush (pc := 13) rfl tw_bi_16 ?_
    refine tw_isubF (pc := 15) rfl ⟨by omega, by omega⟩ (fun e2 => ?_)
    refine tw_iald (pc := 16) rfl rfl ⟨by omega, by omega⟩ ?_
    refine tw_iconst (pc := 17) rfl tw_ic_5 ?_
    refine tw_icmp_eq (pc := 18) (tgt := 44) rfl rfl (fun c3 => ?_) (fun c3 => ?_)
    · refine tw_iconst (pc := 44) rfl tw_ic_m1 ?_
      refine tw_ireturn (pc := 45) rfl rfl ?_
      exact h0 (by omega)
    · refine tw_iload_n (pc := 21) rfl rfl ?_
      refine tw_invs1 (pc := 22) rfl lk_MD_114 rfl (Nat.le_of_ble_eq_true rfl) (sp_MD_isBits (fun c4 => ?_) (fun c4 => ?_))
      · refine tw_if_eq (pc := 25) (tgt := 44) rfl rfl (fun q => absurd q (by decide)) (fun _ => ?_)
        refine tw_iload_n (pc := 28) rfl rfl ?_
        refine tw_invs1 (pc := 29) rfl lk_MD_114 rfl (Nat.le_of_ble_eq_true rfl) (sp_MD_isBits (fun c5 => ?_) (fun c5 => ?_))
        · refine tw_if_eq (pc := 32) (tgt := 44) rfl rfl (fun q => absurd q (by decide)) (fun _ => ?_)
          refine tw_aload_n (pc := 35) rfl rfl ?_
          refine tw_getV (pc := 36) (v := (M 88 9)) rfl fl_MD_120 rfl rfl rfl ?_
          refine tw_bipush (pc := 39) rfl tw_bi_40 ?_
          refine tw_icmp_ne (pc := 41) (tgt := 46) rfl rfl (fun c6 => ?_) (fun c6 => ?_)
          · refine tw_iload_n (pc := 46) rfl rfl ?_
            refine tw_bipush (pc := 47) rfl tw_bi_16 ?_
            refine tw_isubF (pc := 49) rfl ⟨by omega, by omega⟩ (fun e7 => ?_)
            refine tw_istore (pc := 50) rfl (Nat.le_of_ble_eq_true rfl) ?_
            refine tw_aload_n (pc := 52) rfl rfl ?_
            refine tw_getR (pc := 53) rfl fl_MD_28 rfl rfl ?_
            refine tw_iconst (pc := 56) rfl tw_ic_5 ?_
            refine tw_iload (pc := 57) rfl rfl ?_
            refine tw_imul5F (pc := 59) rfl ⟨by omega, by omega⟩ (fun e8 => ?_)
            refine tw_aload_n (pc := 60) rfl rfl ?_
            refine tw_getR (pc := 61) rfl fl_MD_25 rfl rfl ?_
            refine tw_iload (pc := 64) rfl rfl ?_
            refine tw_iald (pc := 66) rfl rfl ⟨by omega, by omega⟩ ?_
            refine tw_iaddF (pc := 67) rfl ⟨by omega, by omega⟩ (fun e9 => ?_)
            refine tw_aload_n (pc := 68) rfl rfl ?_
            refine tw_getV (pc := 69) (v := (M 88 9)) rfl fl_MD_120 rfl rfl rfl ?_
            refine tw_iast (pc := 72) rfl rfl ⟨by omega, by omega⟩ ?_
            refine tw_aload_n (pc := 73) rfl rfl ?_
            refine tw_getR (pc := 74) rfl fl_MD_25 rfl rfl ?_
            refine tw_iload (pc := 77) rfl rfl ?_
            refine tw_dup2 (pc := 79) rfl ?_
            refine tw_ialdV (pc := 80) (v := (M 94 (t - 16).toInt.toNat)) rfl rfl ⟨by omega, by omega⟩ rfl ?_
            refine tw_iconst (pc := 81) rfl tw_ic_1 ?_
            refine tw_iaddF (pc := 82) rfl ⟨by omega, by omega⟩ (fun e10 => ?_)
            refine tw_iast (pc := 83) rfl rfl ⟨by omega, by omega⟩ ?_
            refine tw_aload_n (pc := 84) rfl rfl ?_
            refine tw_getR (pc := 85) rfl fl_MD_31 rfl rfl ?_
            refine tw_aload_n (pc := 88) rfl rfl ?_
            refine tw_getV (pc := 89) (v := (M 88 9)) rfl fl_MD_120 rfl rfl rfl ?_
            refine tw_iload_n (pc := 92) rfl rfl ?_
            refine tw_iast (pc := 93) rfl rfl ⟨by omega, by omega⟩ ?_
            refine tw_aload_n (pc := 94) rfl rfl ?_
            refine tw_getR (pc := 95) rfl fl_MD_34 rfl rfl ?_
            refine tw_aload_n (pc := 98) rfl rfl ?_
            refine tw_getV (pc := 99) (v := (M 88 9)) rfl fl_MD_120 rfl rfl rfl ?_
            refine tw_iload_n (pc := 102) rfl rfl ?_
            refine tw_iast (pc := 103) rfl rfl ⟨by omega, by omega⟩ ?_
            refine tw_aload_n (pc := 104) rfl rfl ?_
            refine tw_getR (pc := 105) rfl fl_MD_37 rfl rfl ?_
            refine tw_aload_n (pc := 108) rfl rfl ?_
            refine tw_getV (pc := 109) (v := (M 88 9)) rfl fl_MD_120 rfl rfl rfl ?_
            refine tw_iload_n (pc := 112) rfl rfl ?_
            refine tw_iast (pc := 113) rfl rfl ⟨by omega, by omega⟩ ?_
            refine tw_aload_n (pc := 114) rfl rfl ?_
            refine tw_getR (pc := 115) rfl fl_MD_40 rfl rfl ?_
            refine tw_aload_n (pc := 118) rfl rfl ?_
            refine tw_getV (pc := 119) (v := (M 88 9)) rfl fl_MD_120 rfl rfl rfl ?_
            refine tw_iconst (pc := 122) rfl tw_ic_0 ?_
            refine tw_iast (pc := 123) rfl rfl ⟨by omega, by omega⟩ ?_
            refine tw_aload_n (pc := 124) rfl rfl ?_
            refine tw_dup (pc := 125) rfl ?_
            refine tw_getV (pc := 126) (v := (M 88 9)) rfl fl_MD_120 rfl rfl rfl ?_
            refine tw_iconst (pc := 129) rfl tw_ic_1 ?_
            refine tw_iaddF (pc := 130) rfl ⟨by omega, by omega⟩ (fun e11 => ?_)
            refine tw_putI (pc := 131) rfl fp_MD_120 rfl rfl rfl rfl ?_
            refine tw_aload_n (pc := 134) rfl rfl ?_
            refine tw_inv0 (pc := 135) rfl lk_MD_117 (Nat.le_of_ble_eq_true rfl) rfl rfl (sp_MD_changed ?_)
            refine tw_aload_n (pc := 138) rfl rfl ?_
            refine tw_getV (pc := 139) (v := ((M 88 9) + 1)) rfl fl_MD_120 rfl rfl rfl ?_
            refine tw_iconst (pc := 142) rfl tw_ic_1 ?_
            refine tw_isubF (pc := 143) rfl ⟨by omega, by omega⟩ (fun e13 => ?_)
            refine tw_ireturn (pc := 144) rfl rfl ?_
            exact h1 (by omega)
          · refine tw_iconst (pc := 44) rfl tw_ic_m1 ?_
            refine tw_ireturn (pc := 45) rfl rfl ?_
            exact h0 (by omega)
        · refine tw_if_eq (pc := 32) (tgt := 44) rfl rfl (fun _ => ?_) (fun q => absurd q (by decide))
          refine tw_iconst (pc := 44) rfl tw_ic_m1 ?_
          refine tw_ireturn (pc := 45) rfl rfl ?_
          exact h0 (by omega)
      · refine tw_if_eq (pc := 25) (tgt := 44) rfl rfl (fun _ => ?_) (fun q => absurd q (by decide))
        refine tw_iconst (pc := 44) rfl tw_ic_m1 ?_
        refine tw_ireturn (pc := 45) rfl rfl ?_
        exact h0 (by omega)
  · refine tw_if_eq (pc := 5) (tgt := 44) rfl rfl (fun _ => ?_) (fun q => absurd q (by decide))
    refine tw_iconst (pc := 44) rfl tw_ic_m1 ?_
    refine tw_ireturn (pc := 45) rfl rfl ?_
    exact h0 (by omega)
theorem sp_MD_part {d : Nat} {M : tw_M} {Q : tw_P} {m t : Int32} (hD : RI M) (h1 : (0 ≤ m.toInt ∧ m.toInt < (M 88 9).toInt) ∧ ((0 ≤ t.toInt ∧ t.toInt < (M 88 0).toInt) ∨ (16 ≤ t.toInt ∧ t.toInt < 16 + (M 88 6).toInt)) ∧ (M 99 m.toInt.toNat).toInt < 5 → Q (some ((M 99 m.toInt.toNat) + 1)) (tw_set (tw_set (tw_set (tw_set M 100 ((5 * m) + (M 99 m.toInt.toNat)).toInt.toNat t) 99 m.toInt.toNat ((M 99 m.toInt.toNat) + 1)) 88 21 0) 88 36 0)) (h0 : ¬ ((0 ≤ m.toInt ∧ m.toInt < (M 88 9).toInt) ∧ ((0 ≤ t.toInt ∧ t.toInt < (M 88 0).toInt) ∨ (16 ≤ t.toInt ∧ t.toInt < 16 + (M 88 6).toInt)) ∧ (M 99 m.toInt.toNat).toInt < 5) → Q (some (-1)) M) : tw_C (d + 3) j_MD_part [.inr 88, .inl m, .inl t] M Q := by
  have hm := hD.2.2.1
  have hk := hD.2.2.2.2.2 m.toInt.toNat
  refine tw_enter pn_MD dc_MD_part (Nat.le_of_ble_eq_true rfl) ?_
  have zm1 := tw_ti_m1
  have z0 := tw_ti_0
  have z1 := tw_ti_1
  have z5 := tw_ti_5
  refine tw_iload_n (pc := 0) rfl rfl ?_
  refine tw_if_lt (pc := 1) (tgt := 30) rfl rfl (fun c1 => ?_) (fun c1 => ?_)
  · refine tw_iconst (pc := 30) rfl tw_ic_m1 ?_
    refine tw_ireturn (pc := 31) rfl rfl ?_
    exact h0 (by omega)
  · refine tw_iload_n (pc := 4) rfl rfl ?_
    refine tw_aload_n (pc := 5) rfl rfl ?_
    refine tw_getV (pc := 6) (v := (M 88 9)) rfl fl_MD_120 rfl rfl rfl ?_
    refine tw_icmp_ge (pc := 9) (tgt := 30) rfl rfl (fun c2 => ?_) (fun c2 => ?_)
    · refine tw_iconst (pc := 30) rfl tw_ic_m1 ?_
      refine tw_ireturn (pc := 31) rfl rfl ?_
      exact h0 (by omega)
    · refine tw_aload_n (pc := 12) rfl rfl ?_
      refine tw_iload_n (pc := 13) rfl rfl ?_
      refine tw_inv1 (pc := 14) rfl lk_MD_123 (Nat.le_of_ble_eq_true rfl) rfl rfl (sp_MD_isTask hD (fun c3 => ?_) (fun c3 => ?_))
      · refine tw_if_eq (pc := 17) (tgt := 30) rfl rfl (fun q => absurd q (by decide)) (fun _ => ?_)
        refine tw_aload_n (pc := 20) rfl rfl ?_
        refine tw_getR (pc := 21) rfl fl_MD_40 rfl rfl ?_
        refine tw_iload_n (pc := 24) rfl rfl ?_
        refine tw_iald (pc := 25) rfl rfl ⟨by omega, by omega⟩ ?_
        refine tw_iconst (pc := 26) rfl tw_ic_5 ?_
        refine tw_icmp_ne (pc := 27) (tgt := 32) rfl rfl (fun c4 => ?_) (fun c4 => ?_)
        · refine tw_aload_n (pc := 32) rfl rfl ?_
          refine tw_getR (pc := 33) rfl fl_MD_43 rfl rfl ?_
          refine tw_iconst (pc := 36) rfl tw_ic_5 ?_
          refine tw_iload_n (pc := 37) rfl rfl ?_
          refine tw_imul5F (pc := 38) rfl ⟨by omega, by omega⟩ (fun e5 => ?_)
          refine tw_aload_n (pc := 39) rfl rfl ?_
          refine tw_getR (pc := 40) rfl fl_MD_40 rfl rfl ?_
          refine tw_iload_n (pc := 43) rfl rfl ?_
          refine tw_iald (pc := 44) rfl rfl ⟨by omega, by omega⟩ ?_
          refine tw_iaddF (pc := 45) rfl ⟨by omega, by omega⟩ (fun e6 => ?_)
          refine tw_iload_n (pc := 46) rfl rfl ?_
          refine tw_iast (pc := 47) rfl rfl ⟨by omega, by omega⟩ ?_
          refine tw_aload_n (pc := 48) rfl rfl ?_
          refine tw_getR (pc := 49) rfl fl_MD_40 rfl rfl ?_
          refine tw_iload_n (pc := 52) rfl rfl ?_
          refine tw_dup2 (pc := 53) rfl ?_
          refine tw_ialdV (pc := 54) (v := (M 99 m.toInt.toNat)) rfl rfl ⟨by omega, by omega⟩ rfl ?_
          refine tw_iconst (pc := 55) rfl tw_ic_1 ?_
          refine tw_iaddF (pc := 56) rfl ⟨by omega, by omega⟩ (fun e7 => ?_)
          refine tw_iast (pc := 57) rfl rfl ⟨by omega, by omega⟩ ?_
          refine tw_aload_n (pc := 58) rfl rfl ?_
          refine tw_inv0 (pc := 59) rfl lk_MD_117 (Nat.le_of_ble_eq_true rfl) rfl rfl (sp_MD_changed ?_)
          refine tw_aload_n (pc := 62) rfl rfl ?_
          refine tw_getR (pc := 63) rfl fl_MD_40 rfl rfl ?_
          refine tw_iload_n (pc := 66) rfl rfl ?_
          refine tw_ialdV (pc := 67) (v := ((M 99 m.toInt.toNat) + 1)) rfl rfl ⟨by omega, by omega⟩ (by simp [tw_set]) ?_
          refine tw_ireturn (pc := 68) rfl rfl ?_
          exact h1 (by omega)
        · refine tw_iconst (pc := 30) rfl tw_ic_m1 ?_
          refine tw_ireturn (pc := 31) rfl rfl ?_
          exact h0 (by omega)
      · refine tw_if_eq (pc := 17) (tgt := 30) rfl rfl (fun _ => ?_) (fun q => absurd q (by decide))
        refine tw_iconst (pc := 30) rfl tw_ic_m1 ?_
        refine tw_ireturn (pc := 31) rfl rfl ?_
        exact h0 (by omega)
theorem sp_MD_start {d : Nat} {M : tw_M} {Q : tw_P} {f : Int32} (hD : RI M) (h1 : (0 ≤ f.toInt ∧ f.toInt ≤ 65535) → Q (some 1) (tw_set (tw_set (tw_set M 88 15 f) 88 21 0) 88 36 0)) (h0 : ¬ ((0 ≤ f.toInt ∧ f.toInt ≤ 65535)) → Q (some 0) M) : tw_C (d + 2) j_MD_start [.inr 88, .inl f] M Q := by
  refine tw_enter pn_MD dc_MD_start (Nat.le_of_ble_eq_true rfl) ?_
  have z0 := tw_ti_0
  have z1 := tw_ti_1
  refine tw_iload_n (pc := 0) rfl rfl ?_
  refine tw_invs1 (pc := 1) rfl lk_MD_114 rfl (Nat.le_of_ble_eq_true rfl) (sp_MD_isBits (fun c1 => ?_) (fun c1 => ?_))
  · refine tw_if_ne (pc := 4) (tgt := 9) rfl rfl (fun _ => ?_) (fun q => absurd q (by decide))
    refine tw_aload_n (pc := 9) rfl rfl ?_
    refine tw_iload_n (pc := 10) rfl rfl ?_
    refine tw_putI (pc := 11) rfl fp_MD_126 rfl rfl rfl rfl ?_
    refine tw_aload_n (pc := 14) rfl rfl ?_
    refine tw_inv0 (pc := 15) rfl lk_MD_117 (Nat.le_of_ble_eq_true rfl) rfl rfl (sp_MD_changed ?_)
    refine tw_iconst (pc := 18) rfl tw_ic_1 ?_
    refine tw_ireturn (pc := 19) rfl rfl ?_
    exact h1 (by omega)
  · refine tw_if_ne (pc := 4) (tgt := 9) rfl rfl (fun q => absurd q (by decide)) (fun _ => ?_)
    refine tw_iconst (pc := 7) rfl tw_ic_0 ?_
    refine tw_ireturn (pc := 8) rfl rfl ?_
    exact h0 (by omega)
theorem sp_MD_aim {d : Nat} {M : tw_M} {Q : tw_P} {t : Int32} (hD : RI M) (h1 : ((0 ≤ t.toInt ∧ t.toInt < (M 88 0).toInt) ∨ (16 ≤ t.toInt ∧ t.toInt < 16 + (M 88 6).toInt)) ∧ (M 88 16).toInt < 6 → Q (some ((M 88 16) + 1)) (tw_set (tw_set (tw_set (tw_set M 101 (M 88 16).toInt.toNat t) 88 16 ((M 88 16) + 1)) 88 21 0) 88 36 0)) (h0 : ¬ (((0 ≤ t.toInt ∧ t.toInt < (M 88 0).toInt) ∨ (16 ≤ t.toInt ∧ t.toInt < 16 + (M 88 6).toInt)) ∧ (M 88 16).toInt < 6) → Q (some (-1)) M) : tw_C (d + 3) j_MD_aim [.inr 88, .inl t] M Q := by
  have ha := hD.2.2.2.1
  refine tw_enter pn_MD dc_MD_aim (Nat.le_of_ble_eq_true rfl) ?_
  have zm1 := tw_ti_m1
  have z0 := tw_ti_0
  have z1 := tw_ti_1
  have z6 := tw_ti_6
  refine tw_aload_n (pc := 0) rfl rfl ?_
  refine tw_iload_n (pc := 1) rfl rfl ?_
  refine tw_inv1 (pc := 2) rfl lk_MD_123 (Nat.le_of_ble_eq_true rfl) rfl rfl (sp_MD_isTask hD (fun c1 => ?_) (fun c1 => ?_))
  · refine tw_if_eq (pc := 5) (tgt := 17) rfl rfl (fun q => absurd q (by decide)) (fun _ => ?_)
    refine tw_aload_n (pc := 8) rfl rfl ?_
    refine tw_getV (pc := 9) (v := (M 88 16)) rfl fl_MD_129 rfl rfl rfl ?_
    refine tw_bipush (pc := 12) rfl tw_bi_6 ?_
    refine tw_icmp_ne (pc := 14) (tgt := 19) rfl rfl (fun c2 => ?_) (fun c2 => ?_)
    · refine tw_aload_n (pc := 19) rfl rfl ?_
      refine tw_getR (pc := 20) rfl fl_MD_46 rfl rfl ?_
      refine tw_aload_n (pc := 23) rfl rfl ?_
      refine tw_getV (pc := 24) (v := (M 88 16)) rfl fl_MD_129 rfl rfl rfl ?_
      refine tw_iload_n (pc := 27) rfl rfl ?_
      refine tw_iast (pc := 28) rfl rfl ⟨by omega, by omega⟩ ?_
      refine tw_aload_n (pc := 29) rfl rfl ?_
      refine tw_dup (pc := 30) rfl ?_
      refine tw_getV (pc := 31) (v := (M 88 16)) rfl fl_MD_129 rfl rfl rfl ?_
      refine tw_iconst (pc := 34) rfl tw_ic_1 ?_
      refine tw_iaddF (pc := 35) rfl ⟨by omega, by omega⟩ (fun e3 => ?_)
      refine tw_putI (pc := 36) rfl fp_MD_129 rfl rfl rfl rfl ?_
      refine tw_aload_n (pc := 39) rfl rfl ?_
      refine tw_inv0 (pc := 40) rfl lk_MD_117 (Nat.le_of_ble_eq_true rfl) rfl rfl (sp_MD_changed ?_)
      refine tw_aload_n (pc := 43) rfl rfl ?_
      refine tw_getV (pc := 44) (v := ((M 88 16) + 1)) rfl fl_MD_129 rfl rfl rfl ?_
      refine tw_ireturn (pc := 47) rfl rfl ?_
      exact h1 (by omega)
    · refine tw_iconst (pc := 17) rfl tw_ic_m1 ?_
      refine tw_ireturn (pc := 18) rfl rfl ?_
      exact h0 (by omega)
  · refine tw_if_eq (pc := 5) (tgt := 17) rfl rfl (fun _ => ?_) (fun q => absurd q (by decide))
    refine tw_iconst (pc := 17) rfl tw_ic_m1 ?_
    refine tw_ireturn (pc := 18) rfl rfl ?_
    exact h0 (by omega)
theorem sp_MD_forget {d : Nat} {M : tw_M} {Q : tw_P} (h : Q (some (M 88 16)) (tw_set (tw_set (tw_set M 88 16 0) 88 21 0) 88 36 0)) : tw_C (d + 2) j_MD_forget [.inr 88] M Q := by
  refine tw_enter pn_MD dc_MD_forget (Nat.le_of_ble_eq_true rfl) ?_
  have z0 := tw_ti_0
  refine tw_aload_n (pc := 0) rfl rfl ?_
  refine tw_getV (pc := 1) (v := (M 88 16)) rfl fl_MD_129 rfl rfl rfl ?_
  refine tw_istore_n (pc := 4) rfl (Nat.le_of_ble_eq_true rfl) ?_
  refine tw_aload_n (pc := 5) rfl rfl ?_
  refine tw_iconst (pc := 6) rfl tw_ic_0 ?_
  refine tw_putI (pc := 7) rfl fp_MD_129 rfl rfl rfl rfl ?_
  refine tw_aload_n (pc := 10) rfl rfl ?_
  refine tw_inv0 (pc := 11) rfl lk_MD_117 (Nat.le_of_ble_eq_true rfl) rfl rfl (sp_MD_changed ?_)
  refine tw_iload_n (pc := 14) rfl rfl ?_
  refine tw_ireturn (pc := 15) rfl rfl ?_
  exact h
