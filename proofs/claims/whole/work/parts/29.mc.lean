theorem sp_MD_visit {d : Nat} {M : tw_M} {Q : tw_P} {c : Int32} (hc : 0 ≤ c.toInt ∧ c.toInt < 12) (hg : 0 ≤ (M 88 41).toInt ∧ (M 88 41).toInt < 12) (h : Q none (tw_set (tw_set (tw_set (tw_set (tw_set M 115 c.toInt.toNat 1) 112 (M 88 41).toInt.toNat c) 113 (M 88 41).toInt.toNat 0) 114 (M 88 41).toInt.toNat 0) 88 41 ((M 88 41) + 1))) : tw_C (d + 1) j_MD_visit [.inr 88, .inl c] M Q := by
  refine tw_enter pn_MD dc_MD_visit (Nat.le_of_ble_eq_true rfl) ?_
  have z0 := tw_ti_0
  have z1 := tw_ti_1
  refine tw_aload_n (pc := 0) rfl rfl ?_
  refine tw_getR (pc := 1) rfl fl_MD_89 rfl rfl ?_
  refine tw_iload_n (pc := 4) rfl rfl ?_
  refine tw_iconst (pc := 5) rfl tw_ic_1 ?_
  refine tw_iast (pc := 6) rfl rfl ⟨by omega, by omega⟩ ?_
  refine tw_aload_n (pc := 7) rfl rfl ?_
  refine tw_getR (pc := 8) rfl fl_MD_80 rfl rfl ?_
  refine tw_aload_n (pc := 11) rfl rfl ?_
  refine tw_getV (pc := 12) (v := (M 88 41)) rfl fl_MD_132 rfl rfl rfl ?_
  refine tw_iload_n (pc := 15) rfl rfl ?_
  refine tw_iast (pc := 16) rfl rfl ⟨by omega, by omega⟩ ?_
  refine tw_aload_n (pc := 17) rfl rfl ?_
  refine tw_getR (pc := 18) rfl fl_MD_83 rfl rfl ?_
  refine tw_aload_n (pc := 21) rfl rfl ?_
  refine tw_getV (pc := 22) (v := (M 88 41)) rfl fl_MD_132 rfl rfl rfl ?_
  refine tw_iconst (pc := 25) rfl tw_ic_0 ?_
  refine tw_iast (pc := 26) rfl rfl ⟨by omega, by omega⟩ ?_
  refine tw_aload_n (pc := 27) rfl rfl ?_
  refine tw_getR (pc := 28) rfl fl_MD_86 rfl rfl ?_
  refine tw_aload_n (pc := 31) rfl rfl ?_
  refine tw_getV (pc := 32) (v := (M 88 41)) rfl fl_MD_132 rfl rfl rfl ?_
  refine tw_iconst (pc := 35) rfl tw_ic_0 ?_
  refine tw_iast (pc := 36) rfl rfl ⟨by omega, by omega⟩ ?_
  refine tw_aload_n (pc := 37) rfl rfl ?_
  refine tw_dup (pc := 38) rfl ?_
  refine tw_getV (pc := 39) (v := (M 88 41)) rfl fl_MD_132 rfl rfl rfl ?_
  refine tw_iconst (pc := 42) rfl tw_ic_1 ?_
  refine tw_iadd (pc := 43) rfl ?_
  refine tw_putI (pc := 44) rfl fp_MD_132 rfl rfl rfl rfl ?_
  refine tw_return (pc := 47) rfl trivial ?_
  exact h
theorem lp_MD_from {d : Nat} {Q : tw_P} {i0 n : Nat} {P : Nat → Nat} {s : Nat} {to : Int32} {x1 x2 x3 x4 : Option tw_V} (hn : n ≤ 12) (hi0 : i0 < n) (hP : P i0 = s) (hinj : ∀ i j, i < n → j < n → P i = P j → i = j) (hto : to.toInt = (s : Int)) : ∀ (r i : Nat) (M : tw_M), (M 88 46).toInt = (i : Int) → i + r = i0 → (∀ i, i < n → (M 112 i).toInt = (P i : Int)) → (∀ M' : tw_M, (∀ q, q ≠ 88 → M' q = M q) → (∀ k, k ≠ 46 → M' 88 k = M 88 k) → (M' 88 46).toInt = (i0 : Int) → Q (some 1) M') → tw_T none d j_MD_visitOn M 176 [some (.inr 88), x1, x2, x3, x4, some (.inl to)] [] Q := by
  intro r
  induction r with
  | zero =>
    intro i M h46 hr hg h
    have ei : (M 88 46).toInt.toNat = i0 := by omega
    have e1 : (M 112 (M 88 46).toInt.toNat).toInt = (P i0 : Int) := by rw [ei]; exact hg i0 hi0
    have z0 := tw_ti_0
    have z1 := tw_ti_1
    have z2 := tw_ti_2
    have z5 := tw_ti_5
    have z16 := tw_ti_16
    refine tw_aload_n (pc := 176) rfl rfl ?_
    refine tw_getR (pc := 177) rfl fl_MD_80 rfl rfl ?_
    refine tw_aload_n (pc := 180) rfl rfl ?_
    refine tw_getV (pc := 181) (v := (M 88 46)) rfl fl_MD_139 rfl rfl rfl ?_
    refine tw_iald (pc := 184) rfl rfl ⟨by omega, by omega⟩ ?_
    refine tw_iload (pc := 185) rfl rfl ?_
    refine tw_icmp_eq (pc := 187) (tgt := 203) rfl rfl (fun c1 => ?_) (fun c1 => absurd (Int32.toInt_inj.mp (by rw [hto]; omega)) c1.1)
    refine tw_iconst (pc := 203) rfl tw_ic_1 ?_
    refine tw_ireturn (pc := 204) rfl rfl ?_
    exact h M (fun _ _ => rfl) (fun _ _ => rfl) (by omega)
  | succ r ih =>
    intro i M h46 hr hg h
    have hne : ¬ P i = s := fun e => by
      have := hinj i i0 (by omega) hi0 (e.trans hP.symm)
      omega
    have ei : (M 88 46).toInt.toNat = i := by omega
    have e1 : (M 112 (M 88 46).toInt.toNat).toInt = (P i : Int) := by rw [ei]; exact hg i (by omega)
    have z0 := tw_ti_0
    have z1 := tw_ti_1
    have z2 := tw_ti_2
    have z5 := tw_ti_5
    have z16 := tw_ti_16
    refine tw_aload_n (pc := 176) rfl rfl ?_
    refine tw_getR (pc := 177) rfl fl_MD_80 rfl rfl ?_
    refine tw_aload_n (pc := 180) rfl rfl ?_
    refine tw_getV (pc := 181) (v := (M 88 46)) rfl fl_MD_139 rfl rfl rfl ?_
    refine tw_iald (pc := 184) rfl rfl ⟨by omega, by omega⟩ ?_
    refine tw_iload (pc := 185) rfl rfl ?_
    refine tw_icmp_eq (pc := 187) (tgt := 203) rfl rfl (fun c1 => absurd c1.2 (by rw [hto]; omega)) (fun c1 => ?_)
    refine tw_aload_n (pc := 190) rfl rfl ?_
    refine tw_dup (pc := 191) rfl ?_
    refine tw_getV (pc := 192) (v := (M 88 46)) rfl fl_MD_139 rfl rfl rfl ?_
    refine tw_iconst (pc := 195) rfl tw_ic_1 ?_
    refine tw_iaddF (pc := 196) rfl ⟨by omega, by omega⟩ (fun e2 => ?_)
    refine tw_putI (pc := 197) rfl fp_MD_139 rfl rfl rfl rfl ?_
    refine tw_goto (pc := 200) (tgt := 176) rfl rfl ?_
    refine ih (i + 1) _ (by show (M 88 46 + 1).toInt = _; omega) (by omega) (fun k hk => hg k hk) (fun M' k1 k2 k3 => h M' (fun q hq => (k1 q hq).trans (tw_set_q _ _ (by omega))) (fun k hk => (k2 k hk).trans (tw_set_k _ _ (by omega))) k3)
theorem sp_MD_visitOn {d : Nat} {M : tw_M} {Q : tw_P} {w c j k : Nat} (hI : RI M) (hw : (M 88 41).toInt = (w : Int) + 1) (hw12 : w < 12) (hc : (M 112 w).toInt = (c : Int)) (hc12 : c < 12) (hj : (M 113 w).toInt = (j : Int)) (hk : (M 114 w).toInt = (k : Int)) (hjm : (j : Int) ≤ (M 94 c).toInt) (hm : (j : Int) < (M 94 c).toInt → (0 ≤ (M 95 (5 * c + j)).toInt ∧ (M 95 (5 * c + j)).toInt < 40) ∧ (k : Int) ≤ (M 99 (M 95 (5 * c + j)).toInt.toNat).toInt) (ht : (j : Int) < (M 94 c).toInt → (k : Int) < (M 99 (M 95 (5 * c + j)).toInt.toNat).toInt → ¬ (M 100 (5 * (M 95 (5 * c + j)).toInt.toNat + k)).toInt < 16 → (M 100 (5 * (M 95 (5 * c + j)).toInt.toNat + k)).toInt < 28) (hgo : ¬ (M 100 (5 * (M 95 (5 * c + j)).toInt.toNat + k)).toInt < 16 → (j : Int) < (M 94 c).toInt → (k : Int) < (M 99 (M 95 (5 * c + j)).toInt.toNat).toInt → M 115 ((M 100 (5 * (M 95 (5 * c + j)).toInt.toNat + k)) - 16).toInt.toNat = 0 → (w : Int) + 1 < 12) (h1 : (j : Int) = (M 94 c).toInt → Q (some 0) (tw_set (tw_set M 115 c 2) 88 41 (M 88 41 - 1))) (h2 : (j : Int) < (M 94 c).toInt → (k : Int) = (M 99 (M 95 (5 * c + j)).toInt.toNat).toInt → Q (some 0) (tw_set (tw_set M 113 w (M 113 w + 1)) 114 w 0)) (h3 : (j : Int) < (M 94 c).toInt → (k : Int) < (M 99 (M 95 (5 * c + j)).toInt.toNat).toInt → (M 100 (5 * (M 95 (5 * c + j)).toInt.toNat + k)).toInt < 16 → Q (some 0) (tw_set M 114 w (M 114 w + 1))) (h4 : (j : Int) < (M 94 c).toInt → (k : Int) < (M 99 (M 95 (5 * c + j)).toInt.toNat).toInt → ¬ (M 100 (5 * (M 95 (5 * c + j)).toInt.toNat + k)).toInt < 16 → M 115 ((M 100 (5 * (M 95 (5 * c + j)).toInt.toNat + k)) - 16).toInt.toNat = 0 → Q (some 0) (tw_set (tw_set (tw_set (tw_set (tw_set (tw_set M 114 w (M 114 w + 1)) 115 ((M 100 (5 * (M 95 (5 * c + j)).toInt.toNat + k)) - 16).toInt.toNat 1) 112 (w + 1) ((M 100 (5 * (M 95 (5 * c + j)).toInt.toNat + k)) - 16)) 113 (w + 1) 0) 114 (w + 1) 0) 88 41 (M 88 41 + 1))) (h5 : (j : Int) < (M 94 c).toInt → (k : Int) < (M 99 (M 95 (5 * c + j)).toInt.toNat).toInt → ¬ (M 100 (5 * (M 95 (5 * c + j)).toInt.toNat + k)).toInt < 16 → M 115 ((M 100 (5 * (M 95 (5 * c + j)).toInt.toNat + k)) - 16).toInt.toNat = 1 → tw_T none (d + 1) j_MD_visitOn (tw_set (tw_set M 114 w (M 114 w + 1)) 88 46 0) 176 [some (.inr 88), some (.inl (M 88 41 - 1)), some (.inl (M 112 w)), some (.inl (M 95 (5 * c + j))), some (.inl (M 100 (5 * (M 95 (5 * c + j)).toInt.toNat + k))), some (.inl ((M 100 (5 * (M 95 (5 * c + j)).toInt.toNat + k)) - 16))] [] Q) (h6 : (j : Int) < (M 94 c).toInt → (k : Int) < (M 99 (M 95 (5 * c + j)).toInt.toNat).toInt → ¬ (M 100 (5 * (M 95 (5 * c + j)).toInt.toNat + k)).toInt < 16 → ¬ M 115 ((M 100 (5 * (M 95 (5 * c + j)).toInt.toNat + k)) - 16).toInt.toNat = 0 → ¬ M 115 ((M 100 (5 * (M 95 (5 * c + j)).toInt.toNat + k)) - 16).toInt.toNat = 1 → Q (some 0) (tw_set M 114 w (M 114 w + 1))) : tw_C (d + 2) j_MD_visitOn [.inr 88] M Q := by
  have ew : (M 88 41 - 1).toInt = (w : Int) := by rw [tw_subI (by rw [tw_ti_1]; omega), tw_ti_1]; omega
  have ew2 : (M 88 41 - 1).toInt.toNat = w := by omega
  have ec2 : (M 112 w).toInt.toNat = c := by omega
  have hmc := hI.2.2.2.2.1 c hc12
  have e41 : (M 88 41).toInt.toNat = w + 1 := by omega
  have a1 : ((5 : Int32) * M 112 w).toInt = 5 * (c : Int) := by rw [tw_mulI (by rw [tw_ti_5]; omega), tw_ti_5, hc]
  have a2 : ((5 : Int32) * M 112 w + M 113 w).toInt = 5 * (c : Int) + (j : Int) := by rw [tw_addI (by omega), a1, hj]
  have a3 : ((5 : Int32) * M 112 w + M 113 w).toInt.toNat = 5 * c + j := by omega
  refine tw_enter pn_MD dc_MD_visitOn (Nat.le_of_ble_eq_true rfl) ?_
  have z0 := tw_ti_0
  have z1 := tw_ti_1
  have z2 := tw_ti_2
  have z5 := tw_ti_5
  have z16 := tw_ti_16
  refine tw_aload_n (pc := 0) rfl rfl ?_
  refine tw_getV (pc := 1) (v := (M 88 41)) rfl fl_MD_132 rfl rfl rfl ?_
  refine tw_iconst (pc := 4) rfl tw_ic_1 ?_
  refine tw_isubF (pc := 5) rfl ⟨by omega, by omega⟩ (fun e1 => ?_)
  refine tw_istore_n (pc := 6) rfl (Nat.le_of_ble_eq_true rfl) ?_
  refine tw_aload_n (pc := 7) rfl rfl ?_
  refine tw_getR (pc := 8) rfl fl_MD_80 rfl rfl ?_
  refine tw_iload_n (pc := 11) rfl rfl ?_
  refine tw_ialdV (pc := 12) (v := (M 112 w)) rfl rfl ⟨by omega, by omega⟩ (by rw [ew2]) ?_
  refine tw_istore_n (pc := 13) rfl (Nat.le_of_ble_eq_true rfl) ?_
  refine tw_aload_n (pc := 14) rfl rfl ?_
  refine tw_getR (pc := 15) rfl fl_MD_83 rfl rfl ?_
  refine tw_iload_n (pc := 18) rfl rfl ?_
  refine tw_ialdV (pc := 19) (v := (M 113 w)) rfl rfl ⟨by omega, by omega⟩ (by rw [ew2]) ?_
  refine tw_aload_n (pc := 20) rfl rfl ?_
  refine tw_getR (pc := 21) rfl fl_MD_25 rfl rfl ?_
  refine tw_iload_n (pc := 24) rfl rfl ?_
  refine tw_ialdV (pc := 25) (v := (M 94 c)) rfl rfl ⟨by omega, by omega⟩ (by rw [ec2]) ?_
  refine tw_icmp_ne (pc := 26) (tgt := 48) rfl rfl (fun c2 => ?_) (fun c2 => ?_)
  · have hjl : (j : Int) < (M 94 c).toInt := by omega
    have hm2 := hm hjl
    refine tw_aload_n (pc := 48) rfl rfl ?_
    refine tw_getR (pc := 49) rfl fl_MD_28 rfl rfl ?_
    refine tw_iconst (pc := 52) rfl tw_ic_5 ?_
    refine tw_iload_n (pc := 53) rfl rfl ?_
    refine tw_imul (pc := 54) rfl ?_
    refine tw_aload_n (pc := 55) rfl rfl ?_
    refine tw_getR (pc := 56) rfl fl_MD_83 rfl rfl ?_
    refine tw_iload_n (pc := 59) rfl rfl ?_
    refine tw_ialdV (pc := 60) (v := (M 113 w)) rfl rfl ⟨by omega, by omega⟩ (by rw [ew2]) ?_
    refine tw_iadd (pc := 61) rfl ?_
    refine tw_ialdV (pc := 62) (v := (M 95 (5 * c + j))) rfl rfl ⟨by omega, by omega⟩ (by rw [a3]) ?_
    refine tw_istore_n (pc := 63) rfl (Nat.le_of_ble_eq_true rfl) ?_
    refine tw_aload_n (pc := 64) rfl rfl ?_
    refine tw_getR (pc := 65) rfl fl_MD_86 rfl rfl ?_
    refine tw_iload_n (pc := 68) rfl rfl ?_
    refine tw_ialdV (pc := 69) (v := (M 114 w)) rfl rfl ⟨by omega, by omega⟩ (by rw [ew2]) ?_
    refine tw_aload_n (pc := 70) rfl rfl ?_
    refine tw_getR (pc := 71) rfl fl_MD_40 rfl rfl ?_
    refine tw_iload_n (pc := 74) rfl rfl ?_
    refine tw_ialdV (pc := 75) (v := (M 99 (M 95 (5 * c + j)).toInt.toNat)) rfl rfl ⟨by omega, by omega⟩ rfl ?_
    refine tw_icmp_ne (pc := 76) (tgt := 98) rfl rfl (fun c3 => ?_) (fun c3 => ?_)
    · have hkl : (k : Int) < (M 99 (M 95 (5 * c + j)).toInt.toNat).toInt := by omega
      have a4 : ((5 : Int32) * (M 95 (5 * c + j))).toInt = 5 * (M 95 (5 * c + j)).toInt := by rw [tw_mulI (by rw [tw_ti_5]; omega), tw_ti_5]
      have hpm := hI.2.2.2.2.2 (M 95 (5 * c + j)).toInt.toNat (by omega)
      have a5 : ((5 : Int32) * (M 95 (5 * c + j)) + M 114 w).toInt = 5 * (M 95 (5 * c + j)).toInt + (k : Int) := by rw [tw_addI (by omega), a4, hk]
      have a6 : ((5 : Int32) * (M 95 (5 * c + j)) + M 114 w).toInt.toNat = 5 * (M 95 (5 * c + j)).toInt.toNat + k := by omega
      refine tw_aload_n (pc := 98) rfl rfl ?_
      refine tw_getR (pc := 99) rfl fl_MD_43 rfl rfl ?_
      refine tw_iconst (pc := 102) rfl tw_ic_5 ?_
      refine tw_iload_n (pc := 103) rfl rfl ?_
      refine tw_imul (pc := 104) rfl ?_
      refine tw_aload_n (pc := 105) rfl rfl ?_
      refine tw_getR (pc := 106) rfl fl_MD_86 rfl rfl ?_
      refine tw_iload_n (pc := 109) rfl rfl ?_
      refine tw_ialdV (pc := 110) (v := (M 114 w)) rfl rfl ⟨by omega, by omega⟩ (by rw [ew2]) ?_
      refine tw_iadd (pc := 111) rfl ?_
      refine tw_ialdV (pc := 112) (v := (M 100 (5 * (M 95 (5 * c + j)).toInt.toNat + k))) rfl rfl ⟨by omega, by omega⟩ (by rw [a6]) ?_
      refine tw_istore (pc := 113) rfl (Nat.le_of_ble_eq_true rfl) ?_
      refine tw_aload_n (pc := 115) rfl rfl ?_
      refine tw_getR (pc := 116) rfl fl_MD_86 rfl rfl ?_
      refine tw_iload_n (pc := 119) rfl rfl ?_
      refine tw_dup2 (pc := 120) rfl ?_
      refine tw_ialdV (pc := 121) (v := (M 114 w)) rfl rfl ⟨by omega, by omega⟩ (by rw [ew2]) ?_
      refine tw_iconst (pc := 122) rfl tw_ic_1 ?_
      refine tw_iadd (pc := 123) rfl ?_
      refine tw_iast (pc := 124) rfl rfl ⟨by omega, by omega⟩ ?_
      refine tw_iload (pc := 125) rfl rfl ?_
      refine tw_bipush (pc := 127) rfl tw_bi_16 ?_
      refine tw_icmp_ge (pc := 129) (tgt := 134) rfl rfl (fun c4 => ?_) (fun c4 => ?_)
      · have ht2 := ht hjl hkl (by omega)
        have es : ((M 100 (5 * (M 95 (5 * c + j)).toInt.toNat + k)) - 16).toInt = (M 100 (5 * (M 95 (5 * c + j)).toInt.toNat + k)).toInt - 16 := by rw [tw_subI (by rw [tw_ti_16]; omega), tw_ti_16]
        refine tw_iload (pc := 134) rfl rfl ?_
        refine tw_bipush (pc := 136) rfl tw_bi_16 ?_
        refine tw_isubF (pc := 138) rfl ⟨by omega, by omega⟩ (fun e5 => ?_)
        refine tw_istore (pc := 139) rfl (Nat.le_of_ble_eq_true rfl) ?_
        refine tw_aload_n (pc := 141) rfl rfl ?_
        refine tw_getR (pc := 142) rfl fl_MD_89 rfl rfl ?_
        refine tw_iload (pc := 145) rfl rfl ?_
        refine tw_ialdV (pc := 147) (v := (M 115 ((M 100 (5 * (M 95 (5 * c + j)).toInt.toNat + k)) - 16).toInt.toNat)) rfl rfl ⟨by omega, by omega⟩ rfl ?_
        refine tw_if_ne (pc := 148) (tgt := 160) rfl rfl (fun c6 => ?_) (fun c6 => ?_)
        · refine tw_aload_n (pc := 160) rfl rfl ?_
          refine tw_getR (pc := 161) rfl fl_MD_89 rfl rfl ?_
          refine tw_iload (pc := 164) rfl rfl ?_
          refine tw_ialdV (pc := 166) (v := (M 115 ((M 100 (5 * (M 95 (5 * c + j)).toInt.toNat + k)) - 16).toInt.toNat)) rfl rfl ⟨by omega, by omega⟩ rfl ?_
          refine tw_iconst (pc := 167) rfl tw_ic_1 ?_
          refine tw_icmp_ne (pc := 168) (tgt := 205) rfl rfl (fun c7 => ?_) (fun c7 => ?_)
          · refine tw_iconst (pc := 205) rfl tw_ic_0 ?_
            refine tw_ireturn (pc := 206) rfl rfl ?_
            rw [ew2]
            first | exact h3 hjl hkl (by omega) | exact h6 hjl hkl (by omega) (And.left (by assumption)) (And.left (by assumption))
          · refine tw_aload_n (pc := 171) rfl rfl ?_
            refine tw_iconst (pc := 172) rfl tw_ic_0 ?_
            refine tw_putI (pc := 173) rfl fp_MD_139 rfl rfl rfl rfl ?_
            have h := h5 hjl hkl (by omega) (And.left (by assumption))
            rw [ew2]
            exact h
        · refine tw_aload_n (pc := 151) rfl rfl ?_
          refine tw_iload (pc := 152) rfl rfl ?_
          refine tw_inv1 (pc := 154) rfl lk_MD_135 (Nat.le_of_ble_eq_true rfl) rfl rfl (sp_MD_visit (by omega) (show 0 ≤ (M 88 41).toInt ∧ (M 88 41).toInt < 12 from ⟨by omega, by have := hgo (by omega) hjl hkl (And.left (by assumption)); omega⟩) ?_)
          refine tw_goto (pc := 157) (tgt := 205) rfl rfl ?_
          refine tw_iconst (pc := 205) rfl tw_ic_0 ?_
          refine tw_ireturn (pc := 206) rfl rfl ?_
          have h := h4 hjl hkl (by omega) (And.left (by assumption))
          have e41b : (tw_set M 114 w (M 114 w + 1) 88 41).toInt.toNat = w + 1 := e41
          rw [ew2, e41b]
          exact h
      · refine tw_iconst (pc := 132) rfl tw_ic_0 ?_
        refine tw_ireturn (pc := 133) rfl rfl ?_
        rw [ew2]
        first | exact h3 hjl hkl (by omega) | exact h6 hjl hkl (by omega) (And.left (by assumption)) (And.left (by assumption))
    · refine tw_aload_n (pc := 79) rfl rfl ?_
      refine tw_getR (pc := 80) rfl fl_MD_83 rfl rfl ?_
      refine tw_iload_n (pc := 83) rfl rfl ?_
      refine tw_dup2 (pc := 84) rfl ?_
      refine tw_ialdV (pc := 85) (v := (M 113 w)) rfl rfl ⟨by omega, by omega⟩ (by rw [ew2]) ?_
      refine tw_iconst (pc := 86) rfl tw_ic_1 ?_
      refine tw_iadd (pc := 87) rfl ?_
      refine tw_iast (pc := 88) rfl rfl ⟨by omega, by omega⟩ ?_
      refine tw_aload_n (pc := 89) rfl rfl ?_
      refine tw_getR (pc := 90) rfl fl_MD_86 rfl rfl ?_
      refine tw_iload_n (pc := 93) rfl rfl ?_
      refine tw_iconst (pc := 94) rfl tw_ic_0 ?_
      refine tw_iast (pc := 95) rfl rfl ⟨by omega, by omega⟩ ?_
      refine tw_iconst (pc := 96) rfl tw_ic_0 ?_
      refine tw_ireturn (pc := 97) rfl rfl ?_
      have h := h2 hjl (by omega)
      rw [ew2]
      exact h
  · refine tw_aload_n (pc := 29) rfl rfl ?_
    refine tw_getR (pc := 30) rfl fl_MD_89 rfl rfl ?_
    refine tw_iload_n (pc := 33) rfl rfl ?_
    refine tw_iconst (pc := 34) rfl tw_ic_2 ?_
    refine tw_iast (pc := 35) rfl rfl ⟨by omega, by omega⟩ ?_
    refine tw_aload_n (pc := 36) rfl rfl ?_
    refine tw_dup (pc := 37) rfl ?_
    refine tw_getV (pc := 38) (v := (M 88 41)) rfl fl_MD_132 rfl rfl rfl ?_
    refine tw_iconst (pc := 41) rfl tw_ic_1 ?_
    refine tw_isub (pc := 42) rfl ?_
    refine tw_putI (pc := 43) rfl fp_MD_132 rfl rfl rfl rfl ?_
    refine tw_iconst (pc := 46) rfl tw_ic_0 ?_
    refine tw_ireturn (pc := 47) rfl rfl ?_
    have h := h1 (by omega)
    rw [ec2]
    exact h
