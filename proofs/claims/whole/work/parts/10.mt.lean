theorem addR_kept {M : tw_M} (hn : 0 ≤ (M 88 28).toInt ∧ (M 88 28).toInt < 48) (hk : ∀ i : Nat, (i : Int) < (M 88 28).toInt → ¬ M 108 i = 0 → 16 ≤ (M 105 i).toInt ∧ (M 105 i).toInt < 28) : (0 ≤ (addR M 88 28).toInt ∧ (addR M 88 28).toInt ≤ 48) ∧ ∀ i : Nat, (i : Int) < (addR M 88 28).toInt → ¬ addR M 108 i = 0 → 16 ≤ (addR M 105 i).toInt ∧ (addR M 105 i).toInt < 28 := by
  have e28 : (addR M 88 28).toInt = (M 88 28).toInt + 1 := by
    show (M 88 28 + 1).toInt = _
    rw [tw_addI (by rw [tw_ti_1]; omega), tw_ti_1]
  refine ⟨by rw [e28]; omega, ?_⟩
  intro i hi hz
  rw [e28] at hi
  by_cases e : i = (M 88 28).toInt.toNat
  · exact absurd (by simp [addR, tw_set, e, -Int32.toNat_toInt]) hz
  · have b1 : addR M 105 i = M 105 i := by simp [addR, tw_set, e, -Int32.toNat_toInt]
    have b2 : addR M 108 i = M 108 i := by simp [addR, tw_set, e, -Int32.toNat_toInt]
    rw [b1]
    exact hk i (by omega) (by rw [← b2]; exact hz)
theorem sp_MD_take {d : Nat} {M : tw_M} {Q : tw_P} {A : tw_M} (hD : DR A M) (hG : GoR A M) (hne : ¬ M 88 26 = -1) (h : Q none (takeR M)) : tw_C (d + 2) j_MD_take [.inr 88] M Q := by
  obtain ⟨hn, hh, ht⟩ := ref_take hD hG hne
  have hk := kept_task hD hG
  clear hD hG hne
  refine tw_enter pn_MD dc_MD_take (Nat.le_of_ble_eq_true rfl) ?_
  have zm1 := tw_ti_m1
  have z0 := tw_ti_0
  have z1 := tw_ti_1
  have z16 := tw_ti_16
  have z48 := tw_ti_48
  refine tw_aload_n (pc := 0) rfl rfl ?_
  refine tw_getR (pc := 1) rfl fl_MD_49 rfl rfl ?_
  refine tw_aload_n (pc := 4) rfl rfl ?_
  refine tw_getV (pc := 5) (v := (M 88 26)) rfl fl_MD_167 rfl rfl rfl ?_
  refine tw_iald (pc := 8) rfl rfl ⟨by omega, by omega⟩ ?_
  refine tw_istore_n (pc := 9) rfl (Nat.le_of_ble_eq_true rfl) ?_
  refine tw_aload_n (pc := 10) rfl rfl ?_
  refine tw_getR (pc := 11) rfl fl_MD_52 rfl rfl ?_
  refine tw_aload_n (pc := 14) rfl rfl ?_
  refine tw_getV (pc := 15) (v := (M 88 26)) rfl fl_MD_167 rfl rfl rfl ?_
  refine tw_iald (pc := 18) rfl rfl ⟨by omega, by omega⟩ ?_
  refine tw_istore_n (pc := 19) rfl (Nat.le_of_ble_eq_true rfl) ?_
  refine tw_aload_n (pc := 20) rfl rfl ?_
  refine tw_aload_n (pc := 21) rfl rfl ?_
  refine tw_getR (pc := 22) rfl fl_MD_55 rfl rfl ?_
  refine tw_aload_n (pc := 25) rfl rfl ?_
  refine tw_getV (pc := 26) (v := (M 88 26)) rfl fl_MD_167 rfl rfl rfl ?_
  refine tw_iald (pc := 29) rfl rfl ⟨by omega, by omega⟩ ?_
  refine tw_putI (pc := 30) rfl fp_MD_167 rfl rfl rfl rfl ?_
  refine tw_aload_n (pc := 33) rfl rfl ?_
  refine tw_getV (pc := 34) (v := (M 88 28)) rfl fl_MD_161 rfl rfl rfl ?_
  refine tw_bipush (pc := 37) rfl tw_bi_48 ?_
  refine tw_icmp_ne (pc := 39) (tgt := 47) rfl rfl (fun c1 => ?_) (fun c1 => ?_)
  · have hn48 : 0 ≤ (M 88 28).toInt ∧ (M 88 28).toInt < 48 := by omega
    obtain ⟨hn1, hk1⟩ := addR_kept hn48 hk
    refine tw_aload_n (pc := 47) rfl rfl ?_
    refine tw_getR (pc := 48) rfl fl_MD_58 rfl rfl ?_
    refine tw_aload_n (pc := 51) rfl rfl ?_
    refine tw_getV (pc := 52) (v := (M 88 28)) rfl fl_MD_161 rfl rfl rfl ?_
    refine tw_iload_n (pc := 55) rfl rfl ?_
    refine tw_iast (pc := 56) rfl rfl ⟨by omega, by omega⟩ ?_
    refine tw_aload_n (pc := 57) rfl rfl ?_
    refine tw_getR (pc := 58) rfl fl_MD_61 rfl rfl ?_
    refine tw_aload_n (pc := 61) rfl rfl ?_
    refine tw_getV (pc := 62) (v := (M 88 28)) rfl fl_MD_161 rfl rfl rfl ?_
    refine tw_iload_n (pc := 65) rfl rfl ?_
    refine tw_iast (pc := 66) rfl rfl ⟨by omega, by omega⟩ ?_
    refine tw_aload_n (pc := 67) rfl rfl ?_
    refine tw_getR (pc := 68) rfl fl_MD_64 rfl rfl ?_
    refine tw_aload_n (pc := 71) rfl rfl ?_
    refine tw_getV (pc := 72) (v := (M 88 28)) rfl fl_MD_161 rfl rfl rfl ?_
    refine tw_iconst (pc := 75) rfl tw_ic_0 ?_
    refine tw_iast (pc := 76) rfl rfl ⟨by omega, by omega⟩ ?_
    refine tw_aload_n (pc := 77) rfl rfl ?_
    refine tw_getR (pc := 78) rfl fl_MD_67 rfl rfl ?_
    refine tw_aload_n (pc := 81) rfl rfl ?_
    refine tw_getV (pc := 82) (v := (M 88 28)) rfl fl_MD_161 rfl rfl rfl ?_
    refine tw_iconst (pc := 85) rfl tw_ic_0 ?_
    refine tw_bast (pc := 86) rfl rfl ⟨by omega, by omega⟩ rfl ?_
    refine tw_aload_n (pc := 87) rfl rfl ?_
    refine tw_getR (pc := 88) rfl fl_MD_71 rfl rfl ?_
    refine tw_aload_n (pc := 91) rfl rfl ?_
    refine tw_getV (pc := 92) (v := (M 88 28)) rfl fl_MD_161 rfl rfl rfl ?_
    refine tw_aload_n (pc := 95) rfl rfl ?_
    refine tw_getV (pc := 96) (v := (M 88 25)) rfl fl_MD_158 rfl rfl rfl ?_
    refine tw_iast (pc := 99) rfl rfl ⟨by omega, by omega⟩ ?_
    refine tw_aload_n (pc := 100) rfl rfl ?_
    refine tw_getR (pc := 101) rfl fl_MD_74 rfl rfl ?_
    refine tw_aload_n (pc := 104) rfl rfl ?_
    refine tw_getV (pc := 105) (v := (M 88 28)) rfl fl_MD_161 rfl rfl rfl ?_
    refine tw_aload_n (pc := 108) rfl rfl ?_
    refine tw_getV (pc := 109) (v := (M 104 (M 88 26).toInt.toNat)) rfl fl_MD_167 rfl rfl rfl ?_
    refine tw_iast (pc := 112) rfl rfl ⟨by omega, by omega⟩ ?_
    refine tw_aload_n (pc := 113) rfl rfl ?_
    refine tw_getR (pc := 114) rfl fl_MD_77 rfl rfl ?_
    refine tw_aload_n (pc := 117) rfl rfl ?_
    refine tw_getV (pc := 118) (v := (M 88 28)) rfl fl_MD_161 rfl rfl rfl ?_
    refine tw_aload_n (pc := 121) rfl rfl ?_
    refine tw_getV (pc := 122) (v := (M 88 27)) rfl fl_MD_164 rfl rfl rfl ?_
    refine tw_iast (pc := 125) rfl rfl ⟨by omega, by omega⟩ ?_
    refine tw_aload_n (pc := 126) rfl rfl ?_
    refine tw_dup (pc := 127) rfl ?_
    refine tw_getV (pc := 128) (v := (M 88 28)) rfl fl_MD_161 rfl rfl rfl ?_
    refine tw_iconst (pc := 131) rfl tw_ic_1 ?_
    refine tw_iadd (pc := 132) rfl ?_
    refine tw_putI (pc := 133) rfl fp_MD_161 rfl rfl rfl rfl ?_
    refine tw_iload_n (pc := 136) rfl rfl ?_
    refine tw_bipush (pc := 137) rfl tw_bi_16 ?_
    refine tw_icmp_ge (pc := 139) (tgt := 198) rfl rfl (fun c2 => ?_) (fun c2 => ?_)
    · refine tw_aload_n (pc := 198) rfl rfl ?_
      refine tw_getR (pc := 199) rfl fl_MD_25 rfl rfl ?_
      refine tw_iload_n (pc := 202) rfl rfl ?_
      refine tw_bipush (pc := 203) rfl tw_bi_16 ?_
      refine tw_isubF (pc := 205) rfl ⟨by omega, by omega⟩ (fun e3 => ?_)
      refine tw_ialdV (pc := 206) (v := (M 94 ((M 102 (M 88 26).toInt.toNat) - 16).toInt.toNat)) rfl rfl ⟨by omega, by omega⟩ rfl ?_
      refine tw_if_le (pc := 207) (tgt := 218) rfl rfl (fun c4 => ?_) (fun c4 => ?_)
      · refine tw_aload_n (pc := 218) rfl rfl ?_
        refine tw_inv0 (pc := 219) rfl lk_MD_174 (Nat.le_of_ble_eq_true rfl) rfl rfl (sp_MD_fail hn1 hk1 ?_)
        refine tw_return (pc := 222) rfl trivial ?_
        first
        | (have hc : M 88 28 = 48 := And.left (by assumption)
           unfold takeR at h
           rw [if_pos hc] at h
           exact h)
        | (have hc : ¬ M 88 28 = 48 := And.left (by assumption)
           unfold takeR at h
           rw [if_neg hc] at h
           unfold doneR at h
           first
           | (have ht1 : (M 102 (M 88 26).toInt.toNat).toInt < 16 := by omega
              rw [if_pos ht1] at h
              first
              | (have hx : pH (M 89 (M 102 (M 88 26).toInt.toNat).toInt.toNat) (M 90 (M 102 (M 88 26).toInt.toNat).toInt.toNat) (M 88 25) := by assumption
                 have hx2 : pH (addR M 89 (M 102 (M 88 26).toInt.toNat).toInt.toNat) (addR M 90 (M 102 (M 88 26).toInt.toNat).toInt.toNat) (addR M 88 25) := hx
                 rw [if_pos hx2] at h
                 exact h)
              | (have hx : ¬ pH (M 89 (M 102 (M 88 26).toInt.toNat).toInt.toNat) (M 90 (M 102 (M 88 26).toInt.toNat).toInt.toNat) (M 88 25) := by assumption
                 have hx2 : ¬ pH (addR M 89 (M 102 (M 88 26).toInt.toNat).toInt.toNat) (addR M 90 (M 102 (M 88 26).toInt.toNat).toInt.toNat) (addR M 88 25) := hx
                 rw [if_neg hx2] at h
                 exact h))
           | (have ht1 : ¬ (M 102 (M 88 26).toInt.toNat).toInt < 16 := by omega
              rw [if_neg ht1] at h
              first
              | (have hx : 0 < (M 94 ((M 102 (M 88 26).toInt.toNat) - 16).toInt.toNat).toInt := by omega
                 have hx2 : 0 < (addR M 94 ((M 102 (M 88 26).toInt.toNat) - 16).toInt.toNat).toInt := hx
                 rw [if_pos hx2] at h
                 exact h)
              | (have hx : ¬ 0 < (M 94 ((M 102 (M 88 26).toInt.toNat) - 16).toInt.toNat).toInt := by omega
                 have hx2 : ¬ 0 < (addR M 94 ((M 102 (M 88 26).toInt.toNat) - 16).toInt.toNat).toInt := hx
                 rw [if_neg hx2] at h
                 exact h)))
      · refine tw_aload_n (pc := 210) rfl rfl ?_
        refine tw_iconst (pc := 211) rfl tw_ic_1 ?_
        refine tw_putI (pc := 212) rfl fp_MD_152 rfl rfl rfl rfl ?_
        refine tw_goto (pc := 215) (tgt := 222) rfl rfl ?_
        refine tw_return (pc := 222) rfl trivial ?_
        first
        | (have hc : M 88 28 = 48 := And.left (by assumption)
           unfold takeR at h
           rw [if_pos hc] at h
           exact h)
        | (have hc : ¬ M 88 28 = 48 := And.left (by assumption)
           unfold takeR at h
           rw [if_neg hc] at h
           unfold doneR at h
           first
           | (have ht1 : (M 102 (M 88 26).toInt.toNat).toInt < 16 := by omega
              rw [if_pos ht1] at h
              first
              | (have hx : pH (M 89 (M 102 (M 88 26).toInt.toNat).toInt.toNat) (M 90 (M 102 (M 88 26).toInt.toNat).toInt.toNat) (M 88 25) := by assumption
                 have hx2 : pH (addR M 89 (M 102 (M 88 26).toInt.toNat).toInt.toNat) (addR M 90 (M 102 (M 88 26).toInt.toNat).toInt.toNat) (addR M 88 25) := hx
                 rw [if_pos hx2] at h
                 exact h)
              | (have hx : ¬ pH (M 89 (M 102 (M 88 26).toInt.toNat).toInt.toNat) (M 90 (M 102 (M 88 26).toInt.toNat).toInt.toNat) (M 88 25) := by assumption
                 have hx2 : ¬ pH (addR M 89 (M 102 (M 88 26).toInt.toNat).toInt.toNat) (addR M 90 (M 102 (M 88 26).toInt.toNat).toInt.toNat) (addR M 88 25) := hx
                 rw [if_neg hx2] at h
                 exact h))
           | (have ht1 : ¬ (M 102 (M 88 26).toInt.toNat).toInt < 16 := by omega
              rw [if_neg ht1] at h
              first
              | (have hx : 0 < (M 94 ((M 102 (M 88 26).toInt.toNat) - 16).toInt.toNat).toInt := by omega
                 have hx2 : 0 < (addR M 94 ((M 102 (M 88 26).toInt.toNat) - 16).toInt.toNat).toInt := hx
                 rw [if_pos hx2] at h
                 exact h)
              | (have hx : ¬ 0 < (M 94 ((M 102 (M 88 26).toInt.toNat) - 16).toInt.toNat).toInt := by omega
                 have hx2 : ¬ 0 < (addR M 94 ((M 102 (M 88 26).toInt.toNat) - 16).toInt.toNat).toInt := hx
                 rw [if_neg hx2] at h
                 exact h)))
    · refine tw_aload_n (pc := 142) rfl rfl ?_
      refine tw_getV (pc := 143) (v := (M 88 25)) rfl fl_MD_158 rfl rfl rfl ?_
      refine tw_aload_n (pc := 146) rfl rfl ?_
      refine tw_getR (pc := 147) rfl fl_MD_7 rfl rfl ?_
      refine tw_iload_n (pc := 150) rfl rfl ?_
      refine tw_ialdV (pc := 151) (v := (M 89 (M 102 (M 88 26).toInt.toNat).toInt.toNat)) rfl rfl ⟨by omega, by omega⟩ rfl ?_
      refine tw_aload_n (pc := 152) rfl rfl ?_
      refine tw_getR (pc := 153) rfl fl_MD_13 rfl rfl ?_
      refine tw_iload_n (pc := 156) rfl rfl ?_
      refine tw_ialdV (pc := 157) (v := (M 90 (M 102 (M 88 26).toInt.toNat).toInt.toNat)) rfl rfl ⟨by omega, by omega⟩ rfl ?_
      refine tw_invs3 (pc := 158) rfl lk_MD_177 rfl (Nat.le_of_ble_eq_true rfl) (sp_MD_holds (fun c6 => ?_) (fun c6 => ?_))
      · refine tw_if_eq (pc := 161) (tgt := 191) rfl rfl (fun q => absurd q (by decide)) (fun _ => ?_)
        refine tw_aload_n (pc := 164) rfl rfl ?_
        refine tw_aload_n (pc := 165) rfl rfl ?_
        refine tw_getV (pc := 166) (v := (M 88 25)) rfl fl_MD_158 rfl rfl rfl ?_
        refine tw_aload_n (pc := 169) rfl rfl ?_
        refine tw_getR (pc := 170) rfl fl_MD_19 rfl rfl ?_
        refine tw_iload_n (pc := 173) rfl rfl ?_
        refine tw_ialdV (pc := 174) (v := (M 92 (M 102 (M 88 26).toInt.toNat).toInt.toNat)) rfl rfl ⟨by omega, by omega⟩ rfl ?_
        refine tw_iconst (pc := 175) rfl tw_ic_m1 ?_
        refine tw_ixor (pc := 176) rfl ?_
        refine tw_iand (pc := 177) rfl ?_
        refine tw_aload_n (pc := 178) rfl rfl ?_
        refine tw_getR (pc := 179) rfl fl_MD_16 rfl rfl ?_
        refine tw_iload_n (pc := 182) rfl rfl ?_
        refine tw_ialdV (pc := 183) (v := (M 91 (M 102 (M 88 26).toInt.toNat).toInt.toNat)) rfl rfl ⟨by omega, by omega⟩ rfl ?_
        refine tw_ior (pc := 184) rfl ?_
        refine tw_putI (pc := 185) rfl fp_MD_158 rfl rfl rfl rfl ?_
        refine tw_goto (pc := 188) (tgt := 222) rfl rfl ?_
        refine tw_return (pc := 222) rfl trivial ?_
        first
        | (have hc : M 88 28 = 48 := And.left (by assumption)
           unfold takeR at h
           rw [if_pos hc] at h
           exact h)
        | (have hc : ¬ M 88 28 = 48 := And.left (by assumption)
           unfold takeR at h
           rw [if_neg hc] at h
           unfold doneR at h
           first
           | (have ht1 : (M 102 (M 88 26).toInt.toNat).toInt < 16 := by omega
              rw [if_pos ht1] at h
              first
              | (have hx : pH (M 89 (M 102 (M 88 26).toInt.toNat).toInt.toNat) (M 90 (M 102 (M 88 26).toInt.toNat).toInt.toNat) (M 88 25) := by assumption
                 have hx2 : pH (addR M 89 (M 102 (M 88 26).toInt.toNat).toInt.toNat) (addR M 90 (M 102 (M 88 26).toInt.toNat).toInt.toNat) (addR M 88 25) := hx
                 rw [if_pos hx2] at h
                 exact h)
              | (have hx : ¬ pH (M 89 (M 102 (M 88 26).toInt.toNat).toInt.toNat) (M 90 (M 102 (M 88 26).toInt.toNat).toInt.toNat) (M 88 25) := by assumption
                 have hx2 : ¬ pH (addR M 89 (M 102 (M 88 26).toInt.toNat).toInt.toNat) (addR M 90 (M 102 (M 88 26).toInt.toNat).toInt.toNat) (addR M 88 25) := hx
                 rw [if_neg hx2] at h
                 exact h))
           | (have ht1 : ¬ (M 102 (M 88 26).toInt.toNat).toInt < 16 := by omega
              rw [if_neg ht1] at h
              first
              | (have hx : 0 < (M 94 ((M 102 (M 88 26).toInt.toNat) - 16).toInt.toNat).toInt := by omega
                 have hx2 : 0 < (addR M 94 ((M 102 (M 88 26).toInt.toNat) - 16).toInt.toNat).toInt := hx
                 rw [if_pos hx2] at h
                 exact h)
              | (have hx : ¬ 0 < (M 94 ((M 102 (M 88 26).toInt.toNat) - 16).toInt.toNat).toInt := by omega
                 have hx2 : ¬ 0 < (addR M 94 ((M 102 (M 88 26).toInt.toNat) - 16).toInt.toNat).toInt := hx
                 rw [if_neg hx2] at h
                 exact h)))
      · refine tw_if_eq (pc := 161) (tgt := 191) rfl rfl (fun _ => ?_) (fun q => absurd q (by decide))
        refine tw_aload_n (pc := 191) rfl rfl ?_
        refine tw_inv0 (pc := 192) rfl lk_MD_174 (Nat.le_of_ble_eq_true rfl) rfl rfl (sp_MD_fail hn1 hk1 ?_)
        refine tw_goto (pc := 195) (tgt := 222) rfl rfl ?_
        refine tw_return (pc := 222) rfl trivial ?_
        first
        | (have hc : M 88 28 = 48 := And.left (by assumption)
           unfold takeR at h
           rw [if_pos hc] at h
           exact h)
        | (have hc : ¬ M 88 28 = 48 := And.left (by assumption)
           unfold takeR at h
           rw [if_neg hc] at h
           unfold doneR at h
           first
           | (have ht1 : (M 102 (M 88 26).toInt.toNat).toInt < 16 := by omega
              rw [if_pos ht1] at h
              first
              | (have hx : pH (M 89 (M 102 (M 88 26).toInt.toNat).toInt.toNat) (M 90 (M 102 (M 88 26).toInt.toNat).toInt.toNat) (M 88 25) := by assumption
                 have hx2 : pH (addR M 89 (M 102 (M 88 26).toInt.toNat).toInt.toNat) (addR M 90 (M 102 (M 88 26).toInt.toNat).toInt.toNat) (addR M 88 25) := hx
                 rw [if_pos hx2] at h
                 exact h)
              | (have hx : ¬ pH (M 89 (M 102 (M 88 26).toInt.toNat).toInt.toNat) (M 90 (M 102 (M 88 26).toInt.toNat).toInt.toNat) (M 88 25) := by assumption
                 have hx2 : ¬ pH (addR M 89 (M 102 (M 88 26).toInt.toNat).toInt.toNat) (addR M 90 (M 102 (M 88 26).toInt.toNat).toInt.toNat) (addR M 88 25) := hx
                 rw [if_neg hx2] at h
                 exact h))
           | (have ht1 : ¬ (M 102 (M 88 26).toInt.toNat).toInt < 16 := by omega
              rw [if_neg ht1] at h
              first
              | (have hx : 0 < (M 94 ((M 102 (M 88 26).toInt.toNat) - 16).toInt.toNat).toInt := by omega
                 have hx2 : 0 < (addR M 94 ((M 102 (M 88 26).toInt.toNat) - 16).toInt.toNat).toInt := hx
                 rw [if_pos hx2] at h
                 exact h)
              | (have hx : ¬ 0 < (M 94 ((M 102 (M 88 26).toInt.toNat) - 16).toInt.toNat).toInt := by omega
                 have hx2 : ¬ 0 < (addR M 94 ((M 102 (M 88 26).toInt.toNat) - 16).toInt.toNat).toInt := hx
                 rw [if_neg hx2] at h
                 exact h)))
  · refine tw_aload_n (pc := 42) rfl rfl ?_
    refine tw_inv0 (pc := 43) rfl lk_MD_174 (Nat.le_of_ble_eq_true rfl) rfl rfl (sp_MD_fail hn hk ?_)
    refine tw_return (pc := 46) rfl trivial ?_
    first
    | (have hc : M 88 28 = 48 := And.left (by assumption)
       unfold takeR at h
       rw [if_pos hc] at h
       exact h)
    | (have hc : ¬ M 88 28 = 48 := And.left (by assumption)
       unfold takeR at h
       rw [if_neg hc] at h
       unfold doneR at h
       first
       | (have ht1 : (M 102 (M 88 26).toInt.toNat).toInt < 16 := by omega
          rw [if_pos ht1] at h
          first
          | (have hx : pH (M 89 (M 102 (M 88 26).toInt.toNat).toInt.toNat) (M 90 (M 102 (M 88 26).toInt.toNat).toInt.toNat) (M 88 25) := by assumption
             have hx2 : pH (addR M 89 (M 102 (M 88 26).toInt.toNat).toInt.toNat) (addR M 90 (M 102 (M 88 26).toInt.toNat).toInt.toNat) (addR M 88 25) := hx
             rw [if_pos hx2] at h
             exact h)
          | (have hx : ¬ pH (M 89 (M 102 (M 88 26).toInt.toNat).toInt.toNat) (M 90 (M 102 (M 88 26).toInt.toNat).toInt.toNat) (M 88 25) := by assumption
             have hx2 : ¬ pH (addR M 89 (M 102 (M 88 26).toInt.toNat).toInt.toNat) (addR M 90 (M 102 (M 88 26).toInt.toNat).toInt.toNat) (addR M 88 25) := hx
             rw [if_neg hx2] at h
             exact h))
       | (have ht1 : ¬ (M 102 (M 88 26).toInt.toNat).toInt < 16 := by omega
          rw [if_neg ht1] at h
          first
          | (have hx : 0 < (M 94 ((M 102 (M 88 26).toInt.toNat) - 16).toInt.toNat).toInt := by omega
             have hx2 : 0 < (addR M 94 ((M 102 (M 88 26).toInt.toNat) - 16).toInt.toNat).toInt := hx
             rw [if_pos hx2] at h
             exact h)
          | (have hx : ¬ 0 < (M 94 ((M 102 (M 88 26).toInt.toNat) - 16).toInt.toNat).toInt := by omega
             have hx2 : ¬ 0 < (addR M 94 ((M 102 (M 88 26).toInt.toNat) - 16).toInt.toNat).toInt := hx
             rw [if_neg hx2] at h
             exact h)))
theorem lp_MD_try {d : Nat} {Q : tw_P} {v c m : Int32} (hm : 0 ≤ m.toInt ∧ m.toInt < 40) : ∀ (n : Nat) (M : tw_M) (pl : Int32), n ≤ 5 → (0 ≤ (M 88 27).toInt ∧ (M 88 27).toInt + (n : Int) ≤ 250) → pl.toInt = (n : Int) - 1 → Q none (putRs 26 v M (dl (fun k => M 100 (5 * m.toInt.toNat + k)) n)) → tw_T none (d + 1) j_MD_tryMethod M 77 [some (.inr 88), some (.inl v), some (.inl c), some (.inl m), some (.inl pl)] [] Q := by
  intro n
  induction n with
  | zero =>
    intro M pl h6 hc hp h
    have zm1 := tw_ti_m1
    have z0 := tw_ti_0
    have z1 := tw_ti_1
    have z5 := tw_ti_5
    have z16 := tw_ti_16
    refine tw_iload (pc := 77) rfl rfl ?_
    refine tw_if_lt (pc := 79) (tgt := 126) rfl rfl (fun c1 => ?_) (fun c1 => absurd c1 (by omega))
    refine tw_goto (pc := 126) (tgt := 158) rfl rfl ?_
    refine tw_return (pc := 158) rfl trivial ?_
    exact h
  | succ n ih =>
    intro M pl h6 hc hp h
    have q3 := tw_dec1 hp (by omega)
    have e27 : (M 88 27 + 1).toInt = (M 88 27).toInt + 1 := by rw [tw_addI (by rw [tw_ti_1]; omega), tw_ti_1]
    have q2 : 0 ≤ (M 88 27 + 1).toInt ∧ (M 88 27 + 1).toInt + (n : Int) ≤ 250 := by omega
    have zm1 := tw_ti_m1
    have z0 := tw_ti_0
    have z1 := tw_ti_1
    have z5 := tw_ti_5
    have z16 := tw_ti_16
    refine tw_iload (pc := 77) rfl rfl ?_
    refine tw_if_lt (pc := 79) (tgt := 126) rfl rfl (fun c1 => absurd c1 (by omega)) (fun c1 => ?_)
    refine tw_aload_n (pc := 82) rfl rfl ?_
    refine tw_aload_n (pc := 83) rfl rfl ?_
    refine tw_aload_n (pc := 84) rfl rfl ?_
    refine tw_getV (pc := 85) (v := (M 88 27)) rfl fl_MD_164 rfl rfl rfl ?_
    refine tw_aload_n (pc := 88) rfl rfl ?_
    refine tw_getR (pc := 89) rfl fl_MD_43 rfl rfl ?_
    refine tw_iconst (pc := 92) rfl tw_ic_5 ?_
    refine tw_iload_n (pc := 93) rfl rfl ?_
    refine tw_imul5F (pc := 94) rfl ⟨by omega, by omega⟩ (fun e2 => ?_)
    refine tw_iload (pc := 95) rfl rfl ?_
    refine tw_iaddF (pc := 97) rfl ⟨by omega, by omega⟩ (fun e3 => ?_)
    refine tw_ialdV (pc := 98) (v := (M 100 (5 * m.toInt.toNat + n))) rfl rfl ⟨by omega, by omega⟩ (by rw [show (5 * m + pl).toInt.toNat = 5 * m.toInt.toNat + n by omega]) ?_
    refine tw_iload_n (pc := 99) rfl rfl ?_
    refine tw_aload_n (pc := 100) rfl rfl ?_
    refine tw_getV (pc := 101) (v := (M 88 26)) rfl fl_MD_167 rfl rfl rfl ?_
    refine tw_inv4 (pc := 104) rfl lk_MD_170 (Nat.le_of_ble_eq_true rfl) rfl rfl (sp_MD_before (by omega) ?_)
    refine tw_putI (pc := 107) rfl fp_MD_167 rfl rfl rfl rfl ?_
    refine tw_aload_n (pc := 110) rfl rfl ?_
    refine tw_dup (pc := 111) rfl ?_
    refine tw_getV (pc := 112) (v := (M 88 27)) rfl fl_MD_164 rfl rfl rfl ?_
    refine tw_iconst (pc := 115) rfl tw_ic_1 ?_
    refine tw_iadd (pc := 116) rfl ?_
    refine tw_putI (pc := 117) rfl fp_MD_164 rfl rfl rfl rfl ?_
    refine tw_iinc (pc := 120) rfl rfl tw_ic_m1 (Nat.le_of_ble_eq_true rfl) ?_
    refine tw_goto (pc := 123) (tgt := 77) rfl rfl ?_
    exact ih (putR 26 M (M 100 (5 * m.toInt.toNat + n)) v) _ (by omega) q2 q3 h
theorem sp_MD_tryMethod {d : Nat} {M : tw_M} {Q : tw_P} {A : tw_M} (hD : DR A M) (hG : GoR A M) (h9 : M 88 23 = 1) (h : Q none (tryR M (M 88 28 - 1))) : tw_C (d + 2) j_MD_tryMethod [.inr 88] M Q := by
  obtain ⟨v, hv1, hv2, hv3, hv4, hv5, hv6⟩ := ref_try hD hG h9
  have hk := kept_task hD hG
  have hI := RI_of hD
  have e28 : (M 88 28 - 1).toInt = (v : Int) := by rw [tw_subI (by rw [tw_ti_1]; omega), tw_ti_1]; omega
  obtain rfl : v = (M 88 28 - 1).toInt.toNat := by omega
  have hv5 : 0 ≤ (M 95 (5 * (M 105 (M 88 28 - 1).toInt.toNat - 16) + M 107 (M 88 28 - 1).toInt.toNat).toInt.toNat).toInt ∧ (M 95 (5 * (M 105 (M 88 28 - 1).toInt.toNat - 16) + M 107 (M 88 28 - 1).toInt.toNat).toInt.toNat).toInt < 40 := hv5
  have hn : 0 ≤ (M 88 28).toInt ∧ (M 88 28).toInt ≤ 48 := by omega
  have hpm0 := hI.2.2.2.2.2 (M 95 (5 * (M 105 (M 88 28 - 1).toInt.toNat - 16) + M 107 (M 88 28 - 1).toInt.toNat).toInt.toNat).toInt.toNat (by omega)
  have e5 : ((5 : Int32) * (M 105 (M 88 28 - 1).toInt.toNat - 16)).toInt = 5 * (M 105 (M 88 28 - 1).toInt.toNat - 16).toInt := by
    have e16 : (M 105 (M 88 28 - 1).toInt.toNat - 16).toInt = (M 105 (M 88 28 - 1).toInt.toNat).toInt - 16 := by rw [tw_subI (by rw [tw_ti_16]; omega), tw_ti_16]
    rw [tw_mulI (by rw [tw_ti_5]; omega), tw_ti_5]
  clear hD hG h9
  refine tw_enter pn_MD dc_MD_tryMethod (Nat.le_of_ble_eq_true rfl) ?_
  have zm1 := tw_ti_m1
  have z0 := tw_ti_0
  have z1 := tw_ti_1
  have z5 := tw_ti_5
  have z16 := tw_ti_16
  refine tw_aload_n (pc := 0) rfl rfl ?_
  refine tw_getV (pc := 1) (v := (M 88 28)) rfl fl_MD_161 rfl rfl rfl ?_
  refine tw_iconst (pc := 4) rfl tw_ic_1 ?_
  refine tw_isubF (pc := 5) rfl ⟨by omega, by omega⟩ (fun e1 => ?_)
  refine tw_istore_n (pc := 6) rfl (Nat.le_of_ble_eq_true rfl) ?_
  refine tw_aload_n (pc := 7) rfl rfl ?_
  refine tw_getR (pc := 8) rfl fl_MD_58 rfl rfl ?_
  refine tw_iload_n (pc := 11) rfl rfl ?_
  refine tw_iald (pc := 12) rfl rfl ⟨by omega, by omega⟩ ?_
  refine tw_bipush (pc := 13) rfl tw_bi_16 ?_
  refine tw_isubF (pc := 15) rfl ⟨by omega, by omega⟩ (fun e2 => ?_)
  refine tw_istore_n (pc := 16) rfl (Nat.le_of_ble_eq_true rfl) ?_
  refine tw_aload_n (pc := 17) rfl rfl ?_
  refine tw_getR (pc := 18) rfl fl_MD_28 rfl rfl ?_
  refine tw_iconst (pc := 21) rfl tw_ic_5 ?_
  refine tw_iload_n (pc := 22) rfl rfl ?_
  refine tw_imul5F (pc := 23) rfl ⟨by omega, by omega⟩ (fun e3 => ?_)
  refine tw_aload_n (pc := 24) rfl rfl ?_
  refine tw_getR (pc := 25) rfl fl_MD_64 rfl rfl ?_
  refine tw_iload_n (pc := 28) rfl rfl ?_
  refine tw_iald (pc := 29) rfl rfl ⟨by omega, by omega⟩ ?_
  refine tw_iaddF (pc := 30) rfl ⟨by omega, by omega⟩ (fun e4 => ?_)
  refine tw_iald (pc := 31) rfl rfl ⟨by omega, by omega⟩ ?_
  refine tw_istore_n (pc := 32) rfl (Nat.le_of_ble_eq_true rfl) ?_
  refine tw_aload_n (pc := 33) rfl rfl ?_
  refine tw_getV (pc := 34) (v := (M 88 25)) rfl fl_MD_158 rfl rfl rfl ?_
  refine tw_aload_n (pc := 37) rfl rfl ?_
  refine tw_getR (pc := 38) rfl fl_MD_34 rfl rfl ?_
  refine tw_iload_n (pc := 41) rfl rfl ?_
  refine tw_iald (pc := 42) rfl rfl ⟨by omega, by omega⟩ ?_
  refine tw_aload_n (pc := 43) rfl rfl ?_
  refine tw_getR (pc := 44) rfl fl_MD_37 rfl rfl ?_
  refine tw_iload_n (pc := 47) rfl rfl ?_
  refine tw_iald (pc := 48) rfl rfl ⟨by omega, by omega⟩ ?_
  refine tw_invs3 (pc := 49) rfl lk_MD_177 rfl (Nat.le_of_ble_eq_true rfl) (sp_MD_holds (fun c5 => ?_) (fun c5 => ?_))
  · refine tw_if_eq (pc := 52) (tgt := 129) rfl rfl (fun q => absurd q (by decide)) (fun _ => ?_)
    refine tw_aload_n (pc := 55) rfl rfl ?_
    refine tw_getR (pc := 56) rfl fl_MD_67 rfl rfl ?_
    refine tw_iload_n (pc := 59) rfl rfl ?_
    refine tw_iconst (pc := 60) rfl tw_ic_1 ?_
    refine tw_bast (pc := 61) rfl rfl ⟨by omega, by omega⟩ rfl ?_
    refine tw_aload_n (pc := 62) rfl rfl ?_
    refine tw_iconst (pc := 63) rfl tw_ic_0 ?_
    refine tw_putI (pc := 64) rfl fp_MD_152 rfl rfl rfl rfl ?_
    refine tw_aload_n (pc := 67) rfl rfl ?_
    refine tw_getR (pc := 68) rfl fl_MD_40 rfl rfl ?_
    refine tw_iload_n (pc := 71) rfl rfl ?_
    refine tw_ialdV (pc := 72) (v := (M 99 (M 95 ((5 * ((M 105 ((M 88 28) - 1).toInt.toNat) - 16)) + (M 107 ((M 88 28) - 1).toInt.toNat)).toInt.toNat).toInt.toNat)) rfl rfl ⟨by omega, by omega⟩ rfl ?_
    refine tw_iconst (pc := 73) rfl tw_ic_1 ?_
    refine tw_isubF (pc := 74) rfl ⟨by omega, by omega⟩ (fun e6 => ?_)
    refine tw_istore (pc := 75) rfl (Nat.le_of_ble_eq_true rfl) ?_
    unfold tryR at h
    have hx : pH (M 97 (M 95 (5 * (M 105 (M 88 28 - 1).toInt.toNat - 16) + M 107 (M 88 28 - 1).toInt.toNat).toInt.toNat).toInt.toNat) (M 98 (M 95 (5 * (M 105 (M 88 28 - 1).toInt.toNat - 16) + M 107 (M 88 28 - 1).toInt.toNat).toInt.toNat).toInt.toNat) (M 88 25) := by assumption
    have hx2 : pH (M 97 (ownR M (M 88 28 - 1).toInt.toNat).toInt.toNat) (M 98 (ownR M (M 88 28 - 1).toInt.toNat).toInt.toNat) (M 88 25) := hx
    rw [if_pos hx2] at h
    have hpm := hI.2.2.2.2.2 (M 95 (5 * (M 105 (M 88 28 - 1).toInt.toNat - 16) + M 107 (M 88 28 - 1).toInt.toNat).toInt.toNat).toInt.toNat (by omega)
    exact lp_MD_try hv5 (M 99 (M 95 (5 * (M 105 (M 88 28 - 1).toInt.toNat - 16) + M 107 (M 88 28 - 1).toInt.toNat).toInt.toNat).toInt.toNat).toInt.toNat _ _ (by omega) ⟨hv6.1, by show (M 88 27).toInt + _ ≤ 250; omega⟩ (by omega) h
  · refine tw_if_eq (pc := 52) (tgt := 129) rfl rfl (fun _ => ?_) (fun q => absurd q (by decide))
    refine tw_aload_n (pc := 129) rfl rfl ?_
    refine tw_getR (pc := 130) rfl fl_MD_64 rfl rfl ?_
    refine tw_iload_n (pc := 133) rfl rfl ?_
    refine tw_dup2 (pc := 134) rfl ?_
    refine tw_iald (pc := 135) rfl rfl ⟨by omega, by omega⟩ ?_
    refine tw_iconst (pc := 136) rfl tw_ic_1 ?_
    refine tw_iadd (pc := 137) rfl ?_
    refine tw_iast (pc := 138) rfl rfl ⟨by omega, by omega⟩ ?_
    refine tw_aload_n (pc := 139) rfl rfl ?_
    refine tw_getR (pc := 140) rfl fl_MD_64 rfl rfl ?_
    refine tw_iload_n (pc := 143) rfl rfl ?_
    refine tw_ialdV (pc := 144) (v := ((M 107 ((M 88 28) - 1).toInt.toNat) + 1)) rfl rfl ⟨by omega, by omega⟩ (by simp [tw_set]) ?_
    refine tw_aload_n (pc := 145) rfl rfl ?_
    refine tw_getR (pc := 146) rfl fl_MD_25 rfl rfl ?_
    refine tw_iload_n (pc := 149) rfl rfl ?_
    refine tw_ialdV (pc := 150) (v := (M 94 ((M 105 ((M 88 28) - 1).toInt.toNat) - 16).toInt.toNat)) rfl rfl ⟨by omega, by omega⟩ rfl ?_
    refine tw_icmp_ne (pc := 151) (tgt := 158) rfl rfl (fun c7 => ?_) (fun c7 => ?_)
    · refine tw_return (pc := 158) rfl trivial ?_
      unfold tryR at h
      have hx : ¬ pH (M 97 (M 95 (5 * (M 105 (M 88 28 - 1).toInt.toNat - 16) + M 107 (M 88 28 - 1).toInt.toNat).toInt.toNat).toInt.toNat) (M 98 (M 95 (5 * (M 105 (M 88 28 - 1).toInt.toNat - 16) + M 107 (M 88 28 - 1).toInt.toNat).toInt.toNat).toInt.toNat) (M 88 25) := by assumption
      have hx2 : ¬ pH (M 97 (ownR M (M 88 28 - 1).toInt.toNat).toInt.toNat) (M 98 (ownR M (M 88 28 - 1).toInt.toNat).toInt.toNat) (M 88 25) := hx
      rw [if_neg hx2] at h
      first
      | (have hy : M 107 (M 88 28 - 1).toInt.toNat + 1 = M 94 (M 105 (M 88 28 - 1).toInt.toNat - 16).toInt.toNat := And.left (by assumption)
         rw [if_pos hy] at h
         exact h)
      | (have hy : ¬ M 107 (M 88 28 - 1).toInt.toNat + 1 = M 94 (M 105 (M 88 28 - 1).toInt.toNat - 16).toInt.toNat := And.left (by assumption)
         rw [if_neg hy] at h
         exact h)
    · refine tw_aload_n (pc := 154) rfl rfl ?_
      refine tw_inv0 (pc := 155) rfl lk_MD_174 (Nat.le_of_ble_eq_true rfl) rfl rfl (sp_MD_fail hn hk ?_)
      refine tw_return (pc := 158) rfl trivial ?_
      unfold tryR at h
      have hx : ¬ pH (M 97 (M 95 (5 * (M 105 (M 88 28 - 1).toInt.toNat - 16) + M 107 (M 88 28 - 1).toInt.toNat).toInt.toNat).toInt.toNat) (M 98 (M 95 (5 * (M 105 (M 88 28 - 1).toInt.toNat - 16) + M 107 (M 88 28 - 1).toInt.toNat).toInt.toNat).toInt.toNat) (M 88 25) := by assumption
      have hx2 : ¬ pH (M 97 (ownR M (M 88 28 - 1).toInt.toNat).toInt.toNat) (M 98 (ownR M (M 88 28 - 1).toInt.toNat).toInt.toNat) (M 88 25) := hx
      rw [if_neg hx2] at h
      first
      | (have hy : M 107 (M 88 28 - 1).toInt.toNat + 1 = M 94 (M 105 (M 88 28 - 1).toInt.toNat - 16).toInt.toNat := And.left (by assumption)
         rw [if_pos hy] at h
         exact h)
      | (have hy : ¬ M 107 (M 88 28 - 1).toInt.toNat + 1 = M 94 (M 105 (M 88 28 - 1).toInt.toNat - 16).toInt.toNat := And.left (by assumption)
         rw [if_neg hy] at h
         exact h)
theorem tl_MD_run {d : Nat} {M : tw_M} {Q : tw_P} {fu mk : Int32} (h : Q (some (ansR M)) M) : tw_T none (d + 1) j_MD_run M 55 [some (.inr 88), some (.inl fu), some (.inl mk)] [] Q := by
  have z0 := tw_ti_0
  have z1 := tw_ti_1
  have z2 := tw_ti_2
  refine tw_aload_n (pc := 55) rfl rfl ?_
  refine tw_getV (pc := 56) (v := (M 88 22)) rfl fl_MD_149 rfl rfl rfl ?_
  refine tw_if_eq (pc := 59) (tgt := 66) rfl rfl (fun c1 => ?_) (fun c1 => ?_)
  · refine tw_aload_n (pc := 66) rfl rfl ?_
    refine tw_inv0 (pc := 67) rfl lk_MD_181 (Nat.le_of_ble_eq_true rfl) rfl rfl (sp_MD_isFound (fun c2 => ?_) (fun c2 => ?_))
    · refine tw_if_eq (pc := 70) (tgt := 77) rfl rfl (fun q => absurd q (by decide)) (fun _ => ?_)
      refine tw_iconst (pc := 73) rfl tw_ic_0 ?_
      refine tw_goto (pc := 74) (tgt := 78) rfl rfl ?_
      refine tw_ireturn (pc := 78) rfl rfl ?_
      unfold ansR at h
      rw [if_pos c1.1, if_pos c2] at h
      exact h
    · refine tw_if_eq (pc := 70) (tgt := 77) rfl rfl (fun _ => ?_) (fun q => absurd q (by decide))
      refine tw_iconst (pc := 77) rfl tw_ic_2 ?_
      refine tw_ireturn (pc := 78) rfl rfl ?_
      unfold ansR at h
      rw [if_pos c1.1, if_neg c2] at h
      exact h
  · refine tw_iconst (pc := 62) rfl tw_ic_1 ?_
    refine tw_goto (pc := 63) (tgt := 78) rfl rfl ?_
    refine tw_ireturn (pc := 78) rfl rfl ?_
    unfold ansR at h
    rw [if_neg c1.1] at h
    exact h
theorem lp_MD_run {d : Nat} {Q : tw_P} {fu : Int32} (hf : fu.toInt ≤ 5000) : ∀ (n : Nat) (A M : tw_M) (mk : Int32), DR A M → StR A M → (0 ≤ mk.toInt ∧ fu.toInt = mk.toInt + (n : Int)) → Q (some (ansR (itR n M))) (itR n M) → tw_T none (d + 2) j_MD_run M 2 [some (.inr 88), some (.inl fu), some (.inl mk)] [] Q := by
  intro n
  induction n with
  | zero =>
    intro A M mk hD hS hm h
    have z0 := tw_ti_0
    have z1 := tw_ti_1
    have z2 := tw_ti_2
    refine tw_iload_n (pc := 2) rfl rfl ?_
    refine tw_iload_n (pc := 3) rfl rfl ?_
    refine tw_icmp_ge (pc := 4) (tgt := 55) rfl rfl (fun c1 => ?_) (fun c1 => absurd c1 (by omega))
    exact tl_MD_run h
  | succ n ih =>
    intro A M mk hD hS hm h
    have hon := on_R hS
    by_cases h2 : A 70 12 = 2
    · have hgo := hon.mp h2
      have hov := hgo.1
      have hnf := hgo.2
      have e : itR (n + 1) M = itR n (stepR M) := by simp only [itR]; exact if_pos hgo
      rw [e] at h
      obtain ⟨hG, hnA⟩ : GoR A M ∧ ¬ (A 70 9 = 0 ∧ A 71 4 = -1) := by
        rcases hS with ⟨_, g, f⟩ | ⟨a, _⟩ | g
        · exact ⟨g, f⟩
        · rw [a] at h2; exact absurd h2 (by decide)
        · rw [g.1] at h2; exact absurd h2 (by decide)
      have hG1 := GoR_inc hG
      have hD1 : DR (tw_set A 70 11 (A 70 11 + 1)) (tw_set M 88 24 (M 88 24 + 1)) := DR_congr hD ⟨fun q hq => tw_set_q _ _ (by omega), fun q h1 h2 => tw_set_q _ _ (by omega), fun k hk => tw_set_k _ _ (by omega)⟩
      have hst := step_R hD hG h2 hnA
      have hdr := DR_step hD
      have e9 : A 70 9 = M 88 23 := hG.1.1
      rcases open_R hG with h9 | h9
      · rw [e9] at h9
        have hne : ¬ M 88 26 = -1 := fun q => hnf ⟨by rw [hG.1.2.2.2.2.2.2.1]; decide, hov, h9, q⟩
        have es : stepR M = takeR (tw_set M 88 24 (M 88 24 + 1)) := if_pos h9
        have z0 := tw_ti_0
        have z1 := tw_ti_1
        have z2 := tw_ti_2
        refine tw_iload_n (pc := 2) rfl rfl ?_
        refine tw_iload_n (pc := 3) rfl rfl ?_
        refine tw_icmp_ge (pc := 4) (tgt := 55) rfl rfl (fun c1 => absurd c1 (by omega)) (fun c1 => ?_)
        refine tw_aload_n (pc := 7) rfl rfl ?_
        refine tw_getV (pc := 8) (v := (M 88 22)) rfl fl_MD_149 rfl rfl rfl ?_
        refine tw_if_ne (pc := 11) (tgt := 55) rfl rfl (fun c2 => absurd hov c2.1) (fun c2 => ?_)
        refine tw_aload_n (pc := 14) rfl rfl ?_
        refine tw_inv0 (pc := 15) rfl lk_MD_181 (Nat.le_of_ble_eq_true rfl) rfl rfl (sp_MD_isFound (fun c3 => ?_) (fun c3 => ?_))
        · refine tw_if_ne (pc := 18) (tgt := 55) rfl rfl (fun _ => ?_) (fun q => absurd q (by decide))
          exact absurd (by assumption) hnf
        · refine tw_if_ne (pc := 18) (tgt := 55) rfl rfl (fun q => absurd q (by decide)) (fun _ => ?_)
          refine tw_aload_n (pc := 21) rfl rfl ?_
          refine tw_dup (pc := 22) rfl ?_
          refine tw_getV (pc := 23) (v := (M 88 24)) rfl fl_MD_155 rfl rfl rfl ?_
          refine tw_iconst (pc := 26) rfl tw_ic_1 ?_
          refine tw_iadd (pc := 27) rfl ?_
          refine tw_putI (pc := 28) rfl fp_MD_155 rfl rfl rfl rfl ?_
          refine tw_aload_n (pc := 31) rfl rfl ?_
          refine tw_getV (pc := 32) (v := (M 88 23)) rfl fl_MD_152 rfl rfl rfl ?_
          refine tw_if_eq (pc := 35) (tgt := 45) rfl rfl (fun c4 => ?_) (fun c4 => absurd h9 c4.1)
          refine tw_aload_n (pc := 45) rfl rfl ?_
          refine tw_inv0 (pc := 46) rfl lk_MD_187 (Nat.le_of_ble_eq_true rfl) rfl rfl (sp_MD_take hD1 hG1 hne ?_)
          refine tw_iincF (pc := 49) rfl rfl tw_ic_1 (Nat.le_of_ble_eq_true rfl) ⟨by omega, by omega⟩ (fun e6 => ?_)
          refine tw_goto (pc := 52) (tgt := 2) rfl rfl ?_
          rw [← es]
          exact ih (stepC A) (stepR M) _ hdr hst ⟨by omega, by omega⟩ h
      · rw [e9] at h9
        have hn0 : ¬ M 88 23 = 0 := by rw [h9]; decide
        have es : stepR M = tryR (tw_set M 88 24 (M 88 24 + 1)) (tw_set M 88 24 (M 88 24 + 1) 88 28 - 1) := if_neg hn0
        have z0 := tw_ti_0
        have z1 := tw_ti_1
        have z2 := tw_ti_2
        refine tw_iload_n (pc := 2) rfl rfl ?_
        refine tw_iload_n (pc := 3) rfl rfl ?_
        refine tw_icmp_ge (pc := 4) (tgt := 55) rfl rfl (fun c1 => absurd c1 (by omega)) (fun c1 => ?_)
        refine tw_aload_n (pc := 7) rfl rfl ?_
        refine tw_getV (pc := 8) (v := (M 88 22)) rfl fl_MD_149 rfl rfl rfl ?_
        refine tw_if_ne (pc := 11) (tgt := 55) rfl rfl (fun c2 => absurd hov c2.1) (fun c2 => ?_)
        refine tw_aload_n (pc := 14) rfl rfl ?_
        refine tw_inv0 (pc := 15) rfl lk_MD_181 (Nat.le_of_ble_eq_true rfl) rfl rfl (sp_MD_isFound (fun c3 => ?_) (fun c3 => ?_))
        · refine tw_if_ne (pc := 18) (tgt := 55) rfl rfl (fun _ => ?_) (fun q => absurd q (by decide))
          exact absurd (by assumption) hnf
        · refine tw_if_ne (pc := 18) (tgt := 55) rfl rfl (fun q => absurd q (by decide)) (fun _ => ?_)
          refine tw_aload_n (pc := 21) rfl rfl ?_
          refine tw_dup (pc := 22) rfl ?_
          refine tw_getV (pc := 23) (v := (M 88 24)) rfl fl_MD_155 rfl rfl rfl ?_
          refine tw_iconst (pc := 26) rfl tw_ic_1 ?_
          refine tw_iadd (pc := 27) rfl ?_
          refine tw_putI (pc := 28) rfl fp_MD_155 rfl rfl rfl rfl ?_
          refine tw_aload_n (pc := 31) rfl rfl ?_
          refine tw_getV (pc := 32) (v := (M 88 23)) rfl fl_MD_152 rfl rfl rfl ?_
          refine tw_if_eq (pc := 35) (tgt := 45) rfl rfl (fun c4 => absurd c4.1 hn0) (fun c4 => ?_)
          refine tw_aload_n (pc := 38) rfl rfl ?_
          refine tw_inv0 (pc := 39) rfl lk_MD_184 (Nat.le_of_ble_eq_true rfl) rfl rfl (sp_MD_tryMethod hD1 hG1 h9 ?_)
          refine tw_goto (pc := 42) (tgt := 49) rfl rfl ?_
          refine tw_iincF (pc := 49) rfl rfl tw_ic_1 (Nat.le_of_ble_eq_true rfl) ⟨by omega, by omega⟩ (fun e6 => ?_)
          refine tw_goto (pc := 52) (tgt := 2) rfl rfl ?_
          rw [← es]
          exact ih (stepC A) (stepR M) _ hdr hst ⟨by omega, by omega⟩ h
    · have hno : ¬ (M 88 22 = 0 ∧ ¬ (¬ M 88 21 = 0 ∧ M 88 22 = 0 ∧ M 88 23 = 0 ∧ M 88 26 = -1)) := fun q => h2 (hon.mpr q)
      have e : itR (n + 1) M = M := by simp only [itR]; exact if_neg hno
      rw [e] at h
      have z0 := tw_ti_0
      have z1 := tw_ti_1
      have z2 := tw_ti_2
      refine tw_iload_n (pc := 2) rfl rfl ?_
      refine tw_iload_n (pc := 3) rfl rfl ?_
      refine tw_icmp_ge (pc := 4) (tgt := 55) rfl rfl (fun c1 => absurd c1 (by omega)) (fun c1 => ?_)
      refine tw_aload_n (pc := 7) rfl rfl ?_
      refine tw_getV (pc := 8) (v := (M 88 22)) rfl fl_MD_149 rfl rfl rfl ?_
      refine tw_if_ne (pc := 11) (tgt := 55) rfl rfl (fun c2 => ?_) (fun c2 => ?_)
      · exact tl_MD_run h
      · refine tw_aload_n (pc := 14) rfl rfl ?_
        refine tw_inv0 (pc := 15) rfl lk_MD_181 (Nat.le_of_ble_eq_true rfl) rfl rfl (sp_MD_isFound (fun c3 => ?_) (fun c3 => ?_))
        · refine tw_if_ne (pc := 18) (tgt := 55) rfl rfl (fun _ => ?_) (fun q => absurd q (by decide))
          exact tl_MD_run h
        · refine tw_if_ne (pc := 18) (tgt := 55) rfl rfl (fun q => absurd q (by decide)) (fun _ => ?_)
          exact absurd ⟨And.left (by assumption), by assumption⟩ hno
theorem sp_MD_run {d : Nat} {M : tw_M} {Q : tw_P} {fu : Int32} {A : tw_M} (hf : 0 ≤ fu.toInt ∧ fu.toInt ≤ 5000) (hD : DR A M) (hS : StR A M) (h : Q (some (ansR (itR fu.toInt.toNat M))) (itR fu.toInt.toNat M)) : tw_C (d + 3) j_MD_run [.inr 88, .inl fu] M Q := by
  refine tw_enter pn_MD dc_MD_run (Nat.le_of_ble_eq_true rfl) ?_
  have z0 := tw_ti_0
  have z1 := tw_ti_1
  have z2 := tw_ti_2
  refine tw_iconst (pc := 0) rfl tw_ic_0 ?_
  refine tw_istore_n (pc := 1) rfl (Nat.le_of_ble_eq_true rfl) ?_
  exact lp_MD_run hf.2 fu.toInt.toNat A _ _ hD hS (by omega) h
