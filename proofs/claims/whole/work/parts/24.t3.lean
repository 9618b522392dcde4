theorem sp_MD_another {d : Nat} {M : tw_M} {Q : tw_P} {fu : Int32} {A : tw_M} (hg : (¬ M 88 21 = 0 ∧ M 88 22 = 0 ∧ M 88 23 = 0 ∧ M 88 26 = -1) → (0 ≤ (M 88 28).toInt ∧ (M 88 28).toInt ≤ 48) ∧ (∀ i : Nat, (i : Int) < (M 88 28).toInt → ¬ M 108 i = 0 → 16 ≤ (M 105 i).toInt ∧ (M 105 i).toInt < 28) ∧ DR A (failR M (M 88 28).toInt.toNat) ∧ StR A (failR M (M 88 28).toInt.toNat)) (h0 : ¬ ((0 ≤ fu.toInt ∧ fu.toInt ≤ 5000) ∧ (¬ M 88 21 = 0 ∧ M 88 22 = 0 ∧ M 88 23 = 0 ∧ M 88 26 = -1)) → Q (some (-1)) M) (h1 : (0 ≤ fu.toInt ∧ fu.toInt ≤ 5000) → (¬ M 88 21 = 0 ∧ M 88 22 = 0 ∧ M 88 23 = 0 ∧ M 88 26 = -1) → Q (some (ansR (itR fu.toInt.toNat (failR M (M 88 28).toInt.toNat)))) (itR fu.toInt.toNat (failR M (M 88 28).toInt.toNat))) : tw_C (d + 4) j_MD_another [.inr 88, .inl fu] M Q := by
  refine tw_enter pn_MD dc_MD_another (Nat.le_of_ble_eq_true rfl) ?_
  have zm1 := tw_ti_m1
  have z0 := tw_ti_0
  refine tw_iload_n (pc := 0) rfl rfl ?_
  refine tw_invs1 (pc := 1) rfl lk_MD_190 rfl (Nat.le_of_ble_eq_true rfl) (sp_MD_isFuel (fun c1 => ?_) (fun c1 => ?_))
  · refine tw_if_eq (pc := 4) (tgt := 14) rfl rfl (fun q => absurd q (by decide)) (fun _ => ?_)
    refine tw_aload_n (pc := 7) rfl rfl ?_
    refine tw_inv0 (pc := 8) rfl lk_MD_181 (Nat.le_of_ble_eq_true rfl) rfl rfl (sp_MD_isFound (fun c2 => ?_) (fun c2 => ?_))
    · refine tw_if_ne (pc := 11) (tgt := 16) rfl rfl (fun _ => ?_) (fun q => absurd q (by decide))
      have hfu : (0 ≤ fu.toInt ∧ fu.toInt ≤ 5000) := by assumption
      have hff : (¬ M 88 21 = 0 ∧ M 88 22 = 0 ∧ M 88 23 = 0 ∧ M 88 26 = -1) := by assumption
      obtain ⟨g1, g2, g3, g4⟩ := hg hff
      refine tw_aload_n (pc := 16) rfl rfl ?_
      refine tw_inv0 (pc := 17) rfl lk_MD_174 (Nat.le_of_ble_eq_true rfl) rfl rfl (sp_MD_fail g1 g2 ?_)
      refine tw_aload_n (pc := 20) rfl rfl ?_
      refine tw_iload_n (pc := 21) rfl rfl ?_
      refine tw_inv1 (pc := 22) rfl lk_MD_196 (Nat.le_of_ble_eq_true rfl) rfl rfl (sp_MD_run hfu g3 g4 ?_)
      refine tw_ireturn (pc := 25) rfl rfl ?_
      exact h1 (by assumption) (by assumption)
    · refine tw_if_ne (pc := 11) (tgt := 16) rfl rfl (fun q => absurd q (by decide)) (fun _ => ?_)
      refine tw_iconst (pc := 14) rfl tw_ic_m1 ?_
      refine tw_ireturn (pc := 15) rfl rfl ?_
      first | exact h0 (fun q => absurd q.1 (by assumption)) | exact h0 (fun q => absurd q.2 (by assumption))
  · refine tw_if_eq (pc := 4) (tgt := 14) rfl rfl (fun _ => ?_) (fun q => absurd q (by decide))
    refine tw_iconst (pc := 14) rfl tw_ic_m1 ?_
    refine tw_ireturn (pc := 15) rfl rfl ?_
    first | exact h0 (fun q => absurd q.1 (by assumption)) | exact h0 (fun q => absurd q.2 (by assumption))
theorem op_another {d : Nat} {M : tw_M} {fu : Int32} (h : IV M) : tw_C (d + 8) j_TW_another [.inr 0, .inl fu] M (fun r1 M1 => ∃ v, r1 = some v ∧ tw_C (d + 8) j_MD_another [.inr 88, .inl fu] M1 (fun r2 M2 => r2 = some v ∧ IV M2)) := by
  obtain ⟨hD, hS, hC⟩ := id h
  rcases fnd_R hS with ⟨a, g, f⟩ | ⟨a, f⟩
  · have hn := GoR_n g
    have h9 : M 70 9 = 0 := g.1.1.trans f.2.2.1
    refine sp_TW_another (N := failR M (M 88 28).toInt.toNat) hn hD.1 (fun _ => rej_R hD g a h9) (fun q => ⟨_, rfl, ?_⟩) (fun q1 _ => ⟨_, rfl, ?_⟩)
    · exact sp_MD_another (A := seeC (rejC M)) (fun _ => ⟨by rw [← g.1.2.2.2.2.2.1]; exact hn, kept_task hD g, (rej_R hD g a h9).1, (rej_R hD g a h9).2.1⟩) (fun _ => ⟨rfl, h⟩) (fun q1 _ => absurd ⟨q1, a⟩ q)
    · have erj : ∀ q, q < 67 ∨ 81 < q → rejC M q = M q := by
        intro q hq
        unfold rejC
        rw [if_pos a]
        rcases hq with hq | hq
        · rw [failC_out _ (by omega)]; exact tw_set_q _ _ (by omega)
        · rw [failC_hi _ (by omega)]; exact tw_set_q _ _ (by omega)
      have er : ∀ q, q < 67 ∨ 81 < q → itC fu.toInt.toNat (seeC (rejC M)) q = M q := by
        intro q hq
        rcases id hq with hq1 | hq1
        · rw [itC_out (by omega), seeC_out _ (by omega)]; exact erj q hq
        · rw [itC_hi (by omega), seeC_hi _ (by omega)]; exact erj q hq
      have e88 : ∀ q, 88 ≤ q → itC fu.toInt.toNat (seeC (rejC M)) q = M q := fun q hq => er q (by omega)
      have hD1 := DR_ref hD e88
      have hG1 : GoR M (itC fu.toInt.toNat (seeC (rejC M))) := GoR_congr g (fun _ _ => rfl) (fun k _ _ => by rw [e88 88 (by omega)]) (fun q c h1 _ _ => by rw [e88 q (by omega)]) (fun q h1 _ => e88 q (by omega))
      obtain ⟨g1, g2, -⟩ := rej_R hD1 hG1 a h9
      obtain ⟨i1, i2⟩ := it_R fu.toInt.toNat _ _ g1 g2
      have hf1 : ¬ itC fu.toInt.toNat (seeC (rejC M)) 88 21 = 0 ∧ itC fu.toInt.toNat (seeC (rejC M)) 88 22 = 0 ∧ itC fu.toInt.toNat (seeC (rejC M)) 88 23 = 0 ∧ itC fu.toInt.toNat (seeC (rejC M)) 88 26 = -1 := by rw [e88 88 (by omega)]; exact f
      refine sp_MD_another (A := seeC (rejC M)) (fun _ => ⟨by rw [← hG1.1.2.2.2.2.2.1]; exact hn, kept_task hD1 hG1, g1, g2⟩) (fun q => absurd ⟨q1, hf1⟩ q) (fun _ _ => ⟨?_, ?_⟩)
      · rw [ans_R i2]; rfl
      · have kk := (keepR_fail (itC fu.toInt.toNat (seeC (rejC M))) (itC fu.toInt.toNat (seeC (rejC M)) 88 28).toInt.toNat).tr (keepR_it fu.toInt.toNat _)
        exact fin_se h er (fun q hq => kk.1 q (by omega)) (fun k h1 h2 => kk.2 k (by omega)) ((farR_fail _ _).tr (farR_it _ _ _ g1 g2)) i1 (Or.inr i2)
  · refine sp_TW_another (N := M) (SV_n hS) hD.1 (fun q => absurd q a) (fun _ => ⟨_, rfl, ?_⟩) (fun _ q => absurd q a)
    exact sp_MD_another (A := M) (fun q => absurd q f) (fun _ => ⟨rfl, h⟩) (fun _ q => absurd q f)
