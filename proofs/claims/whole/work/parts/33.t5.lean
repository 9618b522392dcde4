theorem top_good {M N : tw_M} (hD : DR M N) : ∀ n' P' to, cy_top (Gr M) (M 1 8).toInt.toNat 0 (fun _ => 0) = .inl (n', P', to) → (∀ i j, i < n' → j < n' → P' i = P' j → i = j) ∧ n' ≤ 12 := by
  intro n' P' to e
  have h8 := hD.1.2.1
  have h := top_J (Gr_in hD) (M 1 8).toInt.toNat 0 (fun _ => 0) mk0_J.1 (by omega)
  rw [e] at h
  exact ⟨h.2.1, h.2.2⟩
theorem op_cycle {d : Nat} {M : tw_M} {k : Int32} (h : IV M) : tw_C (d + 43) j_TW_cycle [.inr 0, .inl k] M (fun r1 M1 => ∃ v, r1 = some v ∧ tw_C (d + 43) j_MD_cycle [.inr 88, .inl k] M1 (fun r2 M2 => r2 = some v ∧ IV M2)) := by
  obtain ⟨hD, hS, hC⟩ := id h
  have hg := top_good hD
  refine sp_TW_cycle hD (fun n' P' to e => (hg n' P' to e).2) (fun M1 mz e hF => ⟨_, rfl, ?_⟩) (fun n' P' to M1 i0 e hF hb hi hP v hk hv => ⟨_, rfl, ?_⟩) (fun n' P' to M1 i0 e hF hb hi hP hk => ⟨_, rfl, ?_⟩)
  · have hD1 := DR_ref hD (fun q hq => hF q (by omega))
    refine sp_MD_cycle (A := M) hD1 (fun n' P' to e2 => by rw [e] at e2; cases e2) (fun n' P' to e2 => by rw [e] at e2; cases e2) (fun M2 mz2 e2 hG => ⟨rfl, fin_cy h hF hG⟩) (fun n' P' to M2 i0 e2 => by rw [e] at e2; cases e2) (fun n' P' to M2 i0 e2 => by rw [e] at e2; cases e2)
  · have hD1 := DR_ref hD (fun q hq => hF q (by omega))
    refine sp_MD_cycle (A := M) hD1 (fun n' P' to e2 => (hg n' P' to e2).2) (fun n2 P2 to2 e2 => by rw [e] at e2; cases e2; exact hb) (fun M2 mz2 e2 => by rw [e] at e2; cases e2) (fun n2 P2 to2 M2 i2 e2 hG hi2 hP2 v2 hk2 hv2 => ?_) (fun n2 P2 to2 M2 i2 e2 hG hi2 hP2 hk2 => ?_)
    · rw [e] at e2
      cases e2
      have ei := (hg n' P' to e).1 i0 i2 hi hi2 (hP.trans hP2.symm)
      subst ei
      exact ⟨by rw [Int32.toInt_inj.mp (hv2.trans hv.symm)], fin_cy h hF hG⟩
    · rw [e] at e2
      cases e2
      have ei := (hg n' P' to e).1 i0 i2 hi hi2 (hP.trans hP2.symm)
      subst ei
      exact absurd hk hk2
  · have hD1 := DR_ref hD (fun q hq => hF q (by omega))
    refine sp_MD_cycle (A := M) hD1 (fun n' P' to e2 => (hg n' P' to e2).2) (fun n2 P2 to2 e2 => by rw [e] at e2; cases e2; exact hb) (fun M2 mz2 e2 => by rw [e] at e2; cases e2) (fun n2 P2 to2 M2 i2 e2 hG hi2 hP2 v2 hk2 hv2 => ?_) (fun n2 P2 to2 M2 i2 e2 hG hi2 hP2 hk2 => ?_)
    · rw [e] at e2
      cases e2
      have ei := (hg n' P' to e).1 i0 i2 hi hi2 (hP.trans hP2.symm)
      subst ei
      exact absurd hk2 hk
    · exact ⟨rfl, fin_cy h hF hG⟩
def begRx (N : tw_M) : tw_M := if N 88 21 = 0 then begR N else N
theorem plan_R {M N : tw_M} (hD : DR M N) (hS : SV M N) : DR (seeC (begC M)) (begRx N) ∧ StR (seeC (begC M)) (begRx N) ∧ (begC M 70 12 = 2 → begC M 70 9 = 0 → RowI 71 (begC M)) := by
  rcases hS with ⟨a, b, c, d, e⟩ | hS
  · have eb : begRx N = begR N := if_pos e
    rw [eb]
    obtain ⟨g, g12⟩ := begin_R hD a b c d
    refine ⟨DR_see (DR_congr hD ⟨fun q hq => begC_out M (by omega), fun q h1 h2 => (keepR_begin N).1 q (by omega), fun k hk => (keepR_begin N).2 k (by omega)⟩), see_R g g12, fun _ _ => GoR_RowI g⟩
  · have hne : ¬ M 70 12 = -1 ∧ ¬ N 88 21 = 0 := by
      rcases hS with ⟨a, g, _⟩ | ⟨a, g, _⟩ | g
      · exact ⟨by rw [a]; decide, by rw [g.1.2.2.2.2.2.2.1]; decide⟩
      · exact ⟨by rw [a]; decide, by rw [g.1.2.2.2.2.2.2.1]; decide⟩
      · exact ⟨by rw [g.1]; decide, by rw [g.2.2.2.2.1]; decide⟩
    have eb : begRx N = N := if_neg hne.2
    have ec : begC M = M := if_neg hne.1
    rw [eb, ec]
    refine ⟨DR_see hD, see_St hS, fun q _ => ?_⟩
    rcases hS with ⟨a, g, _⟩ | ⟨a, g, _⟩ | g
    · exact GoR_RowI g
    · exact GoR_RowI g
    · rw [g.1] at q; exact absurd q (by decide)
theorem begRx_keep (N : tw_M) : keepR N (begRx N) := by
  unfold begRx
  split
  · exact keepR_begin N
  · exact keepR_rf N
theorem begRx_far {N : tw_M} (ha : 0 ≤ (N 88 16).toInt ∧ (N 88 16).toInt ≤ 6) : farR N (begRx N) := by
  unfold begRx
  split
  · exact farR_begin ha
  · exact farR_rf N
theorem sp_TW_plan {d : Nat} {M N : tw_M} {Q : tw_P} {fu : Int32} (hD : DR M N) (hg : ∀ M', keepF M M' → ∃ N', DR (seeC (begC M')) N' ∧ StR (seeC (begC M')) N' ∧ (begC M' 70 12 = 2 → begC M' 70 9 = 0 → RowI 71 (begC M'))) (h0 : ¬ (0 ≤ fu.toInt ∧ fu.toInt ≤ 5000) → Q (some (-1)) M) (h1 : (0 ≤ fu.toInt ∧ fu.toInt ≤ 5000) → ∀ n' P' to M', cy_top (Gr M) (M 1 8).toInt.toNat 0 (fun _ => 0) = .inl (n', P', to) → keepF M M' → Q (some 3) M') (h2 : (0 ≤ fu.toInt ∧ fu.toInt ≤ 5000) → ∀ M' mz', cy_top (Gr M) (M 1 8).toInt.toNat 0 (fun _ => 0) = .inr mz' → keepF M M' → Q (some (itC fu.toInt.toNat (seeC (begC M')) 70 12)) (itC fu.toInt.toNat (seeC (begC M')))) : tw_C (d + 43) j_TW_plan [.inr 0, .inl fu] M Q := by
  refine tw_enter pn_TW dc_TW_plan (Nat.le_of_ble_eq_true rfl) ?_
  have zm1 := tw_ti_m1
  have z0 := tw_ti_0
  have z3 := tw_ti_3
  refine tw_iload_n (pc := 0) rfl rfl ?_
  refine tw_invs1 (pc := 1) rfl lk_TW_75 rfl (Nat.le_of_ble_eq_true rfl) (sp_TW_isFuel (fun c1 => ?_) (fun c1 => ?_))
  · refine tw_if_ne (pc := 4) (tgt := 9) rfl rfl (fun _ => ?_) (fun q => absurd q (by decide))
    refine tw_aload_n (pc := 9) rfl rfl ?_
    refine tw_getR (pc := 10) rfl fl_TW_21 rfl rfl ?_
    refine tw_inv0 (pc := 13) rfl lk_TW_68 (Nat.le_of_ble_eq_true rfl) rfl rfl (sp_CF_isCyclic hD (fun MV zV rV kV => ?_) (fun nV PV toV MV rV kV aV => ?_))
    · refine tw_if_eq (pc := 16) (tgt := 21) rfl rfl (fun _ => ?_) (fun q => absurd q (by decide))
      have hfu : (0 ≤ fu.toInt ∧ fu.toInt ≤ 5000) := by assumption
      have hDV : DI MV := (keepF_DR kV hD).1
      obtain ⟨NV, g1, g2, g3⟩ := hg MV kV
      refine tw_aload_n (pc := 21) rfl rfl ?_
      refine tw_getR (pc := 22) rfl fl_TW_28 rfl rfl ?_
      refine tw_inv0 (pc := 25) rfl lk_TW_79 (Nat.le_of_ble_eq_true rfl) rfl rfl (sp_SE_beginIfNone hDV ?_)
      refine tw_aload_n (pc := 28) rfl rfl ?_
      refine tw_getR (pc := 29) rfl fl_TW_28 rfl rfl ?_
      refine tw_iload_n (pc := 32) rfl rfl ?_
      refine tw_inv1 (pc := 33) rfl lk_TW_82 (Nat.le_of_ble_eq_true rfl) rfl rfl (sp_SE_goOn hfu g1 g2 g3 ?_)
      refine tw_ireturn (pc := 36) rfl rfl ?_
      exact h2 hfu MV zV rV kV
    · refine tw_if_eq (pc := 16) (tgt := 21) rfl rfl (fun q => absurd q (by decide)) (fun _ => ?_)
      refine tw_iconst (pc := 19) rfl tw_ic_3 ?_
      refine tw_ireturn (pc := 20) rfl rfl ?_
      exact h1 (by assumption) nV PV toV MV rV kV
  · refine tw_if_ne (pc := 4) (tgt := 9) rfl rfl (fun q => absurd q (by decide)) (fun _ => ?_)
    refine tw_iconst (pc := 7) rfl tw_ic_m1 ?_
    refine tw_ireturn (pc := 8) rfl rfl ?_
    exact h0 (by assumption)
theorem sp_MD_plan {d : Nat} {A B M : tw_M} {Q : tw_P} {fu : Int32} (hD : DR A M) (hg : ∀ M', keepG M M' → DR B (begRx M') ∧ StR B (begRx M')) (h0 : ¬ (0 ≤ fu.toInt ∧ fu.toInt ≤ 5000) → Q (some (-1)) M) (h1 : (0 ≤ fu.toInt ∧ fu.toInt ≤ 5000) → ∀ n' P' to M', cy_top (Gr A) (A 1 8).toInt.toNat 0 (fun _ => 0) = .inl (n', P', to) → keepG M M' → Q (some 3) M') (h2 : (0 ≤ fu.toInt ∧ fu.toInt ≤ 5000) → ∀ M' mz', cy_top (Gr A) (A 1 8).toInt.toNat 0 (fun _ => 0) = .inr mz' → keepG M M' → Q (some (ansR (itR fu.toInt.toNat (begRx M')))) (itR fu.toInt.toNat (begRx M'))) : tw_C (d + 4) j_MD_plan [.inr 88, .inl fu] M Q := by
  refine tw_enter pn_MD dc_MD_plan (Nat.le_of_ble_eq_true rfl) ?_
  have zm1 := tw_ti_m1
  have z0 := tw_ti_0
  have z3 := tw_ti_3
  refine tw_iload_n (pc := 0) rfl rfl ?_
  refine tw_invs1 (pc := 1) rfl lk_MD_190 rfl (Nat.le_of_ble_eq_true rfl) (sp_MD_isFuel (fun c1 => ?_) (fun c1 => ?_))
  · refine tw_if_ne (pc := 4) (tgt := 9) rfl rfl (fun _ => ?_) (fun q => absurd q (by decide))
    refine tw_aload_n (pc := 9) rfl rfl ?_
    refine tw_inv0 (pc := 10) rfl lk_MD_146 (Nat.le_of_ble_eq_true rfl) rfl rfl (sp_MD_hasCycle hD (fun MV zV rV kV => ?_) (fun nV PV toV MV rV kV aV => ?_))
    · refine tw_if_eq (pc := 13) (tgt := 18) rfl rfl (fun _ => ?_) (fun q => absurd q (by decide))
      have hfu : (0 ≤ fu.toInt ∧ fu.toInt ≤ 5000) := by assumption
      have haV := (RI_of (keepG_DR kV hD)).2.2.2.1
      obtain ⟨g1, g2⟩ := hg MV kV
      have h3 := h2 hfu MV zV rV kV
      refine tw_aload_n (pc := 18) rfl rfl ?_
      refine tw_getV (pc := 19) (v := (MV 88 21)) rfl fl_MD_107 rfl rfl rfl ?_
      refine tw_if_ne (pc := 22) (tgt := 29) rfl rfl (fun c3 => ?_) (fun c3 => ?_)
      · have eb : begRx MV = MV := if_neg (And.left (by assumption))
        rw [eb] at g1 g2 h3
        refine tw_aload_n (pc := 29) rfl rfl ?_
        refine tw_iload_n (pc := 30) rfl rfl ?_
        refine tw_inv1 (pc := 31) rfl lk_MD_196 (Nat.le_of_ble_eq_true rfl) rfl rfl (sp_MD_run hfu g1 g2 ?_)
        refine tw_ireturn (pc := 34) rfl rfl ?_
        exact h3
      · refine tw_aload_n (pc := 25) rfl rfl ?_
        refine tw_inv0 (pc := 26) rfl lk_MD_193 (Nat.le_of_ble_eq_true rfl) rfl rfl (sp_MD_begin haV ?_)
        have eb : begRx MV = begR MV := if_pos (And.left (by assumption))
        rw [eb] at g1 g2 h3
        refine tw_aload_n (pc := 29) rfl rfl ?_
        refine tw_iload_n (pc := 30) rfl rfl ?_
        refine tw_inv1 (pc := 31) rfl lk_MD_196 (Nat.le_of_ble_eq_true rfl) rfl rfl (sp_MD_run hfu g1 g2 ?_)
        refine tw_ireturn (pc := 34) rfl rfl ?_
        exact h3
    · refine tw_if_eq (pc := 13) (tgt := 18) rfl rfl (fun q => absurd q (by decide)) (fun _ => ?_)
      refine tw_iconst (pc := 16) rfl tw_ic_3 ?_
      refine tw_ireturn (pc := 17) rfl rfl ?_
      exact h1 (by assumption) nV PV toV MV rV kV
  · refine tw_if_ne (pc := 4) (tgt := 9) rfl rfl (fun q => absurd q (by decide)) (fun _ => ?_)
    refine tw_iconst (pc := 7) rfl tw_ic_m1 ?_
    refine tw_ireturn (pc := 8) rfl rfl ?_
    exact h0 (by assumption)
theorem op_plan {d : Nat} {M : tw_M} {fu : Int32} (h : IV M) : tw_C (d + 43) j_TW_plan [.inr 0, .inl fu] M (fun r1 M1 => ∃ v, r1 = some v ∧ tw_C (d + 43) j_MD_plan [.inr 88, .inl fu] M1 (fun r2 M2 => r2 = some v ∧ IV M2)) := by
  obtain ⟨hD, hS, hC⟩ := id h
  have congS : ∀ Mc N', keepF M Mc → (∀ q, 89 ≤ q → q ≤ 111 → N' q = M q) → (∀ k, k ≠ 41 ∧ k ≠ 46 → N' 88 k = M 88 k) → DR Mc N' ∧ SV Mc N' := by
    intro Mc N' hF r9 r8
    exact ⟨DR_congr hD ⟨fun q hq => hF q (by omega), fun q h1 h2 => r9 q h1 (by omega), fun k hk => r8 k (by omega)⟩, SV_congr hS (fun q hq => hF q (by omega)) (fun k h1 h2 => r8 k (by omega)) (fun q c h1 h2 _ => by rw [r9 q (by omega) (by omega)]) (fun q h1 h2 => r9 q (by omega) h2)⟩
  refine sp_TW_plan hD (fun Mc hF => ?_) (fun hno => ⟨_, rfl, ?_⟩) (fun hfu n' P' to M1 e hF => ⟨_, rfl, ?_⟩) (fun hfu Mc mz e hF => ⟨_, rfl, ?_⟩)
  · have hh := congS Mc M hF (fun _ _ _ => rfl) (fun _ _ => rfl)
    exact ⟨begRx M, plan_R hh.1 hh.2⟩
  · have hh := plan_R hD hS
    refine sp_MD_plan (A := M) (B := seeC (begC M)) hD (fun M' hG => ?_) (fun _ => ⟨rfl, h⟩) (fun q => absurd q hno) (fun q => absurd q hno)
    have h2 := congS M M' (keepF_rf M) (fun q h1 h2 => hG.1 q (by omega)) (fun k hk => hG.2 k hk)
    exact ⟨(plan_R h2.1 h2.2).1, (plan_R h2.1 h2.2).2.1⟩
  · have hD1 := DR_ref hD (fun q hq => hF q (by omega))
    refine sp_MD_plan (A := M) (B := seeC (begC M)) hD1 (fun M' hG => ?_) (fun q => absurd hfu q) (fun _ n2 P2 to2 M2 e2 hG => ⟨rfl, fin_cy h hF hG⟩) (fun _ M2 mz2 e2 => by rw [e] at e2; cases e2)
    have h2 := congS M M' (keepF_rf M) (fun q h1 h2 => (hG.1 q (by omega)).trans (hF q (by omega))) (fun k hk => (hG.2 k hk).trans (by rw [hF 88 (by omega)]))
    exact ⟨(plan_R h2.1 h2.2).1, (plan_R h2.1 h2.2).2.1⟩
  · have er : ∀ q, q < 67 ∨ 81 < q → itC fu.toInt.toNat (seeC (begC Mc)) q = M q := by
      intro q hq
      rcases id hq with hq1 | hq1
      · rw [itC_out (by omega), seeC_out _ (by omega), begC_out _ (by omega)]; exact hF q (by omega)
      · rw [itC_hi (by omega), seeC_hi _ (by omega), begC_out _ (by omega)]; exact hF q (by omega)
    have hD1 := DR_ref hD (fun q hq => er q (by omega))
    have key : ∀ M', keepG (itC fu.toInt.toNat (seeC (begC Mc))) M' → DR (seeC (begC Mc)) (begRx M') ∧ StR (seeC (begC Mc)) (begRx M') := by
      intro M' hG
      have h2 := congS Mc M' hF (fun q h1 h2 => (hG.1 q (by omega)).trans (er q (by omega))) (fun k hk => (hG.2 k hk).trans (by rw [er 88 (by omega)]))
      exact ⟨(plan_R h2.1 h2.2).1, (plan_R h2.1 h2.2).2.1⟩
    refine sp_MD_plan (A := M) (B := seeC (begC Mc)) hD1 key (fun q => absurd hfu q) (fun _ n2 P2 to2 M2 e2 => by rw [e] at e2; cases e2) (fun _ M2 mz2 e2 hG => ⟨?_, ?_⟩)
    · obtain ⟨g1, g2⟩ := key M2 hG
      rw [ans_R (it_R fu.toInt.toNat _ _ g1 g2).2]
      rfl
    · obtain ⟨g1, g2⟩ := key M2 hG
      obtain ⟨i1, i2⟩ := it_R fu.toInt.toNat _ _ g1 g2
      have ha := (RI_of (keepG_DR hG hD1)).2.2.2.1
      have kk := (begRx_keep M2).tr (keepR_it fu.toInt.toNat (begRx M2))
      have ff : farR (itC fu.toInt.toNat (seeC (begC Mc))) (itR fu.toInt.toNat (begRx M2)) := farR.tr (fun q c h1 h2 _ => by rw [hG.1 q (by omega)]) ((begRx_far ha).tr (farR_it _ _ _ g1 g2))
      exact fin_se h er (fun q hq => (kk.1 q (by omega)).trans (hG.1 q (by omega))) (fun k h1 h2 => (kk.2 k (by omega)).trans (hG.2 k (by omega))) ff i1 (Or.inr i2)
