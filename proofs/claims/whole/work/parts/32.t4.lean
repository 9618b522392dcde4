theorem top_J {G : Nat → List (List Int32)} (hGi : ∀ s, s < 12 → ∀ l ∈ G s, cyIn 12 l) : ∀ (r c : Nat) (mz : Nat → Int32), cyJ 0 (fun _ => 0) mz → c + r ≤ 12 → cyGood 0 (fun _ => 0) mz (cy_top G r c mz) := by
  intro r
  induction r with
  | zero => intro c mz hJ _; exact ⟨hJ, Nat.le_refl _⟩
  | succ r ih =>
    intro c mz hJ hc
    show cyGood 0 (fun _ => 0) mz (cy_then (cy_stp (vis G 12 0 (fun _ => 0)) 0 (fun _ => 0) mz c) (cy_top G r (c + 1)))
    exact then_J (stp_J hJ (fun h0 => vis_J hGi 12 0 (fun _ => 0) mz c hJ h0 (by omega))) (fun mz' hJ' _ => ih (c + 1) mz' hJ' (by omega))
theorem fin_cy {M M1 M2 : tw_M} (h : IV M) (hF : keepF M M1) (hG : keepG M1 M2) : IV M2 := by
  obtain ⟨hD, hS, hC⟩ := h
  have cl : ∀ q, (q < 67 ∨ 69 < q) ∧ q < 88 → M2 q = M q := fun q hq => (hG.1 q (by omega)).trans (hF q (by omega))
  have rf : ∀ q, 89 ≤ q → q ≤ 111 → M2 q = M q := fun q h1 h2 => (hG.1 q (by omega)).trans (hF q (by omega))
  have r8 : ∀ k, k ≠ 41 ∧ k ≠ 46 → M2 88 k = M 88 k := fun k hk => (hG.2 k hk).trans (by rw [hF 88 (by omega)])
  exact ⟨DR_congr hD ⟨fun q hq => cl q (by omega), fun q h1 h2 => rf q h1 (by omega), fun k hk => r8 k (by omega)⟩, SV_congr hS (fun q hq => cl q (by omega)) (fun k h1 h2 => r8 k (by omega)) (fun q c h1 h2 _ => by rw [rf q (by omega) (by omega)]) (fun q h1 h2 => rf q (by omega) h2), CV_congr hC (fun q hq => cl q (by omega)) (fun k h1 h2 => r8 k (by omega)) (fun q c h1 _ => by rw [rf q (by omega) (by omega)])⟩
theorem sp_TW_cycle {d : Nat} {M N : tw_M} {Q : tw_P} {k : Int32} (hD : DR M N) (hgood : ∀ n' P' to, cy_top (Gr M) (M 1 8).toInt.toNat 0 (fun _ => 0) = .inl (n', P', to) → n' ≤ 12) (h0 : ∀ M' mz', cy_top (Gr M) (M 1 8).toInt.toNat 0 (fun _ => 0) = .inr mz' → keepF M M' → Q (some (-1)) M') (h1 : ∀ n' P' to M' i0, cy_top (Gr M) (M 1 8).toInt.toNat 0 (fun _ => 0) = .inl (n', P', to) → keepF M M' → (∀ i, i < n' → 16 + (P' i : Int) < 2147483648) → i0 < n' → P' i0 = to → ∀ v : Int32, (0 ≤ k.toInt ∧ k.toInt < (n' : Int) - (i0 : Int)) → v.toInt = 16 + (P' (i0 + k.toInt.toNat) : Int) → Q (some v) M') (h2 : ∀ n' P' to M' i0, cy_top (Gr M) (M 1 8).toInt.toNat 0 (fun _ => 0) = .inl (n', P', to) → keepF M M' → (∀ i, i < n' → 16 + (P' i : Int) < 2147483648) → i0 < n' → P' i0 = to → ¬ (0 ≤ k.toInt ∧ k.toInt < (n' : Int) - (i0 : Int)) → Q (some (-1)) M') : tw_C (d + 43) j_TW_cycle [.inr 0, .inl k] M Q := by
  refine tw_enter pn_TW dc_TW_cycle (Nat.le_of_ble_eq_true rfl) ?_
  have zm1 := tw_ti_m1
  have z0 := tw_ti_0
  refine tw_aload_n (pc := 0) rfl rfl ?_
  refine tw_getR (pc := 1) rfl fl_TW_21 rfl rfl ?_
  refine tw_inv0 (pc := 4) rfl lk_TW_68 (Nat.le_of_ble_eq_true rfl) rfl rfl (sp_CF_isCyclic hD (fun MV zV rV kV => ?_) (fun nV PV toV MV rV kV aV => ?_))
  · refine tw_if_eq (pc := 7) (tgt := 21) rfl rfl (fun _ => ?_) (fun q => absurd q (by decide))
    refine tw_iconst (pc := 21) rfl tw_ic_m1 ?_
    refine tw_ireturn (pc := 22) rfl rfl ?_
    exact h0 MV zV rV kV
  · refine tw_if_eq (pc := 7) (tgt := 21) rfl rfl (fun q => absurd q (by decide)) (fun _ => ?_)
    obtain ⟨iV, hiV, hPV, h46⟩ := aV.2.1
    have hn12 := hgood nV PV toV rV
    have hbV : ∀ i, i < nV → 16 + (PV i : Int) < 2147483648 := fun i hi => by rw [← aV.2.2 i hi]; exact Int32.toInt_lt _
    refine tw_aload_n (pc := 10) rfl rfl ?_
    refine tw_getR (pc := 11) rfl fl_TW_21 rfl rfl ?_
    refine tw_iload_n (pc := 14) rfl rfl ?_
    refine tw_inv1 (pc := 15) rfl lk_TW_72 (Nat.le_of_ble_eq_true rfl) rfl rfl (sp_CF_memberAt (n := nV) (P := PV) (to := toV) (i0 := iV) hn12 aV.1 h46 hiV aV.2.2 (fun vV u1 u2 u3 => ?_) (fun u1 => ?_))
    · refine tw_goto (pc := 18) (tgt := 22) rfl rfl ?_
      refine tw_ireturn (pc := 22) rfl rfl ?_
      exact h1 nV PV toV MV iV rV kV hbV hiV hPV vV ⟨u1, u2⟩ u3
    · refine tw_goto (pc := 18) (tgt := 22) rfl rfl ?_
      refine tw_ireturn (pc := 22) rfl rfl ?_
      exact h2 nV PV toV MV iV rV kV hbV hiV hPV u1
theorem sp_MD_cycle {d : Nat} {A M : tw_M} {Q : tw_P} {k : Int32} (hD : DR A M) (hgood : ∀ n' P' to, cy_top (Gr A) (A 1 8).toInt.toNat 0 (fun _ => 0) = .inl (n', P', to) → n' ≤ 12) (hP28 : ∀ n' P' to, cy_top (Gr A) (A 1 8).toInt.toNat 0 (fun _ => 0) = .inl (n', P', to) → ∀ i, i < n' → 16 + (P' i : Int) < 2147483648) (h0 : ∀ M' mz', cy_top (Gr A) (A 1 8).toInt.toNat 0 (fun _ => 0) = .inr mz' → keepG M M' → Q (some (-1)) M') (h1 : ∀ n' P' to M' i0, cy_top (Gr A) (A 1 8).toInt.toNat 0 (fun _ => 0) = .inl (n', P', to) → keepG M M' → i0 < n' → P' i0 = to → ∀ v : Int32, (0 ≤ k.toInt ∧ k.toInt < (n' : Int) - (i0 : Int)) → v.toInt = 16 + (P' (i0 + k.toInt.toNat) : Int) → Q (some v) M') (h2 : ∀ n' P' to M' i0, cy_top (Gr A) (A 1 8).toInt.toNat 0 (fun _ => 0) = .inl (n', P', to) → keepG M M' → i0 < n' → P' i0 = to → ¬ (0 ≤ k.toInt ∧ k.toInt < (n' : Int) - (i0 : Int)) → Q (some (-1)) M') : tw_C (d + 4) j_MD_cycle [.inr 88, .inl k] M Q := by
  refine tw_enter pn_MD dc_MD_cycle (Nat.le_of_ble_eq_true rfl) ?_
  have zm1 := tw_ti_m1
  have z0 := tw_ti_0
  have z16 := tw_ti_16
  refine tw_aload_n (pc := 0) rfl rfl ?_
  refine tw_inv0 (pc := 1) rfl lk_MD_146 (Nat.le_of_ble_eq_true rfl) rfl rfl (sp_MD_hasCycle hD (fun MV zV rV kV => ?_) (fun nV PV toV MV rV kV aV => ?_))
  · refine tw_istore_n (pc := 4) rfl (Nat.le_of_ble_eq_true rfl) ?_
    refine tw_iload_n (pc := 5) rfl rfl ?_
    refine tw_if_eq (pc := 6) (tgt := 43) rfl rfl (fun _ => ?_) (fun q => absurd q (by decide))
    refine tw_iconst (pc := 43) rfl tw_ic_m1 ?_
    refine tw_ireturn (pc := 44) rfl rfl ?_
    first | exact h0 MV zV rV kV | exact h2 nV PV toV MV iV rV kV hiV hPV (by omega)
  · refine tw_istore_n (pc := 4) rfl (Nat.le_of_ble_eq_true rfl) ?_
    refine tw_iload_n (pc := 5) rfl rfl ?_
    refine tw_if_eq (pc := 6) (tgt := 43) rfl rfl (fun q => absurd q (by decide)) (fun _ => ?_)
    obtain ⟨h41, hst, iV, hiV, hPV, h46⟩ := aV
    have hn12 := hgood nV PV toV rV
    refine tw_iload_n (pc := 9) rfl rfl ?_
    refine tw_if_lt (pc := 10) (tgt := 43) rfl rfl (fun c2 => ?_) (fun c2 => ?_)
    · refine tw_iconst (pc := 43) rfl tw_ic_m1 ?_
      refine tw_ireturn (pc := 44) rfl rfl ?_
      first | exact h0 MV zV rV kV | exact h2 nV PV toV MV iV rV kV hiV hPV (by omega)
    · refine tw_iload_n (pc := 13) rfl rfl ?_
      refine tw_aload_n (pc := 14) rfl rfl ?_
      refine tw_getV (pc := 15) (v := (MV 88 41)) rfl fl_MD_132 rfl rfl rfl ?_
      refine tw_aload_n (pc := 18) rfl rfl ?_
      refine tw_getV (pc := 19) (v := (MV 88 46)) rfl fl_MD_139 rfl rfl rfl ?_
      refine tw_isubF (pc := 22) rfl ⟨by omega, by omega⟩ (fun e3 => ?_)
      refine tw_icmp_ge (pc := 23) (tgt := 43) rfl rfl (fun c4 => ?_) (fun c4 => ?_)
      · refine tw_iconst (pc := 43) rfl tw_ic_m1 ?_
        refine tw_ireturn (pc := 44) rfl rfl ?_
        first | exact h0 MV zV rV kV | exact h2 nV PV toV MV iV rV kV hiV hPV (by omega)
      · have ei : (MV 88 46 + k).toInt.toNat = iV + k.toInt.toNat := by rw [tw_addI (by omega)]; omega
        have h112 := hst (iV + k.toInt.toNat) (by omega)
        refine tw_bipush (pc := 26) rfl tw_bi_16 ?_
        refine tw_aload_n (pc := 28) rfl rfl ?_
        refine tw_getR (pc := 29) rfl fl_MD_80 rfl rfl ?_
        refine tw_aload_n (pc := 32) rfl rfl ?_
        refine tw_getV (pc := 33) (v := (MV 88 46)) rfl fl_MD_139 rfl rfl rfl ?_
        refine tw_iload_n (pc := 36) rfl rfl ?_
        refine tw_iaddF (pc := 37) rfl ⟨by omega, by omega⟩ (fun e5 => ?_)
        refine tw_ialdV (pc := 38) (v := (MV 112 (iV + k.toInt.toNat))) rfl rfl ⟨by omega, by omega⟩ (by rw [ei]) ?_
        refine tw_iadd (pc := 39) rfl ?_
        refine tw_goto (pc := 40) (tgt := 44) rfl rfl ?_
        refine tw_ireturn (pc := 44) rfl rfl ?_
        exact h1 nV PV toV MV iV rV kV hiV hPV _ ⟨by omega, by omega⟩ (by have hbb := hP28 nV PV toV rV (iV + k.toInt.toNat) (by omega); rw [tw_addI (by rw [tw_ti_16, h112]; omega), tw_ti_16, h112])
