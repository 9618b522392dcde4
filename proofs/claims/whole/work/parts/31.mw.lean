theorem lp_R_meths {A : tw_M} {d f n s : Nat} {cv : Int32} {Q : tw_P} {P : Nat → Nat} (IH : visROK A d cv Q f) (hGi : ∀ s, s < 12 → ∀ l ∈ Gr A s, cyIn 12 l) (hs : s < (A 1 8).toInt.toNat) (hPn : P n = s) : ∀ (r j : Nat) (M : tw_M) (mz : Nat → Int32), DR A M → stkR M (n + 1) P → (M 88 41).toInt = (n : Int) + 1 → (M 113 n).toInt = (j : Int) → (M 114 n).toInt = 0 → j + r = (A 20 s).toInt.toNat → markR M (A 1 8).toInt.toNat mz → cyJ (n + 1) P mz → cn mz 12 ≤ f → (∀ (mz' : Nat → Int32) (M' : tw_M), goM (vis (Gr A) f (n + 1) P) (n + 1) P (gl A s j r) mz = .inr mz' → keepG M M' → markR M' (A 1 8).toInt.toNat mz' → (M' 88 41).toInt = (n : Int) + 1 → lowR M M' n → M' 112 n = M 112 n → (M' 113 n).toInt = (((A 20 s).toInt.toNat : Nat) : Int) → (M' 114 n).toInt = 0 → LTm d cv Q M') → cyE M (goM (vis (Gr A) f (n + 1) P) (n + 1) P (gl A s j r) mz) Q → LTm d cv Q M := by
  intro r
  induction r with
  | zero =>
    intro j M mz hD hst h41 h113 h114 hjr hm hJ hc h hE
    exact h mz M rfl (keepG_rf M) hm h41 (fun _ _ => ⟨rfl, rfl, rfl⟩) rfl (by omega) h114
  | succ r ih =>
    intro j M mz hD hst h41 h113 h114 hjr hm hJ hc h hE
    have hI8 := hD.1.2.1
    have hs12 : s < 12 := by omega
    have h20 := hD.1.2.2.2.2.1 s hs12
    have hI14 := hD.1.2.2.1
    have hjm : (j : Int) < (A 20 s).toInt := by omega
    have hmr := hD.2.2.2.2.2.2.2.1 s j (by omega) hjm
    have h65 := hD.1.2.2.2.2.2 (A (8 + s) j).toInt.toNat (by omega)
    have hgl : gl A s j (r + 1) = ul (A (25 + (A (8 + s) j).toInt.toNat)) 0 (A 65 (A (8 + s) j).toInt.toNat).toInt.toNat :: gl A s (j + 1) r := rfl
    rw [hgl] at h hE
    simp only [goM] at h hE
    have hin : cyIn 12 (ul (A (25 + (A (8 + s) j).toInt.toNat)) 0 (A 65 (A (8 + s) j).toInt.toNat).toInt.toNat) := by
      refine hGi s hs12 _ ?_
      have hmem : ∀ (a b c : Nat), a ≤ b → b < a + c → ul (A (25 + (A (8 + s) b).toInt.toNat)) 0 (A 65 (A (8 + s) b).toInt.toNat).toInt.toNat ∈ gl A s a c := by
        intro a b c
        induction c generalizing a with
        | zero => intro h1 h2; omega
        | succ c ihc =>
          intro h1 h2
          by_cases e : a = b
          · rw [e]; exact List.mem_cons_self
          · exact List.mem_cons_of_mem _ (ihc (a + 1) (by omega) (by omega))
      exact hmem 0 j _ (by omega) (by omega)
    have hcy := goP_J (V := vis (Gr A) f (n + 1) P) (n := n + 1) (P := P) (c0 := f) (fun mk' s' hJ' _ h0' hs' => vis_J hGi f (n + 1) P mk' s' hJ' h0' hs') _ mz hin hJ hc
    refine lp_R_parts IH hGi hs hjm hPn (A 65 (A (8 + s) j).toInt.toNat).toInt.toNat 0 M mz hD hst h41 h113 (by rw [h114]; rfl) (by omega) hm hJ hc ?_ ?_
    · intro mz1 M1 r1 r2 r3 r4 r5 r6 r7 r8
      rw [r1] at hcy h hE
      have hD1 := keepG_DR r2 hD
      have hI := RI_of hD1
      have k20 : A 20 = M1 94 := hD1.2.2.1.2.2.2.2.2.1
      have k65 : A 65 = M1 99 := hD1.2.2.1.2.2.2.2.2.2.2.2.2.1
      have e95 : M1 95 (5 * s + j) = (A (8 + s) j) := (hD1.2.2.2.1 s j hs12 (by omega)).symm
      have h112 : (M1 112 n).toInt = (s : Int) := by rw [r6, hst n (by omega), hPn]
      have hn12 : n + 1 ≤ 12 := by have := hJ.2.2; omega
      have hj1 : (M1 113 n).toInt = (j : Int) := by rw [r7]; exact h113
      have ej1 : (M1 113 n + 1).toInt = ((j + 1 : Nat) : Int) := by rw [tw_addI (by rw [tw_ti_1]; omega), tw_ti_1, hj1]; rfl
      refine LT_of (by omega) (fun Q' q0 q1 => sp_MD_visitOn (w := n) (c := s) (j := j) (k := (A 65 (A (8 + s) j).toInt.toNat).toInt.toNat) hI (by omega) (by omega) h112 hs12 hj1 r8 (by rw [← k20]; omega) (fun _ => by rw [e95, ← k65]; omega) (fun _ a2 => absurd a2 (by rw [e95, ← k65]; omega)) (fun _ _ a3 => absurd a3 (by rw [e95, ← k65]; omega)) (fun a1 => absurd a1 (by rw [← k20]; omega)) ?_ (fun _ a2 => absurd a2 (by rw [e95, ← k65]; omega)) (fun _ a2 => absurd a2 (by rw [e95, ← k65]; omega)) (fun _ a2 => absurd a2 (by rw [e95, ← k65]; omega)) (fun _ a2 => absurd a2 (by rw [e95, ← k65]; omega)))
      intro _ _
      refine q0 _ ?_
      have kG2 : keepG M1 (tw_set (tw_set M1 113 n (M1 113 n + 1)) 114 n 0) := keepG_set (keepG_set (keepG_rf M1) (by omega)) (by omega)
      have f113 : ∀ i, (tw_set (tw_set M1 113 n (M1 113 n + 1)) 114 n 0) 113 i = if i = n then M1 113 n + 1 else M1 113 i := by intro i; by_cases e : i = n <;> simp [tw_set, e]
      have f114 : ∀ i, (tw_set (tw_set M1 113 n (M1 113 n + 1)) 114 n 0) 114 i = if i = n then 0 else M1 114 i := by intro i; by_cases e : i = n <;> simp [tw_set, e]
      have hst1 : stkR (tw_set (tw_set M1 113 n (M1 113 n + 1)) 114 n 0) (n + 1) P := by
        intro i hi
        show (M1 112 i).toInt = _
        by_cases e : i = n
        · rw [e, h112, hPn]
        · rw [(r5 i (by omega)).1]; exact hst i hi
      refine ih (j + 1) _ mz1 (keepG_DR kG2 hD1) hst1 r4 (by rw [f113, if_pos rfl]; exact ej1) (by rw [f114, if_pos rfl]; decide) (by omega) r3 hcy.1 (Nat.le_trans hcy.2 hc) ?_ ?_
      · intro mz2 M2 q1 q2 q3 q4 q5 q6 q7 q8
        refine h mz2 M2 q1 ((r2.tr kG2).tr q2) q3 q4 (fun i hi => ⟨?_, ?_, ?_⟩) (q6.trans r6) q7 q8
        · rw [(q5 i hi).1]; exact (r5 i hi).1
        · rw [(q5 i hi).2.1, f113, if_neg (by omega)]; exact (r5 i hi).2.1
        · rw [(q5 i hi).2.2, f114, if_neg (by omega)]; exact (r5 i hi).2.2
      · intro n' P' to M2 q1 q2 q3
        exact hE n' P' to M2 q1 ((r2.tr kG2).tr q2) q3
    · intro n' P' to M' r1 r2 r3
      exact hE n' P' to M' (by rw [r1]; rfl) r2 r3
theorem visR_all {A : tw_M} {d : Nat} {cv : Int32} {Q : tw_P} (hGi : ∀ s, s < 12 → ∀ l ∈ Gr A s, cyIn 12 l) : ∀ f, visROK A d cv Q f := by
  intro f
  induction f with
  | zero =>
    intro M n P mz s hD hst h41 h112 h113 h114 hm hJ h0 hs hc h hE
    have h8 := hD.1.2.1
    have := cn_pos h0 12 (by omega)
    omega
  | succ f IH =>
    intro M n P mz s hD hst h41 h112 h113 h114 hm hJ h0 hs hc h hE
    have h8 := hD.1.2.1
    have hs12 : s < 12 := by omega
    have h20 := hD.1.2.2.2.2.1 s hs12
    have hlt := cn_upd_lt (mz := mz) (s := s) (x := 1) (by decide) h0 12 hs12
    have hJ1 := ext_J hJ h0 hs12
    simp only [vis] at h hE
    have hst1 : stkR M (n + 1) (cy_ext n P s) := by
      intro i hi
      by_cases e : i = n
      · rw [e, h112]; simp [cy_ext]
      · rw [hst i (by omega)]; simp [cy_ext, e]
    refine lp_R_meths IH hGi hs (P := cy_ext n P s) (by simp [cy_ext]) (A 20 s).toInt.toNat 0 M (upd mz s 1) hD hst1 h41 (by rw [h113]; rfl) h114 (by omega) hm hJ1 (by omega) ?_ ?_
    · intro mz1 M1 r1 r2 r3 r4 r5 r6 r7 r8
      have r1' : goM (vis (Gr A) f (n + 1) (cy_ext n P s)) (n + 1) (cy_ext n P s) (Gr A s) (upd mz s 1) = .inr mz1 := r1
      rw [r1'] at h
      have hD1 := keepG_DR r2 hD
      have hI := RI_of hD1
      have k20 : A 20 = M1 94 := hD1.2.2.1.2.2.2.2.2.1
      have hn12 : n + 1 ≤ 12 := by have := hJ1.2.2; omega
      refine LT_of (by omega) (fun Q' q0 q1 => sp_MD_visitOn (w := n) (c := s) (j := (A 20 s).toInt.toNat) (k := 0) hI (by omega) (by omega) (by rw [r6]; exact h112) hs12 r7 (by rw [r8]; rfl) (by rw [← k20]; omega) (fun a => absurd a (by rw [← k20]; omega)) (fun a => absurd a (by rw [← k20]; omega)) (fun _ a => absurd a (by rw [← k20]; omega)) ?_ (fun a => absurd a (by rw [← k20]; omega)) (fun a => absurd a (by rw [← k20]; omega)) (fun a => absurd a (by rw [← k20]; omega)) (fun a => absurd a (by rw [← k20]; omega)) (fun a => absurd a (by rw [← k20]; omega)))
      intro _
      refine q0 _ ?_
      have kG2 : keepG M1 (tw_set (tw_set M1 115 s 2) 88 41 (M1 88 41 - 1)) := keepG_set (keepG_set (keepG_rf M1) (by omega)) (by omega)
      refine h (upd mz1 s 2) _ rfl (r2.tr kG2) ?_ ?_ (fun i hi => r5 i hi)
      · intro k hk
        show (if 115 = 115 ∧ k = s then 2 else M1 115 k) = upd mz1 s 2 k
        by_cases e : k = s
        · simp [upd, e]
        · simp [upd, e, r3 k hk]
      · show (M1 88 41 - 1).toInt = _
        rw [tw_subI (by rw [tw_ti_1]; omega), tw_ti_1, r4]; omega
    · intro n' P' to M' r1 r2 r3
      have r1' : goM (vis (Gr A) f (n + 1) (cy_ext n P s)) (n + 1) (cy_ext n P s) (Gr A s) (upd mz s 1) = .inl (n', P', to) := r1
      exact hE n' P' to M' (by rw [r1']; rfl) r2 r3
theorem lp_R_top {A : tw_M} {d : Nat} {Q : tw_P} (hGi : ∀ s, s < 12 → ∀ l ∈ Gr A s, cyIn 12 l) : ∀ (r c : Nat) (M : tw_M) (mz : Nat → Int32) (cv : Int32), DR A M → (M 88 41).toInt = 0 → markR M (A 1 8).toInt.toNat mz → cyJ 0 (fun _ => 0) mz → cv.toInt = (c : Int) → c + r = (A 1 8).toInt.toNat → (∀ (mz' : Nat → Int32) (M' : tw_M), cy_top (Gr A) r c mz = .inr mz' → keepG M M' → Q (some 0) M') → cyE M (cy_top (Gr A) r c mz) Q → tw_T none (d + 2) j_MD_hasCycle M 30 [some (.inr 88), some (.inl cv)] [] Q := by
  intro r
  induction r with
  | zero =>
    intro c M mz cv hD h41 hm hJ hcv hcr h hE
    have e6 : A 1 8 = M 88 6 := hD.2.1.2.1
    have h8 := hD.1.2.1
    rw [e6] at hcr h8
    have z0 := tw_ti_0
    have z1 := tw_ti_1
    refine tw_iload_n (pc := 30) rfl rfl ?_
    refine tw_aload_n (pc := 31) rfl rfl ?_
    refine tw_getV (pc := 32) (v := (M 88 6)) rfl fl_MD_97 rfl rfl rfl ?_
    refine tw_icmp_ge (pc := 35) (tgt := 74) rfl rfl (fun c1 => ?_) (fun c1 => absurd c1 (by omega))
    refine tw_iconst (pc := 74) rfl tw_ic_0 ?_
    refine tw_ireturn (pc := 75) rfl rfl ?_
    exact h mz M rfl (keepG_rf M)
  | succ r ih =>
    intro c M mz cv hD h41 hm hJ hcv hcr h hE
    have e6 : A 1 8 = M 88 6 := hD.2.1.2.1
    have h8 := hD.1.2.1
    have h86 := h8
    have hcr6 := hcr
    rw [e6] at h86 hcr6
    have ecv : cv.toInt.toNat = c := by omega
    have h115 : M 115 c = mz c := hm c (by omega)
    have hz1 : ¬ mz c = 1 := fun q => by
      obtain ⟨i, hi, _⟩ := (hJ.1 c).mp q
      omega
    have ecv1 : (cv + 1).toInt = ((c + 1 : Nat) : Int) := by rw [tw_addI (by rw [tw_ti_1]; omega), tw_ti_1, hcv]; rfl
    have hun : cy_top (Gr A) (r + 1) c mz = cy_then (cy_stp (vis (Gr A) 12 0 (fun _ => 0)) 0 (fun _ => 0) mz c) (cy_top (Gr A) r (c + 1)) := rfl
    rw [hun] at h hE
    by_cases hz : mz c = 0
    · have es : cy_stp (vis (Gr A) 12 0 (fun _ => 0)) 0 (fun _ => 0) mz c = vis (Gr A) 12 0 (fun _ => 0) mz c := by unfold cy_stp; rw [if_neg hz1, if_pos hz]
      rw [es] at h hE
      have e41 : (M 88 41).toInt.toNat = 0 := by omega
      have z0 := tw_ti_0
      have z1 := tw_ti_1
      refine tw_iload_n (pc := 30) rfl rfl ?_
      refine tw_aload_n (pc := 31) rfl rfl ?_
      refine tw_getV (pc := 32) (v := (M 88 6)) rfl fl_MD_97 rfl rfl rfl ?_
      refine tw_icmp_ge (pc := 35) (tgt := 74) rfl rfl (fun c1 => absurd c1 (by omega)) (fun c1 => ?_)
      refine tw_aload_n (pc := 38) rfl rfl ?_
      refine tw_getR (pc := 39) rfl fl_MD_89 rfl rfl ?_
      refine tw_iload_n (pc := 42) rfl rfl ?_
      refine tw_ialdV (pc := 43) (v := (mz c)) rfl rfl ⟨by omega, by omega⟩ (by rw [ecv]; exact h115) ?_
      refine tw_if_ne (pc := 44) (tgt := 68) rfl rfl (fun c2 => absurd hz c2.1) (fun c2 => ?_)
      refine tw_aload_n (pc := 47) rfl rfl ?_
      refine tw_iload_n (pc := 48) rfl rfl ?_
      refine tw_inv1 (pc := 49) rfl lk_MD_135 (Nat.le_of_ble_eq_true rfl) rfl rfl (sp_MD_visit (by omega) (by omega) ?_)
      rw [ecv, e41]
      have kG : keepG M (tw_set (tw_set (tw_set (tw_set (tw_set M 115 c 1) 112 0 cv) 113 0 0) 114 0 0) 88 41 (M 88 41 + 1)) := keepG_set (keepG_set (keepG_set (keepG_set (keepG_set (keepG_rf M) (by omega)) (by omega)) (by omega)) (by omega)) (by omega)
      refine visR_all hGi 12 (tw_set (tw_set (tw_set (tw_set (tw_set M 115 c 1) 112 0 cv) 113 0 0) 114 0 0) 88 41 (M 88 41 + 1)) 0 (fun _ => 0) mz c (keepG_DR kG hD) (fun i hi => absurd hi (by omega)) (by show (M 88 41 + 1).toInt = _; rw [tw_addI (by rw [tw_ti_1]; omega), tw_ti_1, h41]; rfl) hcv (by show (0 : Int32).toInt = 0; decide) (by show (0 : Int32).toInt = 0; decide) ?_ hJ hz (by omega) (by have := hJ.2.2; omega) ?_ ?_
      · intro k hk
        show (if 115 = 115 ∧ k = c then 1 else M 115 k) = upd mz c 1 k
        by_cases e : k = c
        · simp [upd, e]
        · simp [upd, e, hm k hk]
      · intro mz' M' r1 r2 r3 r4 r5
        have hcy := vis_J hGi 12 0 (fun _ => 0) mz c hJ hz (by omega)
        rw [r1] at hcy h hE
        have z0 := tw_ti_0
        have z1 := tw_ti_1
        refine tw_aload_n (pc := 52) rfl rfl ?_
        refine tw_getV (pc := 53) (v := (M' 88 41)) rfl fl_MD_132 rfl rfl rfl ?_
        refine tw_if_le (pc := 56) (tgt := 68) rfl rfl (fun c1 => ?_) (fun c1 => absurd c1 (by omega))
        refine tw_iinc (pc := 68) rfl rfl tw_ic_1 (Nat.le_of_ble_eq_true rfl) ?_
        refine tw_goto (pc := 71) (tgt := 30) rfl rfl ?_
        refine ih (c + 1) M' mz' _ (keepG_DR (kG.tr r2) hD) (by rw [r4]; rfl) r3 hcy.1 ecv1 (by omega) (fun mz2 M3 q1 q2 => h mz2 M3 q1 ((kG.tr r2).tr q2)) (fun n' P' to M3 q1 q2 q3 => hE n' P' to M3 q1 ((kG.tr r2).tr q2) q3)
      · intro n' P' to M' r1 r2 r3
        exact hE n' P' to M' (by rw [r1]; rfl) (kG.tr r2) r3
    · have es : cy_stp (vis (Gr A) 12 0 (fun _ => 0)) 0 (fun _ => 0) mz c = .inr mz := by unfold cy_stp; rw [if_neg hz1, if_neg hz]
      rw [es] at h hE
      have z0 := tw_ti_0
      have z1 := tw_ti_1
      refine tw_iload_n (pc := 30) rfl rfl ?_
      refine tw_aload_n (pc := 31) rfl rfl ?_
      refine tw_getV (pc := 32) (v := (M 88 6)) rfl fl_MD_97 rfl rfl rfl ?_
      refine tw_icmp_ge (pc := 35) (tgt := 74) rfl rfl (fun c1 => absurd c1 (by omega)) (fun c1 => ?_)
      refine tw_aload_n (pc := 38) rfl rfl ?_
      refine tw_getR (pc := 39) rfl fl_MD_89 rfl rfl ?_
      refine tw_iload_n (pc := 42) rfl rfl ?_
      refine tw_ialdV (pc := 43) (v := (mz c)) rfl rfl ⟨by omega, by omega⟩ (by rw [ecv]; exact h115) ?_
      refine tw_if_ne (pc := 44) (tgt := 68) rfl rfl (fun c2 => ?_) (fun c2 => absurd c2.1 hz)
      refine tw_iinc (pc := 68) rfl rfl tw_ic_1 (Nat.le_of_ble_eq_true rfl) ?_
      refine tw_goto (pc := 71) (tgt := 30) rfl rfl ?_
      exact ih (c + 1) M mz _ hD h41 hm hJ ecv1 (by omega) h hE
theorem lp_R_zero {d : Nat} {Q : tw_P} {M0 : tw_M} {b : Nat} (hb : b ≤ 12) (h6 : (M0 88 6).toInt = (b : Int)) (h : ∀ (M : tw_M) (iv : Int32), keepG M0 M → (M 88 41).toInt = 0 → (∀ k, k < b → M 115 k = 0) → tw_T none d j_MD_hasCycle M 28 [some (.inr 88), some (.inl iv)] [] Q) : ∀ (r i : Nat) (M : tw_M) (iv : Int32), iv.toInt = (i : Int) → i + r = b → keepG M0 M → (M 88 41).toInt = 0 → (∀ k, k < i → M 115 k = 0) → tw_T none d j_MD_hasCycle M 7 [some (.inr 88), some (.inl iv)] [] Q := by
  intro r
  induction r with
  | zero =>
    intro i M iv hi hr hk h41 hz
    have e6 : M 88 6 = M0 88 6 := hk.2 6 (by omega)
    rw [← e6] at h6
    have z0 := tw_ti_0
    have z1 := tw_ti_1
    refine tw_iload_n (pc := 7) rfl rfl ?_
    refine tw_aload_n (pc := 8) rfl rfl ?_
    refine tw_getV (pc := 9) (v := (M 88 6)) rfl fl_MD_97 rfl rfl rfl ?_
    refine tw_icmp_ge (pc := 12) (tgt := 28) rfl rfl (fun c1 => ?_) (fun c1 => absurd c1 (by omega))
    exact h M iv hk h41 (fun k hk2 => hz k (by omega))
  | succ r ih =>
    intro i M iv hi hr hk h41 hz
    have e6 : M 88 6 = M0 88 6 := hk.2 6 (by omega)
    have h62 := h6
    rw [← e6] at h62
    have ei : iv.toInt.toNat = i := by omega
    have z0 := tw_ti_0
    have z1 := tw_ti_1
    refine tw_iload_n (pc := 7) rfl rfl ?_
    refine tw_aload_n (pc := 8) rfl rfl ?_
    refine tw_getV (pc := 9) (v := (M 88 6)) rfl fl_MD_97 rfl rfl rfl ?_
    refine tw_icmp_ge (pc := 12) (tgt := 28) rfl rfl (fun c1 => absurd c1 (by omega)) (fun c1 => ?_)
    refine tw_aload_n (pc := 15) rfl rfl ?_
    refine tw_getR (pc := 16) rfl fl_MD_89 rfl rfl ?_
    refine tw_iload_n (pc := 19) rfl rfl ?_
    refine tw_iconst (pc := 20) rfl tw_ic_0 ?_
    refine tw_iast (pc := 21) rfl rfl ⟨by omega, by omega⟩ ?_
    refine tw_iincF (pc := 22) rfl rfl tw_ic_1 (Nat.le_of_ble_eq_true rfl) ⟨by omega, by omega⟩ (fun e2 => ?_)
    refine tw_goto (pc := 25) (tgt := 7) rfl rfl ?_
    refine ih (i + 1) _ _ (by omega) (by omega) (keepG_set hk (by omega)) h41 (fun k hk2 => ?_)
    rw [ei]
    by_cases e : k = i
    · rw [e, tw_set_s]
    · rw [tw_set_k _ _ e]; exact hz k (by omega)
theorem sp_MD_hasCycle {d : Nat} {A M : tw_M} {Q : tw_P} (hD : DR A M) (h0 : ∀ M' mz', cy_top (Gr A) (A 1 8).toInt.toNat 0 (fun _ => 0) = .inr mz' → keepG M M' → Q (some 0) M') (h1 : ∀ n' P' to M', cy_top (Gr A) (A 1 8).toInt.toNat 0 (fun _ => 0) = .inl (n', P', to) → keepG M M' → foundR M' n' P' to → Q (some 1) M') : tw_C (d + 3) j_MD_hasCycle [.inr 88] M Q := by
  have hGi := Gr_in hD
  have h8 := hD.1.2.1
  have e6 : A 1 8 = M 88 6 := hD.2.1.2.1
  have h6 : (M 88 6).toInt = (((A 1 8).toInt.toNat : Nat) : Int) := by rw [← e6]; omega
  refine tw_enter pn_MD dc_MD_hasCycle (Nat.le_of_ble_eq_true rfl) ?_
  have z0 := tw_ti_0
  have z1 := tw_ti_1
  refine tw_aload_n (pc := 0) rfl rfl ?_
  refine tw_iconst (pc := 1) rfl tw_ic_0 ?_
  refine tw_putI (pc := 2) rfl fp_MD_132 rfl rfl rfl rfl ?_
  refine tw_iconst (pc := 5) rfl tw_ic_0 ?_
  refine tw_istore_n (pc := 6) rfl (Nat.le_of_ble_eq_true rfl) ?_
  have kG0 : keepG M (tw_set M 88 41 0) := keepG_set (keepG_rf M) (by omega)
  refine lp_R_zero (M0 := M) (b := (A 1 8).toInt.toNat) (by omega) h6 (fun M2 iv2 hk2 h412 hz2 => ?_) (A 1 8).toInt.toNat 0 _ _ (by rw [z0]; rfl) (by omega) kG0 (by show (0 : Int32).toInt = 0; decide) (fun k hk => absurd hk (by omega))
  have z0 := tw_ti_0
  have z1 := tw_ti_1
  refine tw_iconst (pc := 28) rfl tw_ic_0 ?_
  refine tw_istore_n (pc := 29) rfl (Nat.le_of_ble_eq_true rfl) ?_
  exact lp_R_top hGi (A 1 8).toInt.toNat 0 M2 (fun _ => 0) _ (keepG_DR hk2 hD) h412 hz2 mk0_J.1 (by rw [z0]; rfl) (by omega) (fun mz' M' hr hk => h0 M' mz' hr (hk2.tr hk)) (fun n' P' to M' hr hk hf => h1 n' P' to M' hr (hk2.tr hk) hf)
