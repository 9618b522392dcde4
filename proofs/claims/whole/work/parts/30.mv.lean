def keepG (M M' : tw_M) : Prop := (∀ q, q ≠ 88 ∧ (q < 112 ∨ 115 < q) → M' q = M q) ∧ ∀ k, k ≠ 41 ∧ k ≠ 46 → M' 88 k = M 88 k
theorem keepG_rf (M : tw_M) : keepG M M := ⟨fun _ _ => rfl, fun _ _ => rfl⟩
theorem keepG.tr {A B C : tw_M} (h1 : keepG A B) (h2 : keepG B C) : keepG A C := ⟨fun q hq => (h2.1 q hq).trans (h1.1 q hq), fun k hk => (h2.2 k hk).trans (h1.2 k hk)⟩
theorem keepG_set {M M' : tw_M} (h : keepG M M') {q k : Nat} {x : Int32} (hq : (q = 88 ∧ (k = 41 ∨ k = 46)) ∨ (112 ≤ q ∧ q ≤ 115)) : keepG M (tw_set M' q k x) := by
  refine ⟨fun a ha => ?_, fun b hb => ?_⟩
  · rw [tw_set_q _ _ (by omega)]; exact h.1 a ha
  · rw [show tw_set M' q k x 88 b = M' 88 b by unfold tw_set; exact if_neg (by omega)]; exact h.2 b hb
theorem keepG_DR {A M M' : tw_M} (h : keepG M M') (hD : DR A M) : DR A M' := DR_congr hD ⟨fun _ _ => rfl, fun q h1 h2 => h.1 q (by omega), fun k hk => h.2 k (by omega)⟩
def markR (M : tw_M) (b : Nat) (mz : Nat → Int32) : Prop := ∀ k, k < b → M 115 k = mz k
def lowR (M M' : tw_M) (n : Nat) : Prop := ∀ i, i < n → M' 112 i = M 112 i ∧ M' 113 i = M 113 i ∧ M' 114 i = M 114 i
theorem lowR.tr {A B C : tw_M} {n : Nat} (h1 : lowR A B n) (h2 : lowR B C n) : lowR A C n := fun i hi => ⟨(h2 i hi).1.trans (h1 i hi).1, (h2 i hi).2.1.trans (h1 i hi).2.1, (h2 i hi).2.2.trans (h1 i hi).2.2⟩
def stkR (M : tw_M) (n : Nat) (P : Nat → Nat) : Prop := ∀ i, i < n → (M 112 i).toInt = (P i : Int)
def foundR (M : tw_M) (n : Nat) (P : Nat → Nat) (to : Nat) : Prop := (M 88 41).toInt = (n : Int) ∧ stkR M n P ∧ ∃ i, i < n ∧ P i = to ∧ (M 88 46).toInt = (i : Int)
abbrev LTm (d : Nat) (cv : Int32) (Q : tw_P) (M : tw_M) : Prop := tw_T none (d + 2) j_MD_hasCycle M 52 [some (.inr 88), some (.inl cv)] [] Q
def cyE (M : tw_M) (r : cy_R) (Q : tw_P) : Prop := ∀ (n' : Nat) (P' : Nat → Nat) (to : Nat) (M' : tw_M), r = .inl (n', P', to) → keepG M M' → foundR M' n' P' to → Q (some 1) M'
def visROK (A : tw_M) (d : Nat) (cv : Int32) (Q : tw_P) (f : Nat) : Prop := ∀ (M : tw_M) (n : Nat) (P : Nat → Nat) (mz : Nat → Int32) (s : Nat), DR A M → stkR M n P → (M 88 41).toInt = (n : Int) + 1 → (M 112 n).toInt = (s : Int) → (M 113 n).toInt = 0 → (M 114 n).toInt = 0 → markR M (A 1 8).toInt.toNat (upd mz s 1) → cyJ n P mz → mz s = 0 → s < (A 1 8).toInt.toNat → cn mz 12 ≤ f → (∀ (mz' : Nat → Int32) (M' : tw_M), vis (Gr A) f n P mz s = .inr mz' → keepG M M' → markR M' (A 1 8).toInt.toNat mz' → (M' 88 41).toInt = (n : Int) → lowR M M' n → LTm d cv Q M') → cyE M (vis (Gr A) f n P mz s) Q → LTm d cv Q M
theorem LT_of {d : Nat} {cv : Int32} {Q : tw_P} {M : tw_M} (hg : 0 < (M 88 41).toInt) (h : ∀ Q' : tw_P, (∀ M', LTm d cv Q M' → Q' (some 0) M') → (∀ M', Q (some 1) M' → Q' (some 1) M') → tw_C (d + 2) j_MD_visitOn [.inr 88] M Q') : LTm d cv Q M := by
  have z0 := tw_ti_0
  have z1 := tw_ti_1
  refine tw_aload_n (pc := 52) rfl rfl ?_
  refine tw_getV (pc := 53) (v := (M 88 41)) rfl fl_MD_132 rfl rfl rfl ?_
  refine tw_if_le (pc := 56) (tgt := 68) rfl rfl (fun c1 => absurd c1 (by omega)) (fun c1 => ?_)
  refine tw_aload_n (pc := 59) rfl rfl ?_
  refine tw_inv0 (pc := 60) rfl lk_MD_142 (Nat.le_of_ble_eq_true rfl) rfl rfl (h _ (fun MV hl => ?_) (fun MV hq => ?_))
  · refine tw_if_eq (pc := 63) (tgt := 52) rfl rfl (fun _ => ?_) (fun q => absurd q (by decide))
    exact hl
  · refine tw_if_eq (pc := 63) (tgt := 52) rfl rfl (fun q => absurd q (by decide)) (fun _ => ?_)
    refine tw_iconst (pc := 66) rfl tw_ic_1 ?_
    refine tw_ireturn (pc := 67) rfl rfl ?_
    exact hq
theorem lp_R_parts {A : tw_M} {d f n s j : Nat} {cv : Int32} {Q : tw_P} {P : Nat → Nat} (IH : visROK A d cv Q f) (hGi : ∀ s, s < 12 → ∀ l ∈ Gr A s, cyIn 12 l) (hs : s < (A 1 8).toInt.toNat) (hjm : (j : Int) < (A 20 s).toInt) (hPn : P n = s) : ∀ (r k : Nat) (M : tw_M) (mz : Nat → Int32), DR A M → stkR M (n + 1) P → (M 88 41).toInt = (n : Int) + 1 → (M 113 n).toInt = (j : Int) → (M 114 n).toInt = (k : Int) → k + r = (A 65 (A (8 + s) j).toInt.toNat).toInt.toNat → markR M (A 1 8).toInt.toNat mz → cyJ (n + 1) P mz → cn mz 12 ≤ f → (∀ (mz' : Nat → Int32) (M' : tw_M), goP (vis (Gr A) f (n + 1) P) (n + 1) P (ul (A (25 + (A (8 + s) j).toInt.toNat)) k r) mz = .inr mz' → keepG M M' → markR M' (A 1 8).toInt.toNat mz' → (M' 88 41).toInt = (n : Int) + 1 → lowR M M' n → M' 112 n = M 112 n → M' 113 n = M 113 n → (M' 114 n).toInt = (((A 65 (A (8 + s) j).toInt.toNat).toInt.toNat : Nat) : Int) → LTm d cv Q M') → cyE M (goP (vis (Gr A) f (n + 1) P) (n + 1) P (ul (A (25 + (A (8 + s) j).toInt.toNat)) k r) mz) Q → LTm d cv Q M := by
  intro r
  induction r with
  | zero =>
    intro k M mz hD hst h41 h113 h114 hkr hm hJ hc h hE
    exact h mz M rfl (keepG_rf M) hm h41 (fun _ _ => ⟨rfl, rfl, rfl⟩) rfl rfl (by omega)
  | succ r ih =>
    intro k M mz hD hst h41 h113 h114 hkr hm hJ hc h hE
    have hI := RI_of hD
    have hI8 := hD.1.2.1
    have hI14 := hD.1.2.2.1
    have hI5 := hD.1.1
    have hs12 : s < 12 := by omega
    have k20 : A 20 = M 94 := hD.2.2.1.2.2.2.2.2.1
    have k65 : A 65 = M 99 := hD.2.2.1.2.2.2.2.2.2.2.2.2.1
    have h20 := hD.1.2.2.2.2.1 s hs12
    have hn12 : n + 1 ≤ 12 := by have := hJ.2.2; omega
    have hmr := hD.2.2.2.2.2.2.2.1 s j (by omega) hjm
    have h65 := hD.1.2.2.2.2.2 (A (8 + s) j).toInt.toNat (by omega)
    have e95 : M 95 (5 * s + j) = (A (8 + s) j) := (hD.2.2.2.1 s j hs12 (by omega)).symm
    have e100 : M 100 (5 * (A (8 + s) j).toInt.toNat + k) = (A (25 + (A (8 + s) j).toInt.toNat) k) := (hD.2.2.2.2.1 (A (8 + s) j).toInt.toNat k (by omega) (by omega)).symm
    have htk := hD.2.2.2.2.2.2.2.2.1 (A (8 + s) j).toInt.toNat k (by omega) (by omega)
    have hkm : (k : Int) < (A 65 (A (8 + s) j).toInt.toNat).toInt := by omega
    have hul : ul (A (25 + (A (8 + s) j).toInt.toNat)) k (r + 1) = (A (25 + (A (8 + s) j).toInt.toNat) k) :: ul (A (25 + (A (8 + s) j).toInt.toNat)) (k + 1) r := rfl
    rw [hul] at h hE
    simp only [goP] at h hE
    have h112 : (M 112 n).toInt = (s : Int) := by rw [hst n (by omega), hPn]
    have ek1 : (M 114 n + 1).toInt = ((k + 1 : Nat) : Int) := by rw [tw_addI (by rw [tw_ti_1]; omega), tw_ti_1, h114]; rfl
    have hst1 : stkR (tw_set M 114 n (M 114 n + 1)) (n + 1) P := hst
    have kG1 : keepG M (tw_set M 114 n (M 114 n + 1)) := keepG_set (keepG_rf M) (by omega)
    have hlow1 : lowR M (tw_set M 114 n (M 114 n + 1)) n := fun i hi => ⟨rfl, rfl, tw_set_k _ _ (by omega)⟩
    have e114 : tw_set M 114 n (M 114 n + 1) 114 n = M 114 n + 1 := tw_set_s _ _ _ _
    have next : (if (A (25 + (A (8 + s) j).toInt.toNat) k).toInt < 16 then goP (vis (Gr A) f (n + 1) P) (n + 1) P (ul (A (25 + (A (8 + s) j).toInt.toNat)) (k + 1) r) mz else cy_then (cy_stp (vis (Gr A) f (n + 1) P) (n + 1) P mz ((A (25 + (A (8 + s) j).toInt.toNat) k) - 16).toInt.toNat) (goP (vis (Gr A) f (n + 1) P) (n + 1) P (ul (A (25 + (A (8 + s) j).toInt.toNat)) (k + 1) r))) = goP (vis (Gr A) f (n + 1) P) (n + 1) P (ul (A (25 + (A (8 + s) j).toInt.toNat)) (k + 1) r) mz → LTm d cv Q (tw_set M 114 n (M 114 n + 1)) := by
      intro e
      rw [e] at h hE
      refine ih (k + 1) _ mz (keepG_DR kG1 hD) hst1 h41 h113 (by rw [e114]; exact ek1) (by omega) hm hJ hc ?_ ?_
      · intro mz' M' q1 q2 q3 q4 q5 q6 q7 q8
        exact h mz' M' q1 (kG1.tr q2) q3 q4 (hlow1.tr q5) q6 q7 q8
      · intro n' P' to M' q1 q2 q3
        exact hE n' P' to M' q1 (kG1.tr q2) q3
    have hss : ¬ (A (25 + (A (8 + s) j).toInt.toNat) k).toInt < 16 → ((A (25 + (A (8 + s) j).toInt.toNat) k) - 16).toInt.toNat < (A 1 8).toInt.toNat := by
      intro q
      rcases htk with u | u
      · omega
      · rw [tw_subI (by rw [tw_ti_16]; omega), tw_ti_16]; omega
    refine LT_of (by omega) (fun Q' q0 q1 => sp_MD_visitOn (w := n) (c := s) (j := j) (k := k) hI (by omega) (by omega) h112 hs12 h113 h114 (by rw [← k20]; omega) (fun _ => by rw [e95, ← k65]; omega) (fun _ _ _ => by rw [e95, e100]; rcases htk with u | u <;> omega) ?_ ?_ ?_ ?_ ?_ ?_ ?_)
    · intro a1 a2 a3 a4
      rw [e95, e100] at a1 a4
      have hz : mz ((A (25 + (A (8 + s) j).toInt.toNat) k) - 16).toInt.toNat = 0 := by rw [← hm _ (hss a1)]; exact a4
      have := cn_pos hz 12 (by have := hss a1; omega)
      have := hJ.2.2
      omega
    · intro e
      rw [← k20] at e
      omega
    · intro e1 e2
      rw [e95, ← k65] at e2
      omega
    · intro _ _ e
      rw [e95, e100] at e
      exact q0 _ (next (if_pos e))
    · intro _ _ e1 e2
      rw [e95, e100] at e1 e2
      rw [e95, e100]
      have hlt := hss e1
      have hz : mz ((A (25 + (A (8 + s) j).toInt.toNat) k) - 16).toInt.toNat = 0 := by rw [← hm _ hlt]; exact e2
      have hz1 : ¬ mz ((A (25 + (A (8 + s) j).toInt.toNat) k) - 16).toInt.toNat = 1 := by rw [hz]; decide
      refine q0 _ ?_
      have er : (if (A (25 + (A (8 + s) j).toInt.toNat) k).toInt < 16 then goP (vis (Gr A) f (n + 1) P) (n + 1) P (ul (A (25 + (A (8 + s) j).toInt.toNat)) (k + 1) r) mz else cy_then (cy_stp (vis (Gr A) f (n + 1) P) (n + 1) P mz ((A (25 + (A (8 + s) j).toInt.toNat) k) - 16).toInt.toNat) (goP (vis (Gr A) f (n + 1) P) (n + 1) P (ul (A (25 + (A (8 + s) j).toInt.toNat)) (k + 1) r))) = cy_then (vis (Gr A) f (n + 1) P mz ((A (25 + (A (8 + s) j).toInt.toNat) k) - 16).toInt.toNat) (goP (vis (Gr A) f (n + 1) P) (n + 1) P (ul (A (25 + (A (8 + s) j).toInt.toNat)) (k + 1) r)) := by
        rw [if_neg e1]
        unfold cy_stp
        rw [if_neg hz1, if_pos hz]
      rw [er] at h hE
      have ets : ((A (25 + (A (8 + s) j).toInt.toNat) k) - 16).toInt = ((((A (25 + (A (8 + s) j).toInt.toNat) k) - 16).toInt.toNat : Nat) : Int) := by
        rcases htk with u | u
        · omega
        · rw [tw_subI (by rw [tw_ti_16]; omega), tw_ti_16]; omega
      generalize hgs : ((A (25 + (A (8 + s) j).toInt.toNat) k) - 16).toInt.toNat = s' at *
      have kG2 : keepG M (tw_set (tw_set (tw_set (tw_set (tw_set (tw_set M 114 n (M 114 n + 1)) 115 s' 1) 112 (n + 1) ((A (25 + (A (8 + s) j).toInt.toNat) k) - 16)) 113 (n + 1) 0) 114 (n + 1) 0) 88 41 (M 88 41 + 1)) := keepG_set (keepG_set (keepG_set (keepG_set (keepG_set kG1 (by omega)) (by omega)) (by omega)) (by omega)) (by omega)
      have f112 : ∀ i, (tw_set (tw_set (tw_set (tw_set (tw_set (tw_set M 114 n (M 114 n + 1)) 115 s' 1) 112 (n + 1) ((A (25 + (A (8 + s) j).toInt.toNat) k) - 16)) 113 (n + 1) 0) 114 (n + 1) 0) 88 41 (M 88 41 + 1)) 112 i = if i = n + 1 then (A (25 + (A (8 + s) j).toInt.toNat) k) - 16 else M 112 i := by intro i; by_cases e : i = n + 1 <;> simp [tw_set, e]
      have f113 : ∀ i, (tw_set (tw_set (tw_set (tw_set (tw_set (tw_set M 114 n (M 114 n + 1)) 115 s' 1) 112 (n + 1) ((A (25 + (A (8 + s) j).toInt.toNat) k) - 16)) 113 (n + 1) 0) 114 (n + 1) 0) 88 41 (M 88 41 + 1)) 113 i = if i = n + 1 then 0 else M 113 i := by intro i; by_cases e : i = n + 1 <;> simp [tw_set, e]
      have f114 : ∀ i, (tw_set (tw_set (tw_set (tw_set (tw_set (tw_set M 114 n (M 114 n + 1)) 115 s' 1) 112 (n + 1) ((A (25 + (A (8 + s) j).toInt.toNat) k) - 16)) 113 (n + 1) 0) 114 (n + 1) 0) 88 41 (M 88 41 + 1)) 114 i = if i = n + 1 then 0 else if i = n then M 114 n + 1 else M 114 i := by
        intro i
        by_cases e : i = n + 1
        · simp [tw_set, e]
        · by_cases e' : i = n <;> simp [tw_set, e, e']
      have f115 : ∀ i, (tw_set (tw_set (tw_set (tw_set (tw_set (tw_set M 114 n (M 114 n + 1)) 115 s' 1) 112 (n + 1) ((A (25 + (A (8 + s) j).toInt.toNat) k) - 16)) 113 (n + 1) 0) 114 (n + 1) 0) 88 41 (M 88 41 + 1)) 115 i = if i = s' then 1 else M 115 i := by intro i; by_cases e : i = s' <;> simp [tw_set, e]
      have f41 : (tw_set (tw_set (tw_set (tw_set (tw_set (tw_set M 114 n (M 114 n + 1)) 115 s' 1) 112 (n + 1) ((A (25 + (A (8 + s) j).toInt.toNat) k) - 16)) 113 (n + 1) 0) 114 (n + 1) 0) 88 41 (M 88 41 + 1)) 88 41 = M 88 41 + 1 := rfl
      generalize (tw_set (tw_set (tw_set (tw_set (tw_set (tw_set M 114 n (M 114 n + 1)) 115 s' 1) 112 (n + 1) ((A (25 + (A (8 + s) j).toInt.toNat) k) - 16)) 113 (n + 1) 0) 114 (n + 1) 0) 88 41 (M 88 41 + 1)) = M2 at *
      have z0 := tw_ti_0
      refine IH M2 (n + 1) P mz s' (keepG_DR kG2 hD) (fun i hi => by rw [f112, if_neg (by omega)]; exact hst i hi) (by rw [f41, tw_addI (by rw [tw_ti_1]; omega), tw_ti_1, h41]; omega) (by rw [f112, if_pos rfl]; exact ets) (by rw [f113, if_pos rfl, z0]) (by rw [f114, if_pos rfl, z0]) (fun i hi => by rw [f115]; unfold upd; by_cases e : i = s'; rw [if_pos e, if_pos e]; rw [if_neg e, if_neg e]; exact hm i hi) hJ hz hlt hc ?_ ?_
      · intro mz' M' r1 r2 r3 r4 r5
        have hcy := vis_J hGi f (n + 1) P mz s' hJ hz (by omega)
        rw [r1] at hcy
        rw [r1] at h hE
        have l112 : M' 112 n = M 112 n := by rw [(r5 n (by omega)).1, f112, if_neg (by omega)]
        have l113 : M' 113 n = M 113 n := by rw [(r5 n (by omega)).2.1, f113, if_neg (by omega)]
        have l114 : M' 114 n = M 114 n + 1 := by rw [(r5 n (by omega)).2.2, f114, if_neg (by omega), if_pos rfl]
        have hlow2 : lowR M M' n := fun i hi => ⟨by rw [(r5 i (by omega)).1, f112, if_neg (by omega)], by rw [(r5 i (by omega)).2.1, f113, if_neg (by omega)], by rw [(r5 i (by omega)).2.2, f114, if_neg (by omega), if_neg (by omega)]⟩
        have hst2 : stkR M' (n + 1) P := by
          intro i hi
          rw [(r5 i hi).1, f112, if_neg (by omega)]
          exact hst i hi
        refine ih (k + 1) M' mz' (keepG_DR (kG2.tr r2) hD) hst2 (by rw [r4]; rfl) (by rw [l113]; exact h113) (by rw [l114]; exact ek1) (by omega) r3 hcy.1 (Nat.le_trans hcy.2 hc) ?_ ?_
        · intro mz2 M3 q1 q2 q3 q4 q5 q6 q7 q8
          exact h mz2 M3 q1 ((kG2.tr r2).tr q2) q3 q4 (hlow2.tr q5) (q6.trans l112) (q7.trans l113) q8
        · intro n' P' to M3 q1 q2 q3
          exact hE n' P' to M3 q1 ((kG2.tr r2).tr q2) q3
      · intro n' P' to M' r1 r2 r3
        exact hE n' P' to M' (by rw [r1]; rfl) (kG2.tr r2) r3
    · intro _ _ e1 e2
      rw [e95, e100] at e1 e2
      rw [e95, e100]
      have hlt := hss e1
      have hz : mz ((A (25 + (A (8 + s) j).toInt.toNat) k) - 16).toInt.toNat = 1 := by rw [← hm _ hlt]; exact e2
      obtain ⟨i0, hi0, hPi⟩ := (hJ.1 _).mp hz
      have er : (if (A (25 + (A (8 + s) j).toInt.toNat) k).toInt < 16 then goP (vis (Gr A) f (n + 1) P) (n + 1) P (ul (A (25 + (A (8 + s) j).toInt.toNat)) (k + 1) r) mz else cy_then (cy_stp (vis (Gr A) f (n + 1) P) (n + 1) P mz ((A (25 + (A (8 + s) j).toInt.toNat) k) - 16).toInt.toNat) (goP (vis (Gr A) f (n + 1) P) (n + 1) P (ul (A (25 + (A (8 + s) j).toInt.toNat)) (k + 1) r))) = .inl (n + 1, P, ((A (25 + (A (8 + s) j).toInt.toNat) k) - 16).toInt.toNat) := by
        rw [if_neg e1]
        unfold cy_stp
        rw [if_pos hz]
        rfl
      rw [er] at hE
      have ets : ((A (25 + (A (8 + s) j).toInt.toNat) k) - 16).toInt = ((((A (25 + (A (8 + s) j).toInt.toNat) k) - 16).toInt.toNat : Nat) : Int) := by
        rcases htk with u | u
        · omega
        · rw [tw_subI (by rw [tw_ti_16]; omega), tw_ti_16]; omega
      refine lp_MD_from hn12 hi0 hPi hJ.2.1 ets i0 0 _ (by show (0 : Int32).toInt = _; rw [tw_ti_0]; rfl) (by omega) hst (fun M' q2 q3 q4 => q1 M' ?_)
      refine hE (n + 1) P _ M' rfl (keepG.tr (keepG_set kG1 (q := 88) (k := 46) (x := 0) (by omega)) ⟨fun q hq => q2 q (by omega), fun k' hk' => q3 k' (by omega)⟩) ⟨by rw [q3 41 (by omega)]; show (M 88 41).toInt = _; rw [h41]; rfl, fun i hi => by rw [q2 112 (by omega)]; exact hst i hi, i0, hi0, hPi, q4⟩
    · intro _ _ e1 e2 e3
      rw [e95, e100] at e1 e2 e3
      have hlt := hss e1
      have hz0 : ¬ mz ((A (25 + (A (8 + s) j).toInt.toNat) k) - 16).toInt.toNat = 0 := by rw [← hm _ hlt]; exact e2
      have hz1 : ¬ mz ((A (25 + (A (8 + s) j).toInt.toNat) k) - 16).toInt.toNat = 1 := by rw [← hm _ hlt]; exact e3
      refine q0 _ (next ?_)
      rw [if_neg e1]
      unfold cy_stp
      rw [if_neg hz1, if_neg hz0]
      rfl
