theorem ckC_out (M : tw_M) {q : Nat} (h : q < 82 ∨ 87 < q) : ckC M q = M q := by
  unfold ckC beginC
  rw [putAll_out _ (by omega), tw_set_q _ _ (by omega), tw_set_q _ _ (by omega), tw_set_q _ _ (by omega), tw_set_q _ _ (by omega), tw_set_q _ _ (by omega)]
theorem tkC_out (M : tw_M) (t m : Int32) {q : Nat} (h : q < 82 ∨ 87 < q) : tkC M t m q = M q := by
  unfold tkC
  split
  · rw [tw_set_q _ _ (by omega), tw_set_q _ _ (by omega), tw_set_q _ _ (by omega)]
  · rw [tw_set_q _ _ (by omega), putAll_out _ (by omega), tw_set_q _ _ (by omega)]
def keepK (N N' : tw_M) : Prop := (∀ q, q ≠ 88 ∧ (q < 102 ∨ 104 < q) → N' q = N q) ∧ (∀ k, k < 36 ∨ 40 < k → N' 88 k = N 88 k) ∧ ∀ q c : Nat, 102 ≤ q → q ≤ 104 → c < 250 → N' q c = N q c
theorem keepK_puts {N : tw_M} {p : Int32} {l : List Int32} (h1 : 250 ≤ (N 88 39).toInt) (h2 : (N 88 39).toInt + l.length ≤ 500) : keepK N (putRs 38 p N l) := ⟨fun q hq => putRs_out _ hq _ _, fun k hk => putRs_88 _ (by omega) _ _, fun q c hq _ hc => putRs_hi l N h1 h2 q c hq hc⟩
theorem keepK_rf (N : tw_M) : keepK N N := ⟨fun _ _ => rfl, fun _ _ => rfl, fun _ _ _ _ _ => rfl⟩
theorem keepK.tr {A B C : tw_M} (h1 : keepK A B) (h2 : keepK B C) : keepK A C := ⟨fun q hq => (h2.1 q hq).trans (h1.1 q hq), fun k hk => (h2.2.1 k hk).trans (h1.2.1 k hk), fun q c a b e => (h2.2.2 q c a b e).trans (h1.2.2 q c a b e)⟩
theorem keepK_set {N N' : tw_M} (h : keepK N N') {k : Nat} {x : Int32} (hk : 36 ≤ k ∧ k ≤ 40) : keepK N (tw_set N' 88 k x) := by
  refine ⟨fun a ha => ?_, fun b hb => ?_, fun q c hq1 hq2 hc => ?_⟩
  · rw [tw_set_q _ _ (by omega)]; exact h.1 a ha
  · rw [tw_set_k _ _ (by omega)]; exact h.2.1 b hb
  · rw [tw_set_q _ _ (by omega)]; exact h.2.2 q c hq1 hq2 hc
theorem ckR_keep {N : tw_M} (ha : 0 ≤ (N 88 16).toInt ∧ (N 88 16).toInt ≤ 6) : keepK N (ckR N) := by
  unfold ckR
  refine keepK.tr (keepK_set (keepK_set (keepK_set (keepK_set (keepK_set (keepK_rf N) (by omega)) (by omega)) (by omega)) (by omega)) (by omega)) (keepK_puts ?_ ?_)
  · show 250 ≤ (250 : Int32).toInt; decide
  · rw [dl_len]; show (250 : Int32).toInt + _ ≤ 500; have z : (250 : Int32).toInt = 250 := by decide
    omega
theorem tkR_keep {N : tw_M} {t m : Int32} (h1 : 250 ≤ (N 88 39).toInt ∧ (N 88 39).toInt ≤ 495) (h2 : (N 99 m.toInt.toNat).toInt ≤ 5) : keepK N (tkR N t m) := by
  unfold tkR
  split
  · exact keepK_set (keepK_set (keepK_set (keepK_rf N) (by omega)) (by omega)) (by omega)
  · refine keepK_set (keepK.tr (keepK_set (k := 38) (keepK_rf N) (by omega)) (keepK_puts ?_ ?_)) (by omega)
    · show 250 ≤ (N 88 39).toInt; omega
    · rw [dl_len]; show (N 88 39).toInt + _ ≤ 500; omega
theorem fin_ck {M M1 M2 : tw_M} (h : IV M) (hc : ∀ q, q < 82 → M1 q = M q) (hr : ∀ q, 88 ≤ q → M1 q = M q) (k : keepK M1 M2) (hck : CkR M1 M2) : IV M2 := by
  obtain ⟨hD, hS, hC⟩ := h
  obtain ⟨k1, k2, k3⟩ := k
  refine ⟨DR_congr hD ⟨fun q hq => (k1 q (by omega)).trans (hc q (by omega)), fun q h1 h2 => (k1 q (by omega)).trans (hr q (by omega)), fun j hj => (k2 j (by omega)).trans (by rw [hr 88 (by omega)])⟩, SV_congr hS (fun q hq => (k1 q (by omega)).trans (hc q (by omega))) (fun j h1 h2 => (k2 j (by omega)).trans (by rw [hr 88 (by omega)])) (fun q c h1 h2 h3 => (k3 q c h1 h2 h3).trans (by rw [hr q (by omega)])) (fun q h1 h2 => (k1 q (by omega)).trans (hr q (by omega))), Or.inr (CkR_congr hck (fun q hq => k1 q (by omega)) (fun _ _ _ => rfl) (fun _ _ _ _ => rfl))⟩
theorem op_check {d : Nat} {M : tw_M} (h : IV M) : tw_C (d + 8) j_TW_check [.inr 0] M (fun r1 M1 => ∃ v, r1 = some v ∧ tw_C (d + 8) j_MD_check [.inr 88] M1 (fun r2 M2 => r2 = some v ∧ IV M2)) := by
  obtain ⟨hD, hS, hC⟩ := id h
  obtain ⟨c1, -⟩ := check_R hD
  have hon : ¬ ckC M 82 4 = 0 := by rw [c1.1]; decide
  have hR : RowI 83 (ckC M) := by
    obtain ⟨-, -, -, -, k, b, h5, h6, h7, hK⟩ := c1
    exact KRow_RowI hK (by omega)
  refine sp_TW_check hD.1 (fun _ => hR) hon ⟨_, rfl, ?_⟩
  have er : ∀ q, 88 ≤ q → ckC M q = M q := fun q hq => ckC_out M (by omega)
  have hD1 := DR_ref hD er
  have ha := (RI_of hD1).2.2.2.1
  have c2 := check_R hD1
  refine sp_MD_check ha ⟨by rw [c2.2], ?_⟩
  refine fin_ck h (fun q hq => ckC_out M (by omega)) er (ckR_keep ha) ?_
  have e : ckC M = ckC M := rfl
  exact c2.1
theorem op_left {d : Nat} {M : tw_M} (h : IV M) : tw_C (d + 8) j_TW_left [.inr 0] M (fun r1 M1 => ∃ v, r1 = some v ∧ tw_C (d + 8) j_MD_left [.inr 88] M1 (fun r2 M2 => r2 = some v ∧ IV M2)) := by
  obtain ⟨hD, hS, hC⟩ := id h
  rcases hC with ⟨o1, o2⟩ | hK
  · exact sp_TW_left (fun q => absurd o1 q) (fun q => absurd o1 q) (fun _ => ⟨_, rfl, sp_MD_leftN o2 ⟨rfl, h⟩⟩)
  · obtain ⟨h1, h2, h3, h4, k, b, h5, h6, h7, hKr⟩ := hK
    have on1 : ¬ M 82 4 = 0 := by rw [h1]; decide
    have on2 : ¬ M 88 36 = 0 := by rw [h2]; decide
    exact sp_TW_left (fun _ => KRow_RowI hKr (by omega)) (fun _ => ⟨_, rfl, sp_MD_left on2 hKr (by omega) ⟨rfl, h⟩⟩) (fun q => absurd q on1)
theorem op_told {d : Nat} {M : tw_M} {t m : Int32} (h : IV M) : tw_C (d + 8) j_TW_told [.inr 0, .inl t, .inl m] M (fun r1 M1 => ∃ v, r1 = some v ∧ tw_C (d + 8) j_MD_told [.inr 88, .inl t, .inl m] M1 (fun r2 M2 => r2 = some v ∧ IV M2)) := by
  obtain ⟨hD, hS, hC⟩ := id h
  rcases hC with ⟨o1, o2⟩ | hK
  · exact sp_TW_told hD.1 (fun q => absurd o1 q) (fun q => absurd o1 q) (fun _ => ⟨_, rfl, sp_MD_told (RI_of hD) (fun q => absurd o2 q) (fun q => absurd o2 q) (fun _ => ⟨rfl, h⟩) (fun q => absurd o2 q) (fun q => absurd o2 q)⟩) (fun q => absurd o1 q) (fun q => absurd o1 q)
  · have on1 : ¬ M 82 4 = 0 := by rw [hK.1]; decide
    have on2 : ¬ M 88 36 = 0 := by rw [hK.2.1]; decide
    obtain ⟨r, ok, hh, hc⟩ := told_ok (t := t) (m := m) hD hK
    have ht := told_R (t := t) (m := m) hD hK
    refine sp_TW_told hD.1 (fun _ => r) (fun _ => ok) (fun q => absurd q on1) (fun _ hne => ⟨_, rfl, ?_⟩) (fun _ he => ⟨_, rfl, ?_⟩)
    · exact sp_MD_told (RI_of hD) (fun _ => hh) (fun _ => hc) (fun q => absurd q on2) (fun _ _ => ⟨by rw [ht.1], h⟩) (fun _ he => absurd (ht.1.trans he) hne)
    · have er : ∀ q, 88 ≤ q → tkC M t m q = M q := fun q hq => tkC_out M t m (by omega)
      have hD1 := DR_ref hD er
      have hK1 : CkR M (tkC M t m) := CkR_congr hK (fun _ _ => rfl) (fun k h1 h2 => by rw [er 88 (by omega)]) (fun q c h1 h2 => by rw [er q (by omega)])
      obtain ⟨r1, ok1, hh1, hc1⟩ := told_ok (t := t) (m := m) hD1 hK1
      have ht1 := told_R (t := t) (m := m) hD1 hK1
      have on3 : ¬ tkC M t m 88 36 = 0 := by rw [er 88 (by omega)]; exact on2
      have hf : foR (tkC M t m) t m = 0 := ht1.1.symm.trans he
      have h48 : ¬ tkC M t m 88 40 = 48 := by
        intro z
        unfold foR at hf
        by_cases q1 : tkC M t m 88 38 = -1
        · rw [if_pos q1] at hf; exact absurd hf (by decide)
        · rw [if_neg q1] at hf
          by_cases q2 : tkC M t m 102 (tkC M t m 88 38).toInt.toNat = t
          · rw [if_pos q2, if_pos z] at hf; exact absurd hf (by decide)
          · rw [if_neg q2] at hf; exact absurd hf (by decide)
      refine sp_MD_told (RI_of hD1) (fun _ => hh1) (fun _ => hc1) (fun q => absurd q on3) (fun _ hne => absurd hf hne) (fun _ _ => ⟨by rw [ht1.1], ?_⟩)
      have hb := hc1 h48
      have h250 : 250 ≤ (tkC M t m 88 39).toInt := by
        obtain ⟨-, -, -, -, k, b, -, -, -, hKr⟩ := hK1
        have := hKr.2.1
        omega
      have h99 : (tkC M t m 99 m.toInt.toNat).toInt ≤ 5 := by
        rw [er 99 (by omega)]
        have k65 : M 65 = M 99 := hD.2.2.1.2.2.2.2.2.2.2.2.2.1
        rw [← k65]
        by_cases hlt : m.toInt.toNat < 40
        · exact (hD.1.2.2.2.2.2 _ hlt).2
        · rw [hD.2.2.2.2.2.2.1 _ (by have := hD.1.2.2.1; omega)]; decide
      exact fin_ck h (fun q hq => tkC_out M t m (by omega)) er (tkR_keep ⟨h250, hb.2⟩ h99) (ht1.2 he)
theorem SV_n {M N : tw_M} (h : SV M N) : 0 ≤ (M 70 8).toInt ∧ (M 70 8).toInt ≤ 48 := by
  rcases h with ⟨_, q, _⟩ | ⟨_, g, _⟩ | ⟨_, g, _⟩ | g
  · rw [q]; decide
  · exact GoR_n g
  · exact GoR_n g
  · rw [g.2.1]; decide
theorem fnd_R {M N : tw_M} (h : SV M N) : (M 70 12 = 0 ∧ GoR M N ∧ (¬ N 88 21 = 0 ∧ N 88 22 = 0 ∧ N 88 23 = 0 ∧ N 88 26 = -1)) ∨ (¬ M 70 12 = 0 ∧ ¬ (¬ N 88 21 = 0 ∧ N 88 22 = 0 ∧ N 88 23 = 0 ∧ N 88 26 = -1)) := by
  rcases h with ⟨a, _, _, _, b⟩ | h
  · exact Or.inr ⟨by rw [a]; decide, fun q => q.1 b⟩
  · have ho := on_R h
    rcases h with ⟨a, g, f⟩ | ⟨a, g, f1, f2⟩ | g
    · exact Or.inr ⟨by rw [a]; decide, (ho.mp a).2⟩
    · obtain ⟨⟨e9, e11, e10, e4, e5, e8, e21, e22⟩, -⟩ := id g
      exact Or.inl ⟨a, g, by rw [e21]; decide, e22, e9.symm.trans f1, e4.symm.trans f2⟩
    · exact Or.inr ⟨by rw [g.1]; decide, fun q => by have := q.2.1; rw [g.2.2.2.2.2.1] at this; exact absurd this (by decide)⟩
theorem op_steps {d : Nat} {M : tw_M} (h : IV M) : tw_C (d + 8) j_TW_steps [.inr 0] M (fun r1 M1 => ∃ v, r1 = some v ∧ tw_C (d + 8) j_MD_steps [.inr 88] M1 (fun r2 M2 => r2 = some v ∧ IV M2)) := by
  obtain ⟨hD, hS, hC⟩ := id h
  refine sp_TW_steps ⟨_, rfl, ?_⟩
  refine sp_MD_steps (fun q => ⟨?_, h⟩) (fun q => ⟨?_, h⟩)
  · rcases hS with ⟨_, _, _, _, b⟩ | ⟨_, g, _⟩ | ⟨_, g, _⟩ | g
    · exact absurd b q
    · rw [g.1.2.1]
    · rw [g.1.2.1]
    · rw [g.2.2.2.1]
  · rcases hS with ⟨_, _, _, b, _⟩ | ⟨_, g, _⟩ | ⟨_, g, _⟩ | g
    · rw [b]
    · rw [g.1.2.2.2.2.2.2.1] at q; exact absurd q (by decide)
    · rw [g.1.2.2.2.2.2.2.1] at q; exact absurd q (by decide)
    · rw [g.2.2.2.2.1] at q; exact absurd q (by decide)
theorem op_task {d : Nat} {M : tw_M} {k : Int32} (h : IV M) : tw_C (d + 8) j_TW_task [.inr 0, .inl k] M (fun r1 M1 => ∃ v, r1 = some v ∧ tw_C (d + 8) j_MD_task [.inr 88, .inl k] M1 (fun r2 M2 => r2 = some v ∧ IV M2)) := by
  obtain ⟨hD, hS, hC⟩ := id h
  rcases fnd_R hS with ⟨a, g, f⟩ | ⟨a, f⟩
  · have e8 : M 70 8 = M 88 28 := g.1.2.2.2.2.2.1
    have hn := GoR_n g
    refine sp_TW_task hn hD.1 (fun _ => ⟨_, rfl, ?_⟩) (fun q => absurd a q)
    refine sp_MD_task (by rw [← e8]; exact hn) f ⟨?_, h⟩
    rw [← e8, pt_R hD _ _ _ (fun j _ hj => GoR_nd g j (by omega))]
  · exact sp_TW_task (SV_n hS) hD.1 (fun q => absurd q a) (fun _ => ⟨_, rfl, sp_MD_taskN f ⟨rfl, h⟩⟩)
theorem op_found {d : Nat} {M : tw_M} {w : Int32} (h : IV M) : tw_C (d + 8) j_TW_found [.inr 0, .inl w] M (fun r1 M1 => ∃ v, r1 = some v ∧ tw_C (d + 8) j_MD_found [.inr 88, .inl w] M1 (fun r2 M2 => r2 = some v ∧ IV M2)) := by
  obtain ⟨hD, hS, hC⟩ := id h
  have z0 := tw_ti_0
  have z1 := tw_ti_1
  have z2 := tw_ti_2
  rcases fnd_R hS with ⟨a, g, f⟩ | ⟨a, f⟩
  · have e8 : M 70 8 = M 88 28 := g.1.2.2.2.2.2.1
    have e10 : M 70 10 = M 88 25 := g.1.2.2.1
    have hn := GoR_n g
    have hnd : ∀ j, 0 ≤ j → j < 0 + (M 70 8).toInt.toNat → NdR M M j := fun j _ hj => GoR_nd g j (by omega)
    have ht : (0 ≤ (M 88 28).toInt ∧ (M 88 28).toInt ≤ 48) ∧ ∀ i : Nat, (i : Int) < (M 88 28).toInt → (M 105 i).toInt < 16 → 0 ≤ (M 105 i).toInt ∧ (M 105 i).toInt < 12 := by
      rw [← e8]
      refine ⟨hn, fun i hi hlt => ?_⟩
      have hd := GoR_nd g i hi
      have hp := (prim_R hD hd).mpr hlt
      have hI5 := hD.1.1
      rw [← hd.1]
      omega
    have nz : ∀ x : Int32, ¬ w.toInt = x.toInt → ¬ w = x := fun x q z => q (by rw [z])
    refine sp_TW_found hn hD.1 (fun q => ⟨_, rfl, ?_⟩) (fun _ q => ⟨_, rfl, ?_⟩) (fun _ q => ⟨_, rfl, ?_⟩) (fun _ q => ⟨_, rfl, ?_⟩) (fun _ q => ⟨_, rfl, ?_⟩)
    · exact sp_MD_found (fun _ => ht) (fun _ => ⟨rfl, h⟩) (fun _ z => absurd ⟨a, by rw [z, z0]; omega, by rw [z, z0]; omega⟩ q) (fun _ z => absurd ⟨a, by rw [z, z1]; omega, by rw [z, z1]; omega⟩ q) (fun _ z => absurd ⟨a, by rw [z, z2]; omega, by rw [z, z2]; omega⟩ q) (fun _ z => absurd ⟨a, z.1, z.2.1⟩ q)
    · have hw : w = 0 := Int32.toInt_inj.mp (by rw [q, z0])
      exact sp_MD_found (fun _ => ht) (fun z => absurd ⟨f, by omega, by omega⟩ z) (fun _ _ => ⟨by rw [← e8, pl_R hD _ _ _ hnd], h⟩) (fun _ z => absurd (by rw [hw] at z; exact z) (by decide)) (fun _ z => absurd (by rw [hw] at z; exact z) (by decide)) (fun _ z => absurd hw z.2.2.1)
    · have hw : w = 1 := Int32.toInt_inj.mp (by rw [q, z1])
      exact sp_MD_found (fun _ => ht) (fun z => absurd ⟨f, by omega, by omega⟩ z) (fun _ z => absurd (by rw [hw] at z; exact z) (by decide)) (fun _ _ => ⟨by rw [← e8, pc_R hD _ _ _ hnd], h⟩) (fun _ z => absurd (by rw [hw] at z; exact z) (by decide)) (fun _ z => absurd hw z.2.2.2.1)
    · have hw : w = 2 := Int32.toInt_inj.mp (by rw [q, z2])
      exact sp_MD_found (fun _ => ht) (fun z => absurd ⟨f, by omega, by omega⟩ z) (fun _ z => absurd (by rw [hw] at z; exact z) (by decide)) (fun _ z => absurd (by rw [hw] at z; exact z) (by decide)) (fun _ _ => ⟨by rw [e10], h⟩) (fun _ z => absurd hw z.2.2.2.2)
    · exact sp_MD_found (fun _ => ht) (fun z => absurd ⟨f, by omega, by omega⟩ z) (fun _ z => absurd z (nz 0 (by omega))) (fun _ z => absurd z (nz 1 (by omega))) (fun _ z => absurd z (nz 2 (by omega))) (fun _ _ => ⟨by rw [e8], h⟩)
  · refine sp_TW_found (SV_n hS) hD.1 (fun q => ⟨_, rfl, ?_⟩) (fun q => absurd q a) (fun q => absurd q a) (fun q => absurd q a) (fun q => absurd q a)
    exact sp_MD_found (fun q => absurd q f) (fun _ => ⟨rfl, h⟩) (fun q => absurd q f) (fun q => absurd q f) (fun q => absurd q f) (fun q => absurd q f)
