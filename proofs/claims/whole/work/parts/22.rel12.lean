theorem meth_R {M N : tw_M} {i : Nat} (hD : DR M N) (h : NodeR M N i) (hk : KeptR M N i) : (¬ N 108 i = 0 → (16 ≤ (N 105 i).toInt ∧ (N 105 i).toInt < 28) ∧ (0 ≤ (N 107 i).toInt ∧ (N 107 i).toInt < 5) ∧ mAt M (M 76 i) (M 78 i) = ownR N i) ∧ (N 108 i = 0 → mAt M (M 76 i) (M 78 i) = -1) := by
  obtain ⟨⟨f1, f2, f3, f4, f5, f6⟩, ht, hp, hx⟩ := h
  have z5 : (5 : Int32).toInt = 5 := by decide
  have z16 : (16 : Int32).toInt = 16 := by decide
  have hI := hD.1
  have hI8 := hI.2.1
  have hI5 := hI.1
  unfold KeptR at hk
  by_cases hc : (M 76 i).toInt < 16
  · rw [if_pos hc] at hk
    refine ⟨fun q => absurd hk q, fun _ => ?_⟩
    unfold mAt
    exact if_neg (by omega)
  · rw [if_neg hc] at hk
    have hc2 : 16 ≤ (M 76 i).toInt := by omega
    have hpp := hp hc2
    have hci : 16 ≤ (M 76 i).toInt ∧ (M 76 i).toInt < 16 + (M 1 8).toInt := by
      rcases ht with q | q
      · omega
      · exact q
    have es : (M 76 i - 16).toInt = (M 76 i).toInt - 16 := by rw [tw_subI (by omega), z16]
    have hmc := hI.2.2.2.2.1 (M 76 i - 16).toInt.toNat (by omega)
    have a1 : ((5 : Int32) * (M 76 i - 16)).toInt = 5 * (M 76 i - 16).toInt := by rw [tw_mulI (by rw [z5]; omega), z5]
    have a2 : ((5 : Int32) * (M 76 i - 16) + M 78 i).toInt = 5 * (M 76 i - 16).toInt + (M 78 i).toInt := by rw [tw_addI (by omega), a1]
    refine ⟨fun _ => ⟨by rw [← f1]; omega, by rw [← f3]; omega, ?_⟩, fun q => by rw [hk] at q; exact absurd q (by decide)⟩
    have em : mAt M (M 76 i) (M 78 i) = M (8 + (M 76 i - 16).toInt.toNat) (M 78 i).toInt.toNat := by unfold mAt; exact if_pos ⟨hci, hpp⟩
    unfold ownR
    rw [em, ← f1, ← f3, hD.2.2.2.1 (M 76 i - 16).toInt.toNat (M 78 i).toInt.toNat (by omega) (by omega)]
    congr 1
    omega
theorem op_node {d : Nat} {M : tw_M} {k w : Int32} (h : IV M) : tw_C (d + 8) j_TW_node [.inr 0, .inl k, .inl w] M (fun r1 M1 => ∃ v, r1 = some v ∧ tw_C (d + 8) j_MD_node [.inr 88, .inl k, .inl w] M1 (fun r2 M2 => r2 = some v ∧ IV M2)) := by
  obtain ⟨hD, hS, hC⟩ := id h
  have z0 := tw_ti_0
  have z1 := tw_ti_1
  have z2 := tw_ti_2
  have hn := SV_n hS
  have key : (GoR M M ∧ M 88 21 = 1) ∨ ((M 70 8).toInt = 0 ∧ (M 88 21 = 0 ∨ (M 88 21 = 1 ∧ M 88 28 = 0))) := by
    rcases hS with ⟨_, q, _, _, b⟩ | ⟨_, g, _⟩ | ⟨_, g, _⟩ | g
    · exact Or.inr ⟨by rw [q]; decide, Or.inl b⟩
    · exact Or.inl ⟨g, g.1.2.2.2.2.2.2.1⟩
    · exact Or.inl ⟨g, g.1.2.2.2.2.2.2.1⟩
    · exact Or.inr ⟨by rw [g.2.1]; decide, Or.inr ⟨g.2.2.2.2.1, g.2.2.2.2.2.2⟩⟩
  rcases key with ⟨g, s1⟩ | ⟨q8, qr⟩
  · have e8 : M 70 8 = M 88 28 := g.1.2.2.2.2.2.1
    have son : ¬ M 88 21 = 0 := by rw [s1]; decide
    obtain ⟨⟨e9, -⟩, n, o, a1, a2, a3, ⟨b1, -⟩, a5, -⟩ := id g
    have hnd : (0 ≤ k.toInt ∧ k.toInt < (M 70 8).toInt) → NodeR M M k.toInt.toNat := fun q => b1 _ (by omega)
    have hkk : (0 ≤ k.toInt ∧ k.toInt < (M 70 8).toInt) → (M 70 9 = 0 ∨ ¬ k = M 70 8 - 1) → KeptR M M k.toInt.toNat := by
      intro q z
      rcases a3 with ⟨u, v⟩ | ⟨u, v, _⟩
      · exact a5 _ (by omega)
      · rcases z with z | z
        · rw [u] at z; exact absurd z (by decide)
        · have e1 : (M 70 8 - 1).toInt = (M 70 8).toInt - 1 := by rw [tw_subI (by omega), z1]
          have zz := tw_ne z
          exact a5 _ (by omega)
    have hko : (0 ≤ k.toInt ∧ k.toInt < (M 70 8).toInt) → ¬ M 70 9 = 0 → k = M 70 8 - 1 → M 108 k.toInt.toNat = 0 := by
      intro q z1' z2'
      rcases a3 with ⟨u, v⟩ | ⟨u, v, _, v2⟩
      · exact absurd u z1'
      · have e1 : (M 70 8 - 1).toInt = (M 70 8).toInt - 1 := by rw [tw_subI (by omega), z1]
        have e2 : k.toInt.toNat = o := by rw [z2', e1]; omega
        rw [e2]; exact v2
    have hkp : ¬ M 88 21 = 0 → (0 ≤ k.toInt ∧ k.toInt < (M 88 28).toInt) → ¬ M 108 k.toInt.toNat = 0 → (16 ≤ (M 105 k.toInt.toNat).toInt ∧ (M 105 k.toInt.toNat).toInt < 28) ∧ (0 ≤ (M 107 k.toInt.toNat).toInt ∧ (M 107 k.toInt.toNat).toInt < 5) := by
      intro _ q z
      rw [← e8] at q
      by_cases hz : M 70 9 = 0 ∨ ¬ k = M 70 8 - 1
      · have := (meth_R hD (hnd q) (hkk q hz)).1 z
        exact ⟨this.1, this.2.1⟩
      · have hz1 : ¬ M 70 9 = 0 := fun u => hz (Or.inl u)
        have hz2 : k = M 70 8 - 1 := Decidable.byContradiction (fun u => hz (Or.inr u))
        exact absurd (hko q hz1 hz2) z
    have hn2 : ¬ M 88 21 = 0 → 0 ≤ (M 88 28).toInt ∧ (M 88 28).toInt ≤ 48 := fun _ => by rw [← e8]; exact hn
    refine sp_TW_node hn hD.1 (fun q => ⟨_, rfl, ?_⟩) (fun q1 q2 => ⟨_, rfl, ?_⟩) (fun q1 q2 => ⟨_, rfl, ?_⟩) (fun q1 q2 q3 => ⟨_, rfl, ?_⟩) (fun q1 q2 q3 q4 => ⟨_, rfl, ?_⟩)
    · have hno : ¬ (¬ M 88 21 = 0 ∧ (0 ≤ k.toInt ∧ k.toInt < (M 88 28).toInt) ∧ (0 ≤ w.toInt ∧ w.toInt ≤ 2)) := fun z => q (by rw [e8]; exact ⟨z.2.1, z.2.2⟩)
      exact sp_MD_node hn2 hkp (fun _ => ⟨rfl, h⟩) (fun z => absurd z hno) (fun z => absurd z hno) (fun z => absurd z hno) (fun z => absurd z hno)
    · have hw : w = 0 := Int32.toInt_inj.mp (by rw [q2, z0])
      have hyes : ¬ M 88 21 = 0 ∧ (0 ≤ k.toInt ∧ k.toInt < (M 88 28).toInt) ∧ (0 ≤ w.toInt ∧ w.toInt ≤ 2) := ⟨son, by rw [← e8]; exact q1, by omega⟩
      exact sp_MD_node hn2 hkp (fun z => absurd hyes z) (fun _ _ => ⟨by rw [(hnd q1).1.1], h⟩) (fun _ z => absurd (by rw [hw] at z; exact z) (by decide)) (fun _ z => absurd (by rw [hw] at z; exact z) (by decide)) (fun _ z => absurd (by rw [hw] at z; exact z) (by decide))
    · have hw : w = 1 := Int32.toInt_inj.mp (by rw [q2, z1])
      have hyes : ¬ M 88 21 = 0 ∧ (0 ≤ k.toInt ∧ k.toInt < (M 88 28).toInt) ∧ (0 ≤ w.toInt ∧ w.toInt ≤ 2) := ⟨son, by rw [← e8]; exact q1, by omega⟩
      exact sp_MD_node hn2 hkp (fun z => absurd hyes z) (fun _ z => absurd (by rw [hw] at z; exact z) (by decide)) (fun _ _ => ⟨by rw [(hnd q1).1.2.1], h⟩) (fun _ z => absurd (by rw [hw] at z; exact z) (by decide)) (fun _ z => absurd (by rw [hw] at z; exact z) (by decide))
    · have hw : w = 2 := Int32.toInt_inj.mp (by rw [q2, z2])
      have hyes : ¬ M 88 21 = 0 ∧ (0 ≤ k.toInt ∧ k.toInt < (M 88 28).toInt) ∧ (0 ≤ w.toInt ∧ w.toInt ≤ 2) := ⟨son, by rw [← e8]; exact q1, by omega⟩
      have hm := meth_R hD (hnd q1) (hkk q1 q3)
      exact sp_MD_node hn2 hkp (fun z => absurd hyes z) (fun _ z => absurd (by rw [hw] at z; exact z) (by decide)) (fun _ z => absurd (by rw [hw] at z; exact z) (by decide)) (fun _ _ z => ⟨by rw [(hm.1 z).2.2], h⟩) (fun _ _ z => ⟨by rw [hm.2 z], h⟩)
    · have hw : w = 2 := Int32.toInt_inj.mp (by rw [q2, z2])
      have hyes : ¬ M 88 21 = 0 ∧ (0 ≤ k.toInt ∧ k.toInt < (M 88 28).toInt) ∧ (0 ≤ w.toInt ∧ w.toInt ≤ 2) := ⟨son, by rw [← e8]; exact q1, by omega⟩
      have hz := hko q1 q3 q4
      exact sp_MD_node hn2 hkp (fun z => absurd hyes z) (fun _ z => absurd (by rw [hw] at z; exact z) (by decide)) (fun _ z => absurd (by rw [hw] at z; exact z) (by decide)) (fun _ _ z => absurd hz z) (fun _ _ _ => ⟨rfl, h⟩)
  · have hno : ¬ (¬ M 88 21 = 0 ∧ (0 ≤ k.toInt ∧ k.toInt < (M 88 28).toInt) ∧ (0 ≤ w.toInt ∧ w.toInt ≤ 2)) := by
      intro z
      rcases qr with q | ⟨_, q⟩
      · exact z.1 q
      · have := z.2.1
        rw [q, z0] at this
        omega
    have hn2 : ¬ M 88 21 = 0 → 0 ≤ (M 88 28).toInt ∧ (M 88 28).toInt ≤ 48 := by
      intro z
      rcases qr with q | ⟨_, q⟩
      · exact absurd q z
      · rw [q]; decide
    have hkp : ¬ M 88 21 = 0 → (0 ≤ k.toInt ∧ k.toInt < (M 88 28).toInt) → ¬ M 108 k.toInt.toNat = 0 → (16 ≤ (M 105 k.toInt.toNat).toInt ∧ (M 105 k.toInt.toNat).toInt < 28) ∧ (0 ≤ (M 107 k.toInt.toNat).toInt ∧ (M 107 k.toInt.toNat).toInt < 5) := by
      intro z q _
      rcases qr with u | ⟨_, u⟩
      · exact absurd u z
      · rw [u, z0] at q; omega
    refine sp_TW_node hn hD.1 (fun q => ⟨_, rfl, ?_⟩) (fun q1 _ => absurd q1 (by omega)) (fun q1 _ => absurd q1 (by omega)) (fun q1 _ _ => absurd q1 (by omega)) (fun q1 _ _ _ => absurd q1 (by omega))
    exact sp_MD_node hn2 hkp (fun _ => ⟨rfl, h⟩) (fun z => absurd z hno) (fun z => absurd z hno) (fun z => absurd z hno) (fun z => absurd z hno)
theorem addC_hi (M : tw_M) (t : Int32) {q : Nat} (h : 81 < q) : addC M t q = M q := by
  unfold addC
  rw [tw_set_q _ _ (by omega), tw_set_q _ _ (by omega), tw_set_q _ _ (by omega), tw_set_q _ _ (by omega), tw_set_q _ _ (by omega), tw_set_q _ _ (by omega), tw_set_q _ _ (by omega), tw_set_q _ _ (by omega)]
theorem failC_hi (M : tw_M) {q : Nat} (h : 81 < q) : ∀ n, failC M n q = M q := by
  intro n
  induction n with
  | zero =>
    show tw_set (tw_set (tw_set M 70 8 0) 70 9 0) 70 12 1 q = M q
    rw [tw_set_q _ _ (by omega), tw_set_q _ _ (by omega), tw_set_q _ _ (by omega)]
  | succ n ih =>
    simp only [failC]
    split
    · exact ih
    · unfold reopenC
      rw [tw_set_q _ _ (by omega), tw_set_q _ _ (by omega), tw_set_q _ _ (by omega), tw_set_q _ _ (by omega), tw_set_q _ _ (by omega), tw_set_q _ _ (by omega)]
theorem stepC_hi (M : tw_M) {q : Nat} (h : 81 < q) : stepC M q = M q := by
  have hs : ∀ X : tw_M, seeC X q = X q := by
    intro X
    unfold seeC
    split
    · exact tw_set_q _ _ (by omega)
    · rfl
  have hd : ∀ (X : tw_M) (t : Int32), doneC X t q = X q := by
    intro X t
    unfold doneC
    split
    · exact tw_set_q _ _ (by omega)
    · split
      · exact failC_hi X h _
      · exact tw_set_q _ _ (by omega)
  unfold stepC
  split
  · rw [hs]
    unfold takeC
    split
    · rw [failC_hi _ h]; exact tw_set_q _ _ (by omega)
    · rw [hd, addC_hi _ _ h]; exact tw_set_q _ _ (by omega)
  · rw [hs]
    unfold tryC
    split
    · rw [tw_set_q _ _ (by omega), putAll_out _ (by omega)]; exact tw_set_q _ _ (by omega)
    · split
      · rw [failC_hi _ h]; exact tw_set_q _ _ (by omega)
      · rw [tw_set_q _ _ (by omega)]; exact tw_set_q _ _ (by omega)
theorem seeC_hi (X : tw_M) {q : Nat} (h : 81 < q) : seeC X q = X q := by
  unfold seeC
  split
  · exact tw_set_q _ _ (by omega)
  · rfl
theorem itC_hi {q : Nat} (h : 81 < q) : ∀ (n : Nat) (M : tw_M), itC n M q = M q := by
  intro n
  induction n with
  | zero => intro M; rfl
  | succ n ih =>
    intro M
    simp only [itC]
    split
    · rw [ih, stepC_hi M h]
    · rfl
theorem itC_out {q : Nat} (h : q < 70) : ∀ (n : Nat) (M : tw_M), itC n M q = M q := by
  intro n
  induction n with
  | zero => intro M; rfl
  | succ n ih =>
    intro M
    simp only [itC]
    split
    · rw [ih, stepC_out M h]
    · rfl
theorem keepR_it : ∀ (n : Nat) (N : tw_M), keepR N (itR n N) := by
  intro n
  induction n with
  | zero => intro N; exact keepR_rf N
  | succ n ih =>
    intro N
    simp only [itR]
    split
    · exact (keepR_step N).tr (ih _)
    · exact keepR_rf N
def farR (N N' : tw_M) : Prop := ∀ q c : Nat, 102 ≤ q → q ≤ 104 → 250 ≤ c → N' q c = N q c
theorem farR_set {N N' : tw_M} (h : farR N N') {q k : Nat} {x : Int32} (hq : q < 102 ∨ 104 < q) : farR N (tw_set N' q k x) := fun a c h1 h2 h3 => by rw [tw_set_q _ _ (by omega)]; exact h a c h1 h2 h3
theorem farR_rf (N : tw_M) : farR N N := fun _ _ _ _ _ => rfl
theorem farR.tr {A B C : tw_M} (h1 : farR A B) (h2 : farR B C) : farR A C := fun q c a b e => (h2 q c a b e).trans (h1 q c a b e)
theorem farR_fail (N : tw_M) : ∀ n, farR N (failR N n) := by
  intro n
  induction n with
  | zero => exact farR_set (farR_set (farR_rf N) (by omega)) (by omega)
  | succ n ih =>
    simp only [failR]
    split
    · exact farR_set (farR_set (farR_set (farR_set (farR_set (farR_set (farR_set (farR_rf N) (by omega)) (by omega)) (by omega)) (by omega)) (by omega)) (by omega)) (by omega)
    · exact ih
theorem farR_add (N : tw_M) : farR N (addR N) := farR_set (farR_set (farR_set (farR_set (farR_set (farR_set (farR_set (farR_set (farR_set (farR_rf N) (by omega)) (by omega)) (by omega)) (by omega)) (by omega)) (by omega)) (by omega)) (by omega)) (by omega)
theorem farR_step {A N : tw_M} (hD : DR A N) (h : GoR A N) : farR N (stepR N) := by
  have h0 : farR N (tw_set N 88 24 (N 88 24 + 1)) := farR_set (farR_rf N) (by omega)
  have e9 : A 70 9 = N 88 23 := h.1.1
  unfold stepR
  by_cases h9 : N 88 23 = 0
  · rw [if_pos h9]
    refine h0.tr ?_
    generalize tw_set N 88 24 (N 88 24 + 1) = B
    unfold takeR
    split
    · exact (farR_set (farR_rf B) (by omega)).tr (farR_fail _ _)
    · refine (farR_add B).tr ?_
      generalize addR B = C
      unfold doneR
      split
      · split
        · exact farR_set (farR_rf C) (by omega)
        · exact farR_fail _ _
      · split
        · exact farR_set (farR_rf C) (by omega)
        · exact farR_fail _ _
  · rw [if_neg h9]
    have h91 : N 88 23 = 1 := by
      rcases open_R h with q | q
      · rw [e9] at q; exact absurd q h9
      · rw [← e9]; exact q
    obtain ⟨v, hv1, hv2, hv3, hv4, hv5, hv6⟩ := ref_try hD h h91
    have z1 := tw_ti_1
    have e28 : (N 88 28 - 1).toInt = (v : Int) := by rw [tw_subI (by omega), z1]; omega
    have ev : (N 88 28 - 1).toInt.toNat = v := by omega
    have h99 := (RI_of hD).2.2.2.2.2 (ownR N v).toInt.toNat (by omega)
    refine h0.tr ?_
    have e27 : (tw_set N 88 24 (N 88 24 + 1) 88 27) = N 88 27 := rfl
    have eown : ownR (tw_set N 88 24 (N 88 24 + 1)) v = ownR N v := rfl
    have e99 : tw_set N 88 24 (N 88 24 + 1) 99 = N 99 := rfl
    unfold tryR
    rw [ev, eown, e99]
    generalize tw_set N 88 24 (N 88 24 + 1) = B at *
    split
    · refine (farR_set (farR_set (farR_rf B) (k := v) (x := 1) (q := 108) (by omega)) (q := 88) (k := 23) (x := 0) (by omega)).tr ?_
      intro q c h1 h2 h3
      refine putRs_lo _ _ ?_ ?_ q c h1 h3
      · show 0 ≤ (B 88 27).toInt; rw [e27]; omega
      · rw [dl_len]; show (B 88 27).toInt + _ ≤ 250; rw [e27]; omega
    · split
      · exact (farR_set (farR_rf B) (by omega)).tr (farR_fail _ _)
      · exact farR_set (farR_rf B) (by omega)
theorem farR_it : ∀ (n : Nat) (A N : tw_M), DR A N → StR A N → farR N (itR n N) := by
  intro n
  induction n with
  | zero => intro A N _ _; exact farR_rf N
  | succ n ih =>
    intro A N hD hS
    have ho := on_R hS
    simp only [itR]
    by_cases hc : A 70 12 = 2
    · rw [if_pos (ho.mp hc)]
      rcases hS with ⟨a, g, f⟩ | ⟨a, g, f1, f2⟩ | g
      · exact (farR_step hD g).tr (ih _ _ (DR_step hD) (step_R hD g a f))
      · rw [a] at hc; exact absurd hc (by decide)
      · rw [g.1] at hc; exact absurd hc (by decide)
    · rw [if_neg (fun q => hc (ho.mpr q))]; exact farR_rf N
