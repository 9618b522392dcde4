def hdR (x y : Int32) (b : Int) : Prop := (x = -1 ∧ y = -1) ∨ (0 ≤ x.toInt ∧ x.toInt < b ∧ y.toInt = x.toInt + 250)
def lnO (M : tw_M) (x : Int32) : Int32 := if x = -1 then 0 else M 87 x.toInt.toNat
def CcR (M N : tw_M) (c : Nat) : Prop := M 84 c = N 102 (250 + c) ∧ hdR (M 86 c) (N 104 (250 + c)) (c : Int) ∧ tOK M (M 84 c) ∧ (1 ≤ (M 87 c).toInt ∧ (M 87 c).toInt ≤ (c : Int) + 1) ∧ (M 87 c).toInt = (lnO M (M 86 c)).toInt + 1
def KRow (M N : tw_M) (b : Nat) : Prop := (M 83 5).toInt = (b : Int) ∧ (N 88 39).toInt = 250 + (b : Int) ∧ hdR (M 83 4) (N 88 38) (b : Int) ∧ ∀ c, c < b → CcR M N c
theorem KRow_len {M N : tw_M} {b : Nat} (h : KRow M N b) : (M 83 4 = -1 ∧ lenV 83 M = 0) ∨ (¬ M 83 4 = -1 ∧ (0 ≤ (M 83 4).toInt ∧ (M 83 4).toInt < (b : Int)) ∧ lenV 83 M = M 87 (M 83 4).toInt.toNat ∧ 1 ≤ (lenV 83 M).toInt ∧ (lenV 83 M).toInt ≤ (b : Int)) := by
  obtain ⟨h1, h2, h3, h4⟩ := h
  have zm : (-1 : Int32).toInt = -1 := by decide
  rcases h3 with ⟨q, _⟩ | ⟨q1, q2, q3⟩
  · exact Or.inl ⟨q, by unfold lenV; exact if_pos q⟩
  · have hne : ¬ M 83 4 = -1 := fun z => by rw [z] at q1; omega
    have e : lenV 83 M = M 87 (M 83 4).toInt.toNat := by unfold lenV; exact if_neg hne
    obtain ⟨-, -, -, c4, -⟩ := h4 (M 83 4).toInt.toNat (by omega)
    refine Or.inr ⟨hne, ⟨q1, q2⟩, e, ?_, ?_⟩
    · rw [e]; omega
    · rw [e]; omega
theorem KRow_RowI {M N : tw_M} {b : Nat} (h : KRow M N b) (hb : b ≤ 246) : RowI 83 M := by
  obtain ⟨h1, h2, h3, h4⟩ := h
  have zm : (-1 : Int32).toInt = -1 := by decide
  rcases h3 with ⟨q, _⟩ | ⟨q1, q2, q3⟩
  · exact ⟨by rw [q, zm]; omega, by rw [q, zm]; omega, by omega⟩
  · exact ⟨by omega, by omega, by omega⟩
theorem kput_R {M N : tw_M} {t p p' : Int32} {b : Nat} (h : KRow M N b) (ht : tOK M t) (hb : b < 246) : KRow (putC 83 M t p) (putR 38 N t p') (b + 1) ∧ (lenV 83 (putC 83 M t p)).toInt = (lenV 83 M).toInt + 1 := by
  have hl := KRow_len h
  obtain ⟨h1, h2, h3, h4⟩ := h
  have z1 : (1 : Int32).toInt = 1 := by decide
  have z0 : (0 : Int32).toInt = 0 := by decide
  have zm : (-1 : Int32).toInt = -1 := by decide
  have hlen : 0 ≤ (lenV 83 M).toInt ∧ (lenV 83 M).toInt ≤ (b : Int) := by
    rcases hl with ⟨_, q⟩ | ⟨_, _, _, q⟩
    · rw [q, z0]; omega
    · omega
  have el : (lenV 83 M + 1).toInt = (lenV 83 M).toInt + 1 := by rw [tw_addI (by omega), z1]
  have ib : (M 83 5).toInt.toNat = b := by omega
  have ir : (N 88 39).toInt.toNat = 250 + b := by omega
  have a1 : ∀ c, putC 83 M t p 84 c = if c = b then t else M 84 c := by intro c; by_cases e : c = b <;> simp [putC, tw_set, ib, e, -Int32.toNat_toInt]
  have a3 : ∀ c, putC 83 M t p 86 c = if c = b then M 83 4 else M 86 c := by intro c; by_cases e : c = b <;> simp [putC, tw_set, ib, e, -Int32.toNat_toInt]
  have a4 : ∀ c, putC 83 M t p 87 c = if c = b then lenV 83 M + 1 else M 87 c := by intro c; by_cases e : c = b <;> simp [putC, tw_set, ib, e, -Int32.toNat_toInt]
  have b1 : ∀ c, putR 38 N t p' 102 (250 + c) = if c = b then t else N 102 (250 + c) := by intro c; by_cases e : c = b <;> simp [putR, tw_set, ir, e, -Int32.toNat_toInt]
  have b3 : ∀ c, putR 38 N t p' 104 (250 + c) = if c = b then N 88 38 else N 104 (250 + c) := by intro c; by_cases e : c = b <;> simp [putR, tw_set, ir, e, -Int32.toNat_toInt]
  have hlo : ∀ x y : Int32, ∀ k : Nat, k ≤ b → hdR x y (k : Int) → lnO (putC 83 M t p) x = lnO M x := by
    intro x y k hk hx
    unfold lnO
    rcases hx with ⟨q, _⟩ | ⟨q1, q2, _⟩
    · rw [if_pos q, if_pos q]
    · have hne : ¬ x = -1 := fun z => by rw [z] at q1; omega
      rw [if_neg hne, if_neg hne, a4, if_neg (by omega)]
  have e5 : (M 83 5 + 1).toInt = (b : Int) + 1 := by rw [tw_addI (by omega), z1, h1]
  have e39 : (N 88 39 + 1).toInt = 250 + (b : Int) + 1 := by rw [tw_addI (by omega), z1, h2]
  refine ⟨⟨?_, ?_, ?_, ?_⟩, ?_⟩
  · show (M 83 5 + 1).toInt = _
    rw [e5]; rfl
  · show (N 88 39 + 1).toInt = _
    rw [e39]; omega
  · refine Or.inr ⟨?_, ?_, ?_⟩
    · show 0 ≤ (M 83 5).toInt; omega
    · show (M 83 5).toInt < _; omega
    · show (N 88 39).toInt = (M 83 5).toInt + 250; omega
  · intro c hc
    unfold CcR
    rw [a1, a3, a4, b1, b3]
    by_cases e : c = b
    · rw [if_pos e, if_pos e, if_pos e, if_pos e, if_pos e]
      refine ⟨rfl, by rw [e]; exact h3, ht, by rw [el]; omega, ?_⟩
      rw [el, hlo _ _ b (Nat.le_refl _) h3]
      rfl
    · rw [if_neg e, if_neg e, if_neg e, if_neg e, if_neg e]
      obtain ⟨f1, f2, f3, f4, f5⟩ := h4 c (by omega)
      exact ⟨f1, f2, f3, f4, by rw [hlo _ _ c (by omega) f2]; exact f5⟩
  · have hne : ¬ putC 83 M t p 83 4 = -1 := by
      show ¬ M 83 5 = -1
      intro z
      rw [z] at h1
      omega
    have e : lenV 83 (putC 83 M t p) = putC 83 M t p 87 (putC 83 M t p 83 4).toInt.toNat := by unfold lenV; exact if_neg hne
    rw [e, a4, if_pos (show (putC 83 M t p 83 4).toInt.toNat = b from ib), el]
theorem kputs_R {p p' : Int32} : ∀ (l : List Int32) (M N : tw_M) (b : Nat), KRow M N b → (∀ t ∈ l, tOK M t) → b + l.length ≤ 246 → KRow (putAll 83 p M l) (putRs 38 p' N l) (b + l.length) ∧ (lenV 83 (putAll 83 p M l)).toInt = (lenV 83 M).toInt + l.length := by
  intro l
  induction l with
  | nil => intro M N b h _ _; exact ⟨h, by simp [putAll]⟩
  | cons t ts ih =>
    intro M N b h ht hc
    simp only [List.length_cons] at hc
    obtain ⟨p1, p2⟩ := kput_R (p := p) (p' := p') h (ht t List.mem_cons_self) (by omega)
    obtain ⟨q1, q2⟩ := ih _ _ _ p1 (fun x hx => ht x (List.mem_cons_of_mem _ hx)) (by omega)
    refine ⟨?_, ?_⟩
    · show KRow (putAll 83 p (putC 83 M t p) ts) (putRs 38 p' (putR 38 N t p') ts) _
      rw [show b + (t :: ts).length = b + 1 + ts.length by simp only [List.length_cons]; omega]
      exact q1
    · show (lenV 83 (putAll 83 p (putC 83 M t p) ts)).toInt = _
      rw [q2, p2]
      simp only [List.length_cons]
      omega
theorem putR_far {h : Nat} {N : tw_M} {t p : Int32} {q c : Nat} (hq : 102 ≤ q) (hc : ¬ c = (N 88 (h + 1)).toInt.toNat) : putR h N t p q c = N q c := by
  unfold putR
  rw [tw_set_q _ _ (by omega), tw_set_q _ _ (by omega)]
  unfold tw_set
  rw [if_neg (by omega), if_neg (by omega), if_neg (by omega)]
theorem putRs_hi {p : Int32} : ∀ (l : List Int32) (N : tw_M), 250 ≤ (N 88 39).toInt → (N 88 39).toInt + l.length ≤ 500 → ∀ q c : Nat, 102 ≤ q → c < 250 → putRs 38 p N l q c = N q c := by
  intro l
  induction l with
  | nil => intro N _ _ q c _ _; rfl
  | cons t ts ih =>
    intro N h1 h2 q c hq hc
    simp only [List.length_cons] at h2
    have z1 : (1 : Int32).toInt = 1 := by decide
    have e : (putR 38 N t p 88 39).toInt = (N 88 39).toInt + 1 := by
      show (N 88 39 + 1).toInt = _
      rw [tw_addI (by omega), z1]
    show putRs 38 p (putR 38 N t p) ts q c = N q c
    rw [ih _ (by omega) (by omega) q c hq hc]
    exact putR_far hq (by show ¬ c = (N 88 39).toInt.toNat; omega)
theorem putRs_lo {p : Int32} : ∀ (l : List Int32) (N : tw_M), 0 ≤ (N 88 27).toInt → (N 88 27).toInt + l.length ≤ 250 → ∀ q c : Nat, 102 ≤ q → 250 ≤ c → putRs 26 p N l q c = N q c := by
  intro l
  induction l with
  | nil => intro N _ _ q c _ _; rfl
  | cons t ts ih =>
    intro N h1 h2 q c hq hc
    simp only [List.length_cons] at h2
    have z1 : (1 : Int32).toInt = 1 := by decide
    have e : (putR 26 N t p 88 27).toInt = (N 88 27).toInt + 1 := by
      show (N 88 27 + 1).toInt = _
      rw [tw_addI (by omega), z1]
    show putRs 26 p (putR 26 N t p) ts q c = N q c
    rw [ih _ (by omega) (by omega) q c hq hc]
    exact putR_far hq (by show ¬ c = (N 88 27).toInt.toNat; omega)
def CkR (M N : tw_M) : Prop := M 82 4 = 1 ∧ N 88 36 = 1 ∧ M 82 2 = N 88 37 ∧ M 82 3 = N 88 40 ∧ ∃ k b : Nat, (M 82 3).toInt = (k : Int) ∧ k ≤ 48 ∧ b ≤ 6 + 5 * k ∧ KRow M N b
def faC (M : tw_M) (t m : Int32) : Int32 := if lenV 83 M = 0 then 1 else if tskV 83 M = t then (if 48 ≤ (M 82 3).toInt then 3 else if 0 ≤ t.toInt ∧ t.toInt < (M 1 5).toInt then (if pDo M t (M 82 2) then 0 else 4) else if (0 ≤ m.toInt ∧ m.toInt < (M 1 14).toInt) ∧ M 21 m.toInt.toNat = t then (if pMH M m (M 82 2) then 0 else 6) else 5) else 2
def tkC (M : tw_M) (t m : Int32) : tw_M := if 0 ≤ t.toInt ∧ t.toInt < (M 1 5).toInt then tw_set (tw_set (tw_set M 83 4 (M 86 (M 83 4).toInt.toNat)) 82 2 (fAfter M t (M 82 2))) 82 3 (M 82 3 + 1) else tw_set (putAll 83 (-1) (tw_set M 83 4 (M 86 (M 83 4).toInt.toNat)) (dl (M (25 + m.toInt.toNat)) (nPart M m).toInt.toNat)) 82 3 (M 82 3 + 1)
def foR (N : tw_M) (t m : Int32) : Int32 := if N 88 38 = -1 then 1 else if N 102 (N 88 38).toInt.toNat = t then (if N 88 40 = 48 then 3 else if t.toInt < 16 then (if pH (N 89 t.toInt.toNat) (N 90 t.toInt.toNat) (N 88 37) then 0 else 4) else if (0 ≤ m.toInt ∧ m.toInt < (N 88 9).toInt) ∧ N 96 m.toInt.toNat = t then (if pH (N 97 m.toInt.toNat) (N 98 m.toInt.toNat) (N 88 37) then 0 else 6) else 5) else 2
def tkR (N : tw_M) (t m : Int32) : tw_M := if t.toInt < 16 then tw_set (tw_set (tw_set N 88 37 ((N 88 37 &&& (N 92 t.toInt.toNat ^^^ (-1))) ||| N 91 t.toInt.toNat)) 88 38 (N 104 (N 88 38).toInt.toNat)) 88 40 (N 88 40 + 1) else tw_set (putRs 38 (N 88 40) (tw_set N 88 38 (N 104 (N 88 38).toInt.toNat)) (dl (fun k => N 100 (5 * m.toInt.toNat + k)) (N 99 m.toInt.toNat).toInt.toNat)) 88 40 (N 88 40 + 1)
