def z_LW (cs : Nat → ClassId) (ad : Nat → Nat) (S : Nat → va_E) : Nat → va_E := (z_MD cs ad (tb_up (z_TW cs ad (tb_up S 0 (.inr (5, f0_TW)))) 88 (.inr (6, f0_MD))))
abbrev lw_lv0 : List (Option tw_V) := [some (.inr 116), none, none, none]
abbrev lw_lv1 : List (Option tw_V) := [some (.inr 116), some (.inr 0), some (.inr 88), some (.inl 0)]
set_option maxRecDepth 8000 in
theorem lw_build {G : va_G} {cs : Nat → ClassId} {ad : Nat → Nat} {B : Nat} {S : Nat → va_E} (had : ∀ q, q < 116 → ad q = B + q) : tb_T G cs ad B 116 5316 43 j_LW_law 0 0 0 S 0 lw_lv0 [] (fun c s n S2 pc lv st => c = 116 ∧ s = 5316 ∧ n = 116 ∧ S2 = z_LW cs ad S ∧ pc = 18 ∧ lv = lw_lv1 ∧ st = []) := by
  refine tb_new (ci := 5) (C := R_TW) (T := F_TW) (N := 4) (fs := f0_TW) t_TW rfl rfl u_TW t_TW_ok (tw_in_1 8 rfl rfl) (tw_in_1 9 rfl rfl) (tw_in_1 1 rfl rfl) z0_TW (Nat.le_of_ble_eq_true rfl) (Nat.le_of_ble_eq_true rfl) (Nat.le_of_ble_eq_true rfl) ?_
  refine tb_dup rfl ?_
  refine tb_init (q := 0) (st := [.inr 0]) [] rfl lc_TW (tw_in_1 10 rfl rfl) rfl rfl (Nat.le_of_ble_eq_true rfl) (Nat.le_of_ble_eq_true rfl) (Nat.le_of_ble_eq_true rfl) (ct_TW had rfl) ?_
  refine tb_astore_n (k := 1) rfl (Nat.le_of_ble_eq_true rfl) ?_
  refine tb_new (ci := 6) (C := R_MD) (T := F_MD) (N := 47) (fs := f0_MD) t_MD rfl rfl u_MD t_MD_ok (tw_in_3 98 rfl rfl) (tw_in_3 99 rfl rfl) (tw_in_1 7 rfl rfl) z0_MD (Nat.le_of_ble_eq_true rfl) (Nat.le_of_ble_eq_true rfl) (Nat.le_of_ble_eq_true rfl) ?_
  refine tb_dup rfl ?_
  refine tb_init (q := 88) (st := [.inr 88]) [] rfl lc_MD (tw_in_3 100 rfl rfl) rfl rfl (Nat.le_of_ble_eq_true rfl) (Nat.le_of_ble_eq_true rfl) (Nat.le_of_ble_eq_true rfl) (ct_MD had rfl) ?_
  refine tb_astore_n (k := 2) rfl (Nat.le_of_ble_eq_true rfl) ?_
  refine tb_iconst (v := 0) rfl (by decide) ?_
  refine tb_istore_n (k := 3) rfl (Nat.le_of_ble_eq_true rfl) ?_
  exact tb_stop ⟨rfl, rfl, rfl, rfl, rfl, rfl, rfl⟩
def M0 : tw_M := fun q => if q = 71 then (fun k => if k = 4 then -1 else 0) else if q = 83 then (fun k => if k = 4 then -1 else 0) else if q = 70 then (fun k => if k = 12 then -1 else 0) else fun _ => 0
theorem M0_lo {q : Nat} (k : Nat) (h : q < 70) : M0 q k = 0 := by
  unfold M0
  rw [if_neg (by omega), if_neg (by omega), if_neg (by omega)]
theorem M0_hi {q : Nat} (k : Nat) (h : 88 ≤ q) : M0 q k = 0 := by
  unfold M0
  rw [if_neg (by omega), if_neg (by omega), if_neg (by omega)]
theorem IV_M0 : IV M0 := by
  have z : (0 : Int32).toInt = 0 := by decide
  have e5 : (M0 1 5).toInt = 0 := z
  have e8 : (M0 1 8).toInt = 0 := z
  have e14 : (M0 1 14).toInt = 0 := z
  have e16 : (M0 1 16).toInt = 0 := z
  refine ⟨⟨?_, ⟨rfl, rfl, rfl, rfl, rfl⟩, ⟨rfl, rfl, rfl, rfl, rfl, rfl, rfl, rfl, rfl, rfl, rfl⟩, ?_, ?_, fun k _ => rfl, fun k _ => rfl, ?_, ?_, ?_⟩, Or.inl ⟨rfl, rfl, rfl, rfl, rfl⟩, Or.inl ⟨rfl, rfl⟩⟩
  · refine ⟨by rw [e5]; decide, by rw [e8]; decide, by rw [e14]; decide, by rw [e16]; decide, fun k _ => ?_, fun k _ => ?_⟩
    · rw [show M0 20 k = 0 from rfl, z]; decide
    · rw [show M0 65 k = 0 from rfl, z]; decide
  · intro c j h1 h2
    rw [M0_lo _ (by omega)]
    rfl
  · intro c j h1 h2
    rw [M0_lo _ (by omega)]
    rfl
  · intro c j h1 h2
    rw [e8] at h1
    omega
  · intro c j h1 h2
    rw [e14] at h1
    omega
  · intro c h1
    rw [e16] at h1
    omega

theorem tb_up_eq {S : Nat → va_E} {k : Nat} {E : va_E} : tb_up S k E k = E := if_pos rfl
theorem tb_up_ne {S : Nat → va_E} {k q : Nat} {E : va_E} (h : q ≠ k) : tb_up S k E q = S q := if_neg h
theorem tb_mat_o {cs : Nat → ClassId} {ad : Nat → Nat} {S : Nat → va_E} {n N K : Nat} : tb_mat cs ad S n N K n = .inl (cs 2, N, .inr (.inr (.inr (.inr fun i => some (ad (n + 1 + i)))))) := if_pos rfl
theorem tb_mat_i {cs : Nat → ClassId} {ad : Nat → Nat} {S : Nat → va_E} {n N K q : Nat} (h1 : n < q) (h2 : q < n + 1 + N) : tb_mat cs ad S n N K q = .inl (cs 0, K, .inl (fun _ => 0)) := (if_neg (by omega)).trans (if_pos ⟨h1, h2⟩)
theorem tb_mat_x {cs : Nat → ClassId} {ad : Nat → Nat} {S : Nat → va_E} {n N K q : Nat} (h : q < n ∨ n + 1 + N ≤ q) : tb_mat cs ad S n N K q = S q := (if_neg (by omega)).trans (if_neg (by omega))
theorem tb_mapIdx {L : List (Option Nat)} {fs : List Value} {ad : Nat → Nat} {f : Nat → Int32} (N : Nat) (h : fs.length = N) (h2 : L.length = N) (hk : ∀ k, k < N → fs[k]? = L[k]?.map (fun e => tw_fv ad f k e)) : fs = L.mapIdx (fun k e => tw_fv ad f k e) := by
  apply List.ext_getElem?
  intro i
  rw [List.getElem?_mapIdx]
  by_cases hi : i < N
  · exact hk i hi
  · rw [List.getElem?_eq_none (by omega), List.getElem?_eq_none (by omega)]
    rfl
abbrev md_L : List (Option Nat) := (none :: some 89 :: some 90 :: some 91 :: some 92 :: some 93 :: none :: some 94 :: some 95 :: none :: some 96 :: some 97 :: some 98 :: some 99 :: some 100 :: none :: none :: some 101 :: some 102 :: some 103 :: some 104 :: none :: none :: none :: none :: none :: none :: none :: none :: some 105 :: some 106 :: some 107 :: some 108 :: some 109 :: some 110 :: some 111 :: none :: none :: none :: none :: none :: none :: some 112 :: some 113 :: some 114 :: some 115 :: none :: [])
theorem md_lay : tw_lay 88 = .inl (6, md_L) := by decide +kernel
set_option maxRecDepth 4000 in
theorem md_cell {cs : Nat → ClassId} {ad : Nat → Nat} : (.inr (6, (Value.int 0 :: Value.ref (ad 89) :: Value.ref (ad 90) :: Value.ref (ad 91) :: Value.ref (ad 92) :: Value.ref (ad 93) :: Value.int 0 :: Value.ref (ad 94) :: Value.ref (ad 95) :: Value.int 0 :: Value.ref (ad 96) :: Value.ref (ad 97) :: Value.ref (ad 98) :: Value.ref (ad 99) :: Value.ref (ad 100) :: Value.int 0 :: Value.int 0 :: Value.ref (ad 101) :: Value.ref (ad 102) :: Value.ref (ad 103) :: Value.ref (ad 104) :: Value.int 0 :: Value.int 0 :: Value.int 0 :: Value.int 0 :: Value.int 0 :: Value.int 0 :: Value.int 0 :: Value.int 0 :: Value.ref (ad 105) :: Value.ref (ad 106) :: Value.ref (ad 107) :: Value.ref (ad 108) :: Value.ref (ad 109) :: Value.ref (ad 110) :: Value.ref (ad 111) :: Value.int 0 :: Value.int 0 :: Value.int 0 :: Value.int 0 :: Value.int 0 :: Value.int 0 :: Value.ref (ad 112) :: Value.ref (ad 113) :: Value.ref (ad 114) :: Value.null :: Value.int 0 :: []).set 45 (.ref (ad 115))) : va_E) = tw_sh cs ad (tw_lay 88) (M0 88) := by
  rw [md_lay]
  exact congrArg (fun z => (Sum.inr (6, z) : va_E)) (tb_mapIdx (L := md_L) 47 rfl rfl (tb_all (n := 47) ⟨⟨⟨⟨⟨⟨⟨⟨⟨⟨⟨⟨⟨⟨⟨⟨⟨⟨⟨⟨⟨⟨⟨⟨⟨⟨⟨⟨⟨⟨⟨⟨⟨⟨⟨⟨⟨⟨⟨⟨⟨⟨⟨⟨⟨⟨⟨trivial, rfl⟩, rfl⟩, rfl⟩, rfl⟩, rfl⟩, rfl⟩, rfl⟩, rfl⟩, rfl⟩, rfl⟩, rfl⟩, rfl⟩, rfl⟩, rfl⟩, rfl⟩, rfl⟩, rfl⟩, rfl⟩, rfl⟩, rfl⟩, rfl⟩, rfl⟩, rfl⟩, rfl⟩, rfl⟩, rfl⟩, rfl⟩, rfl⟩, rfl⟩, rfl⟩, rfl⟩, rfl⟩, rfl⟩, rfl⟩, rfl⟩, rfl⟩, rfl⟩, rfl⟩, rfl⟩, rfl⟩, rfl⟩, rfl⟩, rfl⟩, rfl⟩, rfl⟩, rfl⟩, rfl⟩))
set_option maxRecDepth 4000 in
theorem zo_DM {cs : Nat → ClassId} {ad : Nat → Nat} {S : Nat → va_E} {q : Nat} (h : q ≠ 1) (h2 : q < 2 ∨ 67 ≤ q) : z_DM cs ad S q = S q := by
  unfold z_DM
  exact (tb_up_ne h).trans ((tb_up_ne (by omega)).trans ((tb_up_ne h).trans ((tb_up_ne (by omega)).trans ((tb_up_ne h).trans ((tb_mat_x (by omega)).trans ((tb_up_ne h).trans ((tb_up_ne (by omega)).trans ((tb_up_ne h).trans ((tb_up_ne (by omega)).trans ((tb_up_ne h).trans ((tb_up_ne (by omega)).trans ((tb_up_ne h).trans ((tb_up_ne (by omega)).trans ((tb_up_ne h).trans ((tb_mat_x (by omega)).trans ((tb_up_ne h).trans ((tb_up_ne (by omega)).trans ((tb_up_ne h).trans ((tb_up_ne (by omega)).trans ((tb_up_ne h).trans ((tb_up_ne (by omega)).trans ((tb_up_ne h).trans ((tb_up_ne (by omega)).trans ((tb_up_ne h).trans (tb_up_ne (by omega))))))))))))))))))))))))))
set_option maxRecDepth 4000 in
theorem zc_DM_1 {cs : Nat → ClassId} {ad : Nat → Nat} {S : Nat → va_E} : z_DM cs ad S 1 = tw_sh cs ad (tw_lay 1) (M0 1) := by
  unfold z_DM
  exact tb_up_eq.trans rfl
set_option maxRecDepth 4000 in
theorem zc_DM_2 {cs : Nat → ClassId} {ad : Nat → Nat} {S : Nat → va_E} : z_DM cs ad S 2 = tw_sh cs ad (tw_lay 2) (M0 2) := by
  unfold z_DM
  exact (tb_up_ne (Nat.ne_of_beq_eq_false rfl)).trans ((tb_up_ne (Nat.ne_of_beq_eq_false rfl)).trans ((tb_up_ne (Nat.ne_of_beq_eq_false rfl)).trans ((tb_up_ne (Nat.ne_of_beq_eq_false rfl)).trans ((tb_up_ne (Nat.ne_of_beq_eq_false rfl)).trans ((tb_mat_x (Or.inl (Nat.le_of_ble_eq_true rfl))).trans ((tb_up_ne (Nat.ne_of_beq_eq_false rfl)).trans ((tb_up_ne (Nat.ne_of_beq_eq_false rfl)).trans ((tb_up_ne (Nat.ne_of_beq_eq_false rfl)).trans ((tb_up_ne (Nat.ne_of_beq_eq_false rfl)).trans ((tb_up_ne (Nat.ne_of_beq_eq_false rfl)).trans ((tb_up_ne (Nat.ne_of_beq_eq_false rfl)).trans ((tb_up_ne (Nat.ne_of_beq_eq_false rfl)).trans ((tb_up_ne (Nat.ne_of_beq_eq_false rfl)).trans ((tb_up_ne (Nat.ne_of_beq_eq_false rfl)).trans ((tb_mat_x (Or.inl (Nat.le_of_ble_eq_true rfl))).trans ((tb_up_ne (Nat.ne_of_beq_eq_false rfl)).trans ((tb_up_ne (Nat.ne_of_beq_eq_false rfl)).trans ((tb_up_ne (Nat.ne_of_beq_eq_false rfl)).trans ((tb_up_ne (Nat.ne_of_beq_eq_false rfl)).trans ((tb_up_ne (Nat.ne_of_beq_eq_false rfl)).trans ((tb_up_ne (Nat.ne_of_beq_eq_false rfl)).trans ((tb_up_ne (Nat.ne_of_beq_eq_false rfl)).trans ((tb_up_ne (Nat.ne_of_beq_eq_false rfl)).trans ((tb_up_ne (Nat.ne_of_beq_eq_false rfl)).trans (tb_up_eq.trans rfl)))))))))))))))))))))))))
set_option maxRecDepth 4000 in
theorem zc_DM_3 {cs : Nat → ClassId} {ad : Nat → Nat} {S : Nat → va_E} : z_DM cs ad S 3 = tw_sh cs ad (tw_lay 3) (M0 3) := by
  unfold z_DM
  exact (tb_up_ne (Nat.ne_of_beq_eq_false rfl)).trans ((tb_up_ne (Nat.ne_of_beq_eq_false rfl)).trans ((tb_up_ne (Nat.ne_of_beq_eq_false rfl)).trans ((tb_up_ne (Nat.ne_of_beq_eq_false rfl)).trans ((tb_up_ne (Nat.ne_of_beq_eq_false rfl)).trans ((tb_mat_x (Or.inl (Nat.le_of_ble_eq_true rfl))).trans ((tb_up_ne (Nat.ne_of_beq_eq_false rfl)).trans ((tb_up_ne (Nat.ne_of_beq_eq_false rfl)).trans ((tb_up_ne (Nat.ne_of_beq_eq_false rfl)).trans ((tb_up_ne (Nat.ne_of_beq_eq_false rfl)).trans ((tb_up_ne (Nat.ne_of_beq_eq_false rfl)).trans ((tb_up_ne (Nat.ne_of_beq_eq_false rfl)).trans ((tb_up_ne (Nat.ne_of_beq_eq_false rfl)).trans ((tb_up_ne (Nat.ne_of_beq_eq_false rfl)).trans ((tb_up_ne (Nat.ne_of_beq_eq_false rfl)).trans ((tb_mat_x (Or.inl (Nat.le_of_ble_eq_true rfl))).trans ((tb_up_ne (Nat.ne_of_beq_eq_false rfl)).trans ((tb_up_ne (Nat.ne_of_beq_eq_false rfl)).trans ((tb_up_ne (Nat.ne_of_beq_eq_false rfl)).trans ((tb_up_ne (Nat.ne_of_beq_eq_false rfl)).trans ((tb_up_ne (Nat.ne_of_beq_eq_false rfl)).trans ((tb_up_ne (Nat.ne_of_beq_eq_false rfl)).trans ((tb_up_ne (Nat.ne_of_beq_eq_false rfl)).trans (tb_up_eq.trans rfl)))))))))))))))))))))))
set_option maxRecDepth 4000 in
theorem zc_DM_4 {cs : Nat → ClassId} {ad : Nat → Nat} {S : Nat → va_E} : z_DM cs ad S 4 = tw_sh cs ad (tw_lay 4) (M0 4) := by
  unfold z_DM
  exact (tb_up_ne (Nat.ne_of_beq_eq_false rfl)).trans ((tb_up_ne (Nat.ne_of_beq_eq_false rfl)).trans ((tb_up_ne (Nat.ne_of_beq_eq_false rfl)).trans ((tb_up_ne (Nat.ne_of_beq_eq_false rfl)).trans ((tb_up_ne (Nat.ne_of_beq_eq_false rfl)).trans ((tb_mat_x (Or.inl (Nat.le_of_ble_eq_true rfl))).trans ((tb_up_ne (Nat.ne_of_beq_eq_false rfl)).trans ((tb_up_ne (Nat.ne_of_beq_eq_false rfl)).trans ((tb_up_ne (Nat.ne_of_beq_eq_false rfl)).trans ((tb_up_ne (Nat.ne_of_beq_eq_false rfl)).trans ((tb_up_ne (Nat.ne_of_beq_eq_false rfl)).trans ((tb_up_ne (Nat.ne_of_beq_eq_false rfl)).trans ((tb_up_ne (Nat.ne_of_beq_eq_false rfl)).trans ((tb_up_ne (Nat.ne_of_beq_eq_false rfl)).trans ((tb_up_ne (Nat.ne_of_beq_eq_false rfl)).trans ((tb_mat_x (Or.inl (Nat.le_of_ble_eq_true rfl))).trans ((tb_up_ne (Nat.ne_of_beq_eq_false rfl)).trans ((tb_up_ne (Nat.ne_of_beq_eq_false rfl)).trans ((tb_up_ne (Nat.ne_of_beq_eq_false rfl)).trans ((tb_up_ne (Nat.ne_of_beq_eq_false rfl)).trans ((tb_up_ne (Nat.ne_of_beq_eq_false rfl)).trans (tb_up_eq.trans rfl)))))))))))))))))))))
set_option maxRecDepth 4000 in
theorem zc_DM_5 {cs : Nat → ClassId} {ad : Nat → Nat} {S : Nat → va_E} : z_DM cs ad S 5 = tw_sh cs ad (tw_lay 5) (M0 5) := by
  unfold z_DM
  exact (tb_up_ne (Nat.ne_of_beq_eq_false rfl)).trans ((tb_up_ne (Nat.ne_of_beq_eq_false rfl)).trans ((tb_up_ne (Nat.ne_of_beq_eq_false rfl)).trans ((tb_up_ne (Nat.ne_of_beq_eq_false rfl)).trans ((tb_up_ne (Nat.ne_of_beq_eq_false rfl)).trans ((tb_mat_x (Or.inl (Nat.le_of_ble_eq_true rfl))).trans ((tb_up_ne (Nat.ne_of_beq_eq_false rfl)).trans ((tb_up_ne (Nat.ne_of_beq_eq_false rfl)).trans ((tb_up_ne (Nat.ne_of_beq_eq_false rfl)).trans ((tb_up_ne (Nat.ne_of_beq_eq_false rfl)).trans ((tb_up_ne (Nat.ne_of_beq_eq_false rfl)).trans ((tb_up_ne (Nat.ne_of_beq_eq_false rfl)).trans ((tb_up_ne (Nat.ne_of_beq_eq_false rfl)).trans ((tb_up_ne (Nat.ne_of_beq_eq_false rfl)).trans ((tb_up_ne (Nat.ne_of_beq_eq_false rfl)).trans ((tb_mat_x (Or.inl (Nat.le_of_ble_eq_true rfl))).trans ((tb_up_ne (Nat.ne_of_beq_eq_false rfl)).trans ((tb_up_ne (Nat.ne_of_beq_eq_false rfl)).trans ((tb_up_ne (Nat.ne_of_beq_eq_false rfl)).trans (tb_up_eq.trans rfl)))))))))))))))))))
set_option maxRecDepth 4000 in
theorem zc_DM_6 {cs : Nat → ClassId} {ad : Nat → Nat} {S : Nat → va_E} : z_DM cs ad S 6 = tw_sh cs ad (tw_lay 6) (M0 6) := by
  unfold z_DM
  exact (tb_up_ne (Nat.ne_of_beq_eq_false rfl)).trans ((tb_up_ne (Nat.ne_of_beq_eq_false rfl)).trans ((tb_up_ne (Nat.ne_of_beq_eq_false rfl)).trans ((tb_up_ne (Nat.ne_of_beq_eq_false rfl)).trans ((tb_up_ne (Nat.ne_of_beq_eq_false rfl)).trans ((tb_mat_x (Or.inl (Nat.le_of_ble_eq_true rfl))).trans ((tb_up_ne (Nat.ne_of_beq_eq_false rfl)).trans ((tb_up_ne (Nat.ne_of_beq_eq_false rfl)).trans ((tb_up_ne (Nat.ne_of_beq_eq_false rfl)).trans ((tb_up_ne (Nat.ne_of_beq_eq_false rfl)).trans ((tb_up_ne (Nat.ne_of_beq_eq_false rfl)).trans ((tb_up_ne (Nat.ne_of_beq_eq_false rfl)).trans ((tb_up_ne (Nat.ne_of_beq_eq_false rfl)).trans ((tb_up_ne (Nat.ne_of_beq_eq_false rfl)).trans ((tb_up_ne (Nat.ne_of_beq_eq_false rfl)).trans ((tb_mat_x (Or.inl (Nat.le_of_ble_eq_true rfl))).trans ((tb_up_ne (Nat.ne_of_beq_eq_false rfl)).trans (tb_up_eq.trans rfl)))))))))))))))))
set_option maxRecDepth 4000 in
theorem zc_DM_7 {cs : Nat → ClassId} {ad : Nat → Nat} {S : Nat → va_E} : z_DM cs ad S 7 = tw_sh cs ad (tw_lay 7) (M0 7) := by
  unfold z_DM
  exact (tb_up_ne (Nat.ne_of_beq_eq_false rfl)).trans ((tb_up_ne (Nat.ne_of_beq_eq_false rfl)).trans ((tb_up_ne (Nat.ne_of_beq_eq_false rfl)).trans ((tb_up_ne (Nat.ne_of_beq_eq_false rfl)).trans ((tb_up_ne (Nat.ne_of_beq_eq_false rfl)).trans ((tb_mat_x (Or.inl (Nat.le_of_ble_eq_true rfl))).trans ((tb_up_ne (Nat.ne_of_beq_eq_false rfl)).trans ((tb_up_ne (Nat.ne_of_beq_eq_false rfl)).trans ((tb_up_ne (Nat.ne_of_beq_eq_false rfl)).trans ((tb_up_ne (Nat.ne_of_beq_eq_false rfl)).trans ((tb_up_ne (Nat.ne_of_beq_eq_false rfl)).trans ((tb_up_ne (Nat.ne_of_beq_eq_false rfl)).trans ((tb_up_ne (Nat.ne_of_beq_eq_false rfl)).trans ((tb_up_ne (Nat.ne_of_beq_eq_false rfl)).trans ((tb_up_ne (Nat.ne_of_beq_eq_false rfl)).trans (tb_mat_o.trans rfl)))))))))))))))
set_option maxRecDepth 4000 in
theorem zc_DM_8 {cs : Nat → ClassId} {ad : Nat → Nat} {S : Nat → va_E} : z_DM cs ad S 8 = tw_sh cs ad (tw_lay 8) (M0 8) := by
  unfold z_DM
  exact (tb_up_ne (Nat.ne_of_beq_eq_false rfl)).trans ((tb_up_ne (Nat.ne_of_beq_eq_false rfl)).trans ((tb_up_ne (Nat.ne_of_beq_eq_false rfl)).trans ((tb_up_ne (Nat.ne_of_beq_eq_false rfl)).trans ((tb_up_ne (Nat.ne_of_beq_eq_false rfl)).trans ((tb_mat_x (Or.inl (Nat.le_of_ble_eq_true rfl))).trans ((tb_up_ne (Nat.ne_of_beq_eq_false rfl)).trans ((tb_up_ne (Nat.ne_of_beq_eq_false rfl)).trans ((tb_up_ne (Nat.ne_of_beq_eq_false rfl)).trans ((tb_up_ne (Nat.ne_of_beq_eq_false rfl)).trans ((tb_up_ne (Nat.ne_of_beq_eq_false rfl)).trans ((tb_up_ne (Nat.ne_of_beq_eq_false rfl)).trans ((tb_up_ne (Nat.ne_of_beq_eq_false rfl)).trans ((tb_up_ne (Nat.ne_of_beq_eq_false rfl)).trans ((tb_up_ne (Nat.ne_of_beq_eq_false rfl)).trans ((tb_mat_i (Nat.le_of_ble_eq_true rfl) (Nat.le_of_ble_eq_true rfl)).trans rfl)))))))))))))))
set_option maxRecDepth 4000 in
theorem zc_DM_9 {cs : Nat → ClassId} {ad : Nat → Nat} {S : Nat → va_E} : z_DM cs ad S 9 = tw_sh cs ad (tw_lay 9) (M0 9) := by
  unfold z_DM
  exact (tb_up_ne (Nat.ne_of_beq_eq_false rfl)).trans ((tb_up_ne (Nat.ne_of_beq_eq_false rfl)).trans ((tb_up_ne (Nat.ne_of_beq_eq_false rfl)).trans ((tb_up_ne (Nat.ne_of_beq_eq_false rfl)).trans ((tb_up_ne (Nat.ne_of_beq_eq_false rfl)).trans ((tb_mat_x (Or.inl (Nat.le_of_ble_eq_true rfl))).trans ((tb_up_ne (Nat.ne_of_beq_eq_false rfl)).trans ((tb_up_ne (Nat.ne_of_beq_eq_false rfl)).trans ((tb_up_ne (Nat.ne_of_beq_eq_false rfl)).trans ((tb_up_ne (Nat.ne_of_beq_eq_false rfl)).trans ((tb_up_ne (Nat.ne_of_beq_eq_false rfl)).trans ((tb_up_ne (Nat.ne_of_beq_eq_false rfl)).trans ((tb_up_ne (Nat.ne_of_beq_eq_false rfl)).trans ((tb_up_ne (Nat.ne_of_beq_eq_false rfl)).trans ((tb_up_ne (Nat.ne_of_beq_eq_false rfl)).trans ((tb_mat_i (Nat.le_of_ble_eq_true rfl) (Nat.le_of_ble_eq_true rfl)).trans rfl)))))))))))))))
set_option maxRecDepth 4000 in
theorem zc_DM_10 {cs : Nat → ClassId} {ad : Nat → Nat} {S : Nat → va_E} : z_DM cs ad S 10 = tw_sh cs ad (tw_lay 10) (M0 10) := by
  unfold z_DM
  exact (tb_up_ne (Nat.ne_of_beq_eq_false rfl)).trans ((tb_up_ne (Nat.ne_of_beq_eq_false rfl)).trans ((tb_up_ne (Nat.ne_of_beq_eq_false rfl)).trans ((tb_up_ne (Nat.ne_of_beq_eq_false rfl)).trans ((tb_up_ne (Nat.ne_of_beq_eq_false rfl)).trans ((tb_mat_x (Or.inl (Nat.le_of_ble_eq_true rfl))).trans ((tb_up_ne (Nat.ne_of_beq_eq_false rfl)).trans ((tb_up_ne (Nat.ne_of_beq_eq_false rfl)).trans ((tb_up_ne (Nat.ne_of_beq_eq_false rfl)).trans ((tb_up_ne (Nat.ne_of_beq_eq_false rfl)).trans ((tb_up_ne (Nat.ne_of_beq_eq_false rfl)).trans ((tb_up_ne (Nat.ne_of_beq_eq_false rfl)).trans ((tb_up_ne (Nat.ne_of_beq_eq_false rfl)).trans ((tb_up_ne (Nat.ne_of_beq_eq_false rfl)).trans ((tb_up_ne (Nat.ne_of_beq_eq_false rfl)).trans ((tb_mat_i (Nat.le_of_ble_eq_true rfl) (Nat.le_of_ble_eq_true rfl)).trans rfl)))))))))))))))
set_option maxRecDepth 4000 in
theorem zc_DM_11 {cs : Nat → ClassId} {ad : Nat → Nat} {S : Nat → va_E} : z_DM cs ad S 11 = tw_sh cs ad (tw_lay 11) (M0 11) := by
  unfold z_DM
  exact (tb_up_ne (Nat.ne_of_beq_eq_false rfl)).trans ((tb_up_ne (Nat.ne_of_beq_eq_false rfl)).trans ((tb_up_ne (Nat.ne_of_beq_eq_false rfl)).trans ((tb_up_ne (Nat.ne_of_beq_eq_false rfl)).trans ((tb_up_ne (Nat.ne_of_beq_eq_false rfl)).trans ((tb_mat_x (Or.inl (Nat.le_of_ble_eq_true rfl))).trans ((tb_up_ne (Nat.ne_of_beq_eq_false rfl)).trans ((tb_up_ne (Nat.ne_of_beq_eq_false rfl)).trans ((tb_up_ne (Nat.ne_of_beq_eq_false rfl)).trans ((tb_up_ne (Nat.ne_of_beq_eq_false rfl)).trans ((tb_up_ne (Nat.ne_of_beq_eq_false rfl)).trans ((tb_up_ne (Nat.ne_of_beq_eq_false rfl)).trans ((tb_up_ne (Nat.ne_of_beq_eq_false rfl)).trans ((tb_up_ne (Nat.ne_of_beq_eq_false rfl)).trans ((tb_up_ne (Nat.ne_of_beq_eq_false rfl)).trans ((tb_mat_i (Nat.le_of_ble_eq_true rfl) (Nat.le_of_ble_eq_true rfl)).trans rfl)))))))))))))))
set_option maxRecDepth 4000 in
theorem zc_DM_12 {cs : Nat → ClassId} {ad : Nat → Nat} {S : Nat → va_E} : z_DM cs ad S 12 = tw_sh cs ad (tw_lay 12) (M0 12) := by
  unfold z_DM
  exact (tb_up_ne (Nat.ne_of_beq_eq_false rfl)).trans ((tb_up_ne (Nat.ne_of_beq_eq_false rfl)).trans ((tb_up_ne (Nat.ne_of_beq_eq_false rfl)).trans ((tb_up_ne (Nat.ne_of_beq_eq_false rfl)).trans ((tb_up_ne (Nat.ne_of_beq_eq_false rfl)).trans ((tb_mat_x (Or.inl (Nat.le_of_ble_eq_true rfl))).trans ((tb_up_ne (Nat.ne_of_beq_eq_false rfl)).trans ((tb_up_ne (Nat.ne_of_beq_eq_false rfl)).trans ((tb_up_ne (Nat.ne_of_beq_eq_false rfl)).trans ((tb_up_ne (Nat.ne_of_beq_eq_false rfl)).trans ((tb_up_ne (Nat.ne_of_beq_eq_false rfl)).trans ((tb_up_ne (Nat.ne_of_beq_eq_false rfl)).trans ((tb_up_ne (Nat.ne_of_beq_eq_false rfl)).trans ((tb_up_ne (Nat.ne_of_beq_eq_false rfl)).trans ((tb_up_ne (Nat.ne_of_beq_eq_false rfl)).trans ((tb_mat_i (Nat.le_of_ble_eq_true rfl) (Nat.le_of_ble_eq_true rfl)).trans rfl)))))))))))))))
set_option maxRecDepth 4000 in
theorem zc_DM_13 {cs : Nat → ClassId} {ad : Nat → Nat} {S : Nat → va_E} : z_DM cs ad S 13 = tw_sh cs ad (tw_lay 13) (M0 13) := by
  unfold z_DM
  exact (tb_up_ne (Nat.ne_of_beq_eq_false rfl)).trans ((tb_up_ne (Nat.ne_of_beq_eq_false rfl)).trans ((tb_up_ne (Nat.ne_of_beq_eq_false rfl)).trans ((tb_up_ne (Nat.ne_of_beq_eq_false rfl)).trans ((tb_up_ne (Nat.ne_of_beq_eq_false rfl)).trans ((tb_mat_x (Or.inl (Nat.le_of_ble_eq_true rfl))).trans ((tb_up_ne (Nat.ne_of_beq_eq_false rfl)).trans ((tb_up_ne (Nat.ne_of_beq_eq_false rfl)).trans ((tb_up_ne (Nat.ne_of_beq_eq_false rfl)).trans ((tb_up_ne (Nat.ne_of_beq_eq_false rfl)).trans ((tb_up_ne (Nat.ne_of_beq_eq_false rfl)).trans ((tb_up_ne (Nat.ne_of_beq_eq_false rfl)).trans ((tb_up_ne (Nat.ne_of_beq_eq_false rfl)).trans ((tb_up_ne (Nat.ne_of_beq_eq_false rfl)).trans ((tb_up_ne (Nat.ne_of_beq_eq_false rfl)).trans ((tb_mat_i (Nat.le_of_ble_eq_true rfl) (Nat.le_of_ble_eq_true rfl)).trans rfl)))))))))))))))
set_option maxRecDepth 4000 in
theorem zc_DM_14 {cs : Nat → ClassId} {ad : Nat → Nat} {S : Nat → va_E} : z_DM cs ad S 14 = tw_sh cs ad (tw_lay 14) (M0 14) := by
  unfold z_DM
  exact (tb_up_ne (Nat.ne_of_beq_eq_false rfl)).trans ((tb_up_ne (Nat.ne_of_beq_eq_false rfl)).trans ((tb_up_ne (Nat.ne_of_beq_eq_false rfl)).trans ((tb_up_ne (Nat.ne_of_beq_eq_false rfl)).trans ((tb_up_ne (Nat.ne_of_beq_eq_false rfl)).trans ((tb_mat_x (Or.inl (Nat.le_of_ble_eq_true rfl))).trans ((tb_up_ne (Nat.ne_of_beq_eq_false rfl)).trans ((tb_up_ne (Nat.ne_of_beq_eq_false rfl)).trans ((tb_up_ne (Nat.ne_of_beq_eq_false rfl)).trans ((tb_up_ne (Nat.ne_of_beq_eq_false rfl)).trans ((tb_up_ne (Nat.ne_of_beq_eq_false rfl)).trans ((tb_up_ne (Nat.ne_of_beq_eq_false rfl)).trans ((tb_up_ne (Nat.ne_of_beq_eq_false rfl)).trans ((tb_up_ne (Nat.ne_of_beq_eq_false rfl)).trans ((tb_up_ne (Nat.ne_of_beq_eq_false rfl)).trans ((tb_mat_i (Nat.le_of_ble_eq_true rfl) (Nat.le_of_ble_eq_true rfl)).trans rfl)))))))))))))))
set_option maxRecDepth 4000 in
theorem zc_DM_15 {cs : Nat → ClassId} {ad : Nat → Nat} {S : Nat → va_E} : z_DM cs ad S 15 = tw_sh cs ad (tw_lay 15) (M0 15) := by
  unfold z_DM
  exact (tb_up_ne (Nat.ne_of_beq_eq_false rfl)).trans ((tb_up_ne (Nat.ne_of_beq_eq_false rfl)).trans ((tb_up_ne (Nat.ne_of_beq_eq_false rfl)).trans ((tb_up_ne (Nat.ne_of_beq_eq_false rfl)).trans ((tb_up_ne (Nat.ne_of_beq_eq_false rfl)).trans ((tb_mat_x (Or.inl (Nat.le_of_ble_eq_true rfl))).trans ((tb_up_ne (Nat.ne_of_beq_eq_false rfl)).trans ((tb_up_ne (Nat.ne_of_beq_eq_false rfl)).trans ((tb_up_ne (Nat.ne_of_beq_eq_false rfl)).trans ((tb_up_ne (Nat.ne_of_beq_eq_false rfl)).trans ((tb_up_ne (Nat.ne_of_beq_eq_false rfl)).trans ((tb_up_ne (Nat.ne_of_beq_eq_false rfl)).trans ((tb_up_ne (Nat.ne_of_beq_eq_false rfl)).trans ((tb_up_ne (Nat.ne_of_beq_eq_false rfl)).trans ((tb_up_ne (Nat.ne_of_beq_eq_false rfl)).trans ((tb_mat_i (Nat.le_of_ble_eq_true rfl) (Nat.le_of_ble_eq_true rfl)).trans rfl)))))))))))))))
set_option maxRecDepth 4000 in
theorem zc_DM_16 {cs : Nat → ClassId} {ad : Nat → Nat} {S : Nat → va_E} : z_DM cs ad S 16 = tw_sh cs ad (tw_lay 16) (M0 16) := by
  unfold z_DM
  exact (tb_up_ne (Nat.ne_of_beq_eq_false rfl)).trans ((tb_up_ne (Nat.ne_of_beq_eq_false rfl)).trans ((tb_up_ne (Nat.ne_of_beq_eq_false rfl)).trans ((tb_up_ne (Nat.ne_of_beq_eq_false rfl)).trans ((tb_up_ne (Nat.ne_of_beq_eq_false rfl)).trans ((tb_mat_x (Or.inl (Nat.le_of_ble_eq_true rfl))).trans ((tb_up_ne (Nat.ne_of_beq_eq_false rfl)).trans ((tb_up_ne (Nat.ne_of_beq_eq_false rfl)).trans ((tb_up_ne (Nat.ne_of_beq_eq_false rfl)).trans ((tb_up_ne (Nat.ne_of_beq_eq_false rfl)).trans ((tb_up_ne (Nat.ne_of_beq_eq_false rfl)).trans ((tb_up_ne (Nat.ne_of_beq_eq_false rfl)).trans ((tb_up_ne (Nat.ne_of_beq_eq_false rfl)).trans ((tb_up_ne (Nat.ne_of_beq_eq_false rfl)).trans ((tb_up_ne (Nat.ne_of_beq_eq_false rfl)).trans ((tb_mat_i (Nat.le_of_ble_eq_true rfl) (Nat.le_of_ble_eq_true rfl)).trans rfl)))))))))))))))
set_option maxRecDepth 4000 in
theorem zc_DM_17 {cs : Nat → ClassId} {ad : Nat → Nat} {S : Nat → va_E} : z_DM cs ad S 17 = tw_sh cs ad (tw_lay 17) (M0 17) := by
  unfold z_DM
  exact (tb_up_ne (Nat.ne_of_beq_eq_false rfl)).trans ((tb_up_ne (Nat.ne_of_beq_eq_false rfl)).trans ((tb_up_ne (Nat.ne_of_beq_eq_false rfl)).trans ((tb_up_ne (Nat.ne_of_beq_eq_false rfl)).trans ((tb_up_ne (Nat.ne_of_beq_eq_false rfl)).trans ((tb_mat_x (Or.inl (Nat.le_of_ble_eq_true rfl))).trans ((tb_up_ne (Nat.ne_of_beq_eq_false rfl)).trans ((tb_up_ne (Nat.ne_of_beq_eq_false rfl)).trans ((tb_up_ne (Nat.ne_of_beq_eq_false rfl)).trans ((tb_up_ne (Nat.ne_of_beq_eq_false rfl)).trans ((tb_up_ne (Nat.ne_of_beq_eq_false rfl)).trans ((tb_up_ne (Nat.ne_of_beq_eq_false rfl)).trans ((tb_up_ne (Nat.ne_of_beq_eq_false rfl)).trans ((tb_up_ne (Nat.ne_of_beq_eq_false rfl)).trans ((tb_up_ne (Nat.ne_of_beq_eq_false rfl)).trans ((tb_mat_i (Nat.le_of_ble_eq_true rfl) (Nat.le_of_ble_eq_true rfl)).trans rfl)))))))))))))))
set_option maxRecDepth 4000 in
theorem zc_DM_18 {cs : Nat → ClassId} {ad : Nat → Nat} {S : Nat → va_E} : z_DM cs ad S 18 = tw_sh cs ad (tw_lay 18) (M0 18) := by
  unfold z_DM
  exact (tb_up_ne (Nat.ne_of_beq_eq_false rfl)).trans ((tb_up_ne (Nat.ne_of_beq_eq_false rfl)).trans ((tb_up_ne (Nat.ne_of_beq_eq_false rfl)).trans ((tb_up_ne (Nat.ne_of_beq_eq_false rfl)).trans ((tb_up_ne (Nat.ne_of_beq_eq_false rfl)).trans ((tb_mat_x (Or.inl (Nat.le_of_ble_eq_true rfl))).trans ((tb_up_ne (Nat.ne_of_beq_eq_false rfl)).trans ((tb_up_ne (Nat.ne_of_beq_eq_false rfl)).trans ((tb_up_ne (Nat.ne_of_beq_eq_false rfl)).trans ((tb_up_ne (Nat.ne_of_beq_eq_false rfl)).trans ((tb_up_ne (Nat.ne_of_beq_eq_false rfl)).trans ((tb_up_ne (Nat.ne_of_beq_eq_false rfl)).trans ((tb_up_ne (Nat.ne_of_beq_eq_false rfl)).trans ((tb_up_ne (Nat.ne_of_beq_eq_false rfl)).trans ((tb_up_ne (Nat.ne_of_beq_eq_false rfl)).trans ((tb_mat_i (Nat.le_of_ble_eq_true rfl) (Nat.le_of_ble_eq_true rfl)).trans rfl)))))))))))))))
set_option maxRecDepth 4000 in
theorem zc_DM_19 {cs : Nat → ClassId} {ad : Nat → Nat} {S : Nat → va_E} : z_DM cs ad S 19 = tw_sh cs ad (tw_lay 19) (M0 19) := by
  unfold z_DM
  exact (tb_up_ne (Nat.ne_of_beq_eq_false rfl)).trans ((tb_up_ne (Nat.ne_of_beq_eq_false rfl)).trans ((tb_up_ne (Nat.ne_of_beq_eq_false rfl)).trans ((tb_up_ne (Nat.ne_of_beq_eq_false rfl)).trans ((tb_up_ne (Nat.ne_of_beq_eq_false rfl)).trans ((tb_mat_x (Or.inl (Nat.le_of_ble_eq_true rfl))).trans ((tb_up_ne (Nat.ne_of_beq_eq_false rfl)).trans ((tb_up_ne (Nat.ne_of_beq_eq_false rfl)).trans ((tb_up_ne (Nat.ne_of_beq_eq_false rfl)).trans ((tb_up_ne (Nat.ne_of_beq_eq_false rfl)).trans ((tb_up_ne (Nat.ne_of_beq_eq_false rfl)).trans ((tb_up_ne (Nat.ne_of_beq_eq_false rfl)).trans ((tb_up_ne (Nat.ne_of_beq_eq_false rfl)).trans ((tb_up_ne (Nat.ne_of_beq_eq_false rfl)).trans ((tb_up_ne (Nat.ne_of_beq_eq_false rfl)).trans ((tb_mat_i (Nat.le_of_ble_eq_true rfl) (Nat.le_of_ble_eq_true rfl)).trans rfl)))))))))))))))
set_option maxRecDepth 4000 in
theorem zc_DM_20 {cs : Nat → ClassId} {ad : Nat → Nat} {S : Nat → va_E} : z_DM cs ad S 20 = tw_sh cs ad (tw_lay 20) (M0 20) := by
  unfold z_DM
  exact (tb_up_ne (Nat.ne_of_beq_eq_false rfl)).trans ((tb_up_ne (Nat.ne_of_beq_eq_false rfl)).trans ((tb_up_ne (Nat.ne_of_beq_eq_false rfl)).trans ((tb_up_ne (Nat.ne_of_beq_eq_false rfl)).trans ((tb_up_ne (Nat.ne_of_beq_eq_false rfl)).trans ((tb_mat_x (Or.inl (Nat.le_of_ble_eq_true rfl))).trans ((tb_up_ne (Nat.ne_of_beq_eq_false rfl)).trans ((tb_up_ne (Nat.ne_of_beq_eq_false rfl)).trans ((tb_up_ne (Nat.ne_of_beq_eq_false rfl)).trans ((tb_up_ne (Nat.ne_of_beq_eq_false rfl)).trans ((tb_up_ne (Nat.ne_of_beq_eq_false rfl)).trans ((tb_up_ne (Nat.ne_of_beq_eq_false rfl)).trans ((tb_up_ne (Nat.ne_of_beq_eq_false rfl)).trans (tb_up_eq.trans rfl)))))))))))))
set_option maxRecDepth 4000 in
theorem zc_DM_21 {cs : Nat → ClassId} {ad : Nat → Nat} {S : Nat → va_E} : z_DM cs ad S 21 = tw_sh cs ad (tw_lay 21) (M0 21) := by
  unfold z_DM
  exact (tb_up_ne (Nat.ne_of_beq_eq_false rfl)).trans ((tb_up_ne (Nat.ne_of_beq_eq_false rfl)).trans ((tb_up_ne (Nat.ne_of_beq_eq_false rfl)).trans ((tb_up_ne (Nat.ne_of_beq_eq_false rfl)).trans ((tb_up_ne (Nat.ne_of_beq_eq_false rfl)).trans ((tb_mat_x (Or.inl (Nat.le_of_ble_eq_true rfl))).trans ((tb_up_ne (Nat.ne_of_beq_eq_false rfl)).trans ((tb_up_ne (Nat.ne_of_beq_eq_false rfl)).trans ((tb_up_ne (Nat.ne_of_beq_eq_false rfl)).trans ((tb_up_ne (Nat.ne_of_beq_eq_false rfl)).trans ((tb_up_ne (Nat.ne_of_beq_eq_false rfl)).trans (tb_up_eq.trans rfl)))))))))))
set_option maxRecDepth 4000 in
theorem zc_DM_22 {cs : Nat → ClassId} {ad : Nat → Nat} {S : Nat → va_E} : z_DM cs ad S 22 = tw_sh cs ad (tw_lay 22) (M0 22) := by
  unfold z_DM
  exact (tb_up_ne (Nat.ne_of_beq_eq_false rfl)).trans ((tb_up_ne (Nat.ne_of_beq_eq_false rfl)).trans ((tb_up_ne (Nat.ne_of_beq_eq_false rfl)).trans ((tb_up_ne (Nat.ne_of_beq_eq_false rfl)).trans ((tb_up_ne (Nat.ne_of_beq_eq_false rfl)).trans ((tb_mat_x (Or.inl (Nat.le_of_ble_eq_true rfl))).trans ((tb_up_ne (Nat.ne_of_beq_eq_false rfl)).trans ((tb_up_ne (Nat.ne_of_beq_eq_false rfl)).trans ((tb_up_ne (Nat.ne_of_beq_eq_false rfl)).trans (tb_up_eq.trans rfl)))))))))
set_option maxRecDepth 4000 in
theorem zc_DM_23 {cs : Nat → ClassId} {ad : Nat → Nat} {S : Nat → va_E} : z_DM cs ad S 23 = tw_sh cs ad (tw_lay 23) (M0 23) := by
  unfold z_DM
  exact (tb_up_ne (Nat.ne_of_beq_eq_false rfl)).trans ((tb_up_ne (Nat.ne_of_beq_eq_false rfl)).trans ((tb_up_ne (Nat.ne_of_beq_eq_false rfl)).trans ((tb_up_ne (Nat.ne_of_beq_eq_false rfl)).trans ((tb_up_ne (Nat.ne_of_beq_eq_false rfl)).trans ((tb_mat_x (Or.inl (Nat.le_of_ble_eq_true rfl))).trans ((tb_up_ne (Nat.ne_of_beq_eq_false rfl)).trans (tb_up_eq.trans rfl)))))))
set_option maxRecDepth 4000 in
theorem zc_DM_24 {cs : Nat → ClassId} {ad : Nat → Nat} {S : Nat → va_E} : z_DM cs ad S 24 = tw_sh cs ad (tw_lay 24) (M0 24) := by
  unfold z_DM
  exact (tb_up_ne (Nat.ne_of_beq_eq_false rfl)).trans ((tb_up_ne (Nat.ne_of_beq_eq_false rfl)).trans ((tb_up_ne (Nat.ne_of_beq_eq_false rfl)).trans ((tb_up_ne (Nat.ne_of_beq_eq_false rfl)).trans ((tb_up_ne (Nat.ne_of_beq_eq_false rfl)).trans (tb_mat_o.trans rfl)))))
set_option maxRecDepth 4000 in
theorem zc_DM_25 {cs : Nat → ClassId} {ad : Nat → Nat} {S : Nat → va_E} : z_DM cs ad S 25 = tw_sh cs ad (tw_lay 25) (M0 25) := by
  unfold z_DM
  exact (tb_up_ne (Nat.ne_of_beq_eq_false rfl)).trans ((tb_up_ne (Nat.ne_of_beq_eq_false rfl)).trans ((tb_up_ne (Nat.ne_of_beq_eq_false rfl)).trans ((tb_up_ne (Nat.ne_of_beq_eq_false rfl)).trans ((tb_up_ne (Nat.ne_of_beq_eq_false rfl)).trans ((tb_mat_i (Nat.le_of_ble_eq_true rfl) (Nat.le_of_ble_eq_true rfl)).trans rfl)))))
set_option maxRecDepth 4000 in
theorem zc_DM_26 {cs : Nat → ClassId} {ad : Nat → Nat} {S : Nat → va_E} : z_DM cs ad S 26 = tw_sh cs ad (tw_lay 26) (M0 26) := by
  unfold z_DM
  exact (tb_up_ne (Nat.ne_of_beq_eq_false rfl)).trans ((tb_up_ne (Nat.ne_of_beq_eq_false rfl)).trans ((tb_up_ne (Nat.ne_of_beq_eq_false rfl)).trans ((tb_up_ne (Nat.ne_of_beq_eq_false rfl)).trans ((tb_up_ne (Nat.ne_of_beq_eq_false rfl)).trans ((tb_mat_i (Nat.le_of_ble_eq_true rfl) (Nat.le_of_ble_eq_true rfl)).trans rfl)))))
set_option maxRecDepth 4000 in
theorem zc_DM_27 {cs : Nat → ClassId} {ad : Nat → Nat} {S : Nat → va_E} : z_DM cs ad S 27 = tw_sh cs ad (tw_lay 27) (M0 27) := by
  unfold z_DM
  exact (tb_up_ne (Nat.ne_of_beq_eq_false rfl)).trans ((tb_up_ne (Nat.ne_of_beq_eq_false rfl)).trans ((tb_up_ne (Nat.ne_of_beq_eq_false rfl)).trans ((tb_up_ne (Nat.ne_of_beq_eq_false rfl)).trans ((tb_up_ne (Nat.ne_of_beq_eq_false rfl)).trans ((tb_mat_i (Nat.le_of_ble_eq_true rfl) (Nat.le_of_ble_eq_true rfl)).trans rfl)))))
set_option maxRecDepth 4000 in
theorem zc_DM_28 {cs : Nat → ClassId} {ad : Nat → Nat} {S : Nat → va_E} : z_DM cs ad S 28 = tw_sh cs ad (tw_lay 28) (M0 28) := by
  unfold z_DM
  exact (tb_up_ne (Nat.ne_of_beq_eq_false rfl)).trans ((tb_up_ne (Nat.ne_of_beq_eq_false rfl)).trans ((tb_up_ne (Nat.ne_of_beq_eq_false rfl)).trans ((tb_up_ne (Nat.ne_of_beq_eq_false rfl)).trans ((tb_up_ne (Nat.ne_of_beq_eq_false rfl)).trans ((tb_mat_i (Nat.le_of_ble_eq_true rfl) (Nat.le_of_ble_eq_true rfl)).trans rfl)))))
set_option maxRecDepth 4000 in
theorem zc_DM_29 {cs : Nat → ClassId} {ad : Nat → Nat} {S : Nat → va_E} : z_DM cs ad S 29 = tw_sh cs ad (tw_lay 29) (M0 29) := by
  unfold z_DM
  exact (tb_up_ne (Nat.ne_of_beq_eq_false rfl)).trans ((tb_up_ne (Nat.ne_of_beq_eq_false rfl)).trans ((tb_up_ne (Nat.ne_of_beq_eq_false rfl)).trans ((tb_up_ne (Nat.ne_of_beq_eq_false rfl)).trans ((tb_up_ne (Nat.ne_of_beq_eq_false rfl)).trans ((tb_mat_i (Nat.le_of_ble_eq_true rfl) (Nat.le_of_ble_eq_true rfl)).trans rfl)))))
set_option maxRecDepth 4000 in
theorem zc_DM_30 {cs : Nat → ClassId} {ad : Nat → Nat} {S : Nat → va_E} : z_DM cs ad S 30 = tw_sh cs ad (tw_lay 30) (M0 30) := by
  unfold z_DM
  exact (tb_up_ne (Nat.ne_of_beq_eq_false rfl)).trans ((tb_up_ne (Nat.ne_of_beq_eq_false rfl)).trans ((tb_up_ne (Nat.ne_of_beq_eq_false rfl)).trans ((tb_up_ne (Nat.ne_of_beq_eq_false rfl)).trans ((tb_up_ne (Nat.ne_of_beq_eq_false rfl)).trans ((tb_mat_i (Nat.le_of_ble_eq_true rfl) (Nat.le_of_ble_eq_true rfl)).trans rfl)))))
set_option maxRecDepth 4000 in
theorem zc_DM_31 {cs : Nat → ClassId} {ad : Nat → Nat} {S : Nat → va_E} : z_DM cs ad S 31 = tw_sh cs ad (tw_lay 31) (M0 31) := by
  unfold z_DM
  exact (tb_up_ne (Nat.ne_of_beq_eq_false rfl)).trans ((tb_up_ne (Nat.ne_of_beq_eq_false rfl)).trans ((tb_up_ne (Nat.ne_of_beq_eq_false rfl)).trans ((tb_up_ne (Nat.ne_of_beq_eq_false rfl)).trans ((tb_up_ne (Nat.ne_of_beq_eq_false rfl)).trans ((tb_mat_i (Nat.le_of_ble_eq_true rfl) (Nat.le_of_ble_eq_true rfl)).trans rfl)))))
set_option maxRecDepth 4000 in
theorem zc_DM_32 {cs : Nat → ClassId} {ad : Nat → Nat} {S : Nat → va_E} : z_DM cs ad S 32 = tw_sh cs ad (tw_lay 32) (M0 32) := by
  unfold z_DM
  exact (tb_up_ne (Nat.ne_of_beq_eq_false rfl)).trans ((tb_up_ne (Nat.ne_of_beq_eq_false rfl)).trans ((tb_up_ne (Nat.ne_of_beq_eq_false rfl)).trans ((tb_up_ne (Nat.ne_of_beq_eq_false rfl)).trans ((tb_up_ne (Nat.ne_of_beq_eq_false rfl)).trans ((tb_mat_i (Nat.le_of_ble_eq_true rfl) (Nat.le_of_ble_eq_true rfl)).trans rfl)))))
set_option maxRecDepth 4000 in
theorem zc_DM_33 {cs : Nat → ClassId} {ad : Nat → Nat} {S : Nat → va_E} : z_DM cs ad S 33 = tw_sh cs ad (tw_lay 33) (M0 33) := by
  unfold z_DM
  exact (tb_up_ne (Nat.ne_of_beq_eq_false rfl)).trans ((tb_up_ne (Nat.ne_of_beq_eq_false rfl)).trans ((tb_up_ne (Nat.ne_of_beq_eq_false rfl)).trans ((tb_up_ne (Nat.ne_of_beq_eq_false rfl)).trans ((tb_up_ne (Nat.ne_of_beq_eq_false rfl)).trans ((tb_mat_i (Nat.le_of_ble_eq_true rfl) (Nat.le_of_ble_eq_true rfl)).trans rfl)))))
set_option maxRecDepth 4000 in
theorem zc_DM_34 {cs : Nat → ClassId} {ad : Nat → Nat} {S : Nat → va_E} : z_DM cs ad S 34 = tw_sh cs ad (tw_lay 34) (M0 34) := by
  unfold z_DM
  exact (tb_up_ne (Nat.ne_of_beq_eq_false rfl)).trans ((tb_up_ne (Nat.ne_of_beq_eq_false rfl)).trans ((tb_up_ne (Nat.ne_of_beq_eq_false rfl)).trans ((tb_up_ne (Nat.ne_of_beq_eq_false rfl)).trans ((tb_up_ne (Nat.ne_of_beq_eq_false rfl)).trans ((tb_mat_i (Nat.le_of_ble_eq_true rfl) (Nat.le_of_ble_eq_true rfl)).trans rfl)))))
set_option maxRecDepth 4000 in
theorem zc_DM_35 {cs : Nat → ClassId} {ad : Nat → Nat} {S : Nat → va_E} : z_DM cs ad S 35 = tw_sh cs ad (tw_lay 35) (M0 35) := by
  unfold z_DM
  exact (tb_up_ne (Nat.ne_of_beq_eq_false rfl)).trans ((tb_up_ne (Nat.ne_of_beq_eq_false rfl)).trans ((tb_up_ne (Nat.ne_of_beq_eq_false rfl)).trans ((tb_up_ne (Nat.ne_of_beq_eq_false rfl)).trans ((tb_up_ne (Nat.ne_of_beq_eq_false rfl)).trans ((tb_mat_i (Nat.le_of_ble_eq_true rfl) (Nat.le_of_ble_eq_true rfl)).trans rfl)))))
set_option maxRecDepth 4000 in
theorem zc_DM_36 {cs : Nat → ClassId} {ad : Nat → Nat} {S : Nat → va_E} : z_DM cs ad S 36 = tw_sh cs ad (tw_lay 36) (M0 36) := by
  unfold z_DM
  exact (tb_up_ne (Nat.ne_of_beq_eq_false rfl)).trans ((tb_up_ne (Nat.ne_of_beq_eq_false rfl)).trans ((tb_up_ne (Nat.ne_of_beq_eq_false rfl)).trans ((tb_up_ne (Nat.ne_of_beq_eq_false rfl)).trans ((tb_up_ne (Nat.ne_of_beq_eq_false rfl)).trans ((tb_mat_i (Nat.le_of_ble_eq_true rfl) (Nat.le_of_ble_eq_true rfl)).trans rfl)))))
set_option maxRecDepth 4000 in
theorem zc_DM_37 {cs : Nat → ClassId} {ad : Nat → Nat} {S : Nat → va_E} : z_DM cs ad S 37 = tw_sh cs ad (tw_lay 37) (M0 37) := by
  unfold z_DM
  exact (tb_up_ne (Nat.ne_of_beq_eq_false rfl)).trans ((tb_up_ne (Nat.ne_of_beq_eq_false rfl)).trans ((tb_up_ne (Nat.ne_of_beq_eq_false rfl)).trans ((tb_up_ne (Nat.ne_of_beq_eq_false rfl)).trans ((tb_up_ne (Nat.ne_of_beq_eq_false rfl)).trans ((tb_mat_i (Nat.le_of_ble_eq_true rfl) (Nat.le_of_ble_eq_true rfl)).trans rfl)))))
set_option maxRecDepth 4000 in
theorem zc_DM_38 {cs : Nat → ClassId} {ad : Nat → Nat} {S : Nat → va_E} : z_DM cs ad S 38 = tw_sh cs ad (tw_lay 38) (M0 38) := by
  unfold z_DM
  exact (tb_up_ne (Nat.ne_of_beq_eq_false rfl)).trans ((tb_up_ne (Nat.ne_of_beq_eq_false rfl)).trans ((tb_up_ne (Nat.ne_of_beq_eq_false rfl)).trans ((tb_up_ne (Nat.ne_of_beq_eq_false rfl)).trans ((tb_up_ne (Nat.ne_of_beq_eq_false rfl)).trans ((tb_mat_i (Nat.le_of_ble_eq_true rfl) (Nat.le_of_ble_eq_true rfl)).trans rfl)))))
set_option maxRecDepth 4000 in
theorem zc_DM_39 {cs : Nat → ClassId} {ad : Nat → Nat} {S : Nat → va_E} : z_DM cs ad S 39 = tw_sh cs ad (tw_lay 39) (M0 39) := by
  unfold z_DM
  exact (tb_up_ne (Nat.ne_of_beq_eq_false rfl)).trans ((tb_up_ne (Nat.ne_of_beq_eq_false rfl)).trans ((tb_up_ne (Nat.ne_of_beq_eq_false rfl)).trans ((tb_up_ne (Nat.ne_of_beq_eq_false rfl)).trans ((tb_up_ne (Nat.ne_of_beq_eq_false rfl)).trans ((tb_mat_i (Nat.le_of_ble_eq_true rfl) (Nat.le_of_ble_eq_true rfl)).trans rfl)))))
set_option maxRecDepth 4000 in
theorem zc_DM_40 {cs : Nat → ClassId} {ad : Nat → Nat} {S : Nat → va_E} : z_DM cs ad S 40 = tw_sh cs ad (tw_lay 40) (M0 40) := by
  unfold z_DM
  exact (tb_up_ne (Nat.ne_of_beq_eq_false rfl)).trans ((tb_up_ne (Nat.ne_of_beq_eq_false rfl)).trans ((tb_up_ne (Nat.ne_of_beq_eq_false rfl)).trans ((tb_up_ne (Nat.ne_of_beq_eq_false rfl)).trans ((tb_up_ne (Nat.ne_of_beq_eq_false rfl)).trans ((tb_mat_i (Nat.le_of_ble_eq_true rfl) (Nat.le_of_ble_eq_true rfl)).trans rfl)))))
set_option maxRecDepth 4000 in
theorem zc_DM_41 {cs : Nat → ClassId} {ad : Nat → Nat} {S : Nat → va_E} : z_DM cs ad S 41 = tw_sh cs ad (tw_lay 41) (M0 41) := by
  unfold z_DM
  exact (tb_up_ne (Nat.ne_of_beq_eq_false rfl)).trans ((tb_up_ne (Nat.ne_of_beq_eq_false rfl)).trans ((tb_up_ne (Nat.ne_of_beq_eq_false rfl)).trans ((tb_up_ne (Nat.ne_of_beq_eq_false rfl)).trans ((tb_up_ne (Nat.ne_of_beq_eq_false rfl)).trans ((tb_mat_i (Nat.le_of_ble_eq_true rfl) (Nat.le_of_ble_eq_true rfl)).trans rfl)))))
set_option maxRecDepth 4000 in
theorem zc_DM_42 {cs : Nat → ClassId} {ad : Nat → Nat} {S : Nat → va_E} : z_DM cs ad S 42 = tw_sh cs ad (tw_lay 42) (M0 42) := by
  unfold z_DM
  exact (tb_up_ne (Nat.ne_of_beq_eq_false rfl)).trans ((tb_up_ne (Nat.ne_of_beq_eq_false rfl)).trans ((tb_up_ne (Nat.ne_of_beq_eq_false rfl)).trans ((tb_up_ne (Nat.ne_of_beq_eq_false rfl)).trans ((tb_up_ne (Nat.ne_of_beq_eq_false rfl)).trans ((tb_mat_i (Nat.le_of_ble_eq_true rfl) (Nat.le_of_ble_eq_true rfl)).trans rfl)))))
set_option maxRecDepth 4000 in
theorem zc_DM_43 {cs : Nat → ClassId} {ad : Nat → Nat} {S : Nat → va_E} : z_DM cs ad S 43 = tw_sh cs ad (tw_lay 43) (M0 43) := by
  unfold z_DM
  exact (tb_up_ne (Nat.ne_of_beq_eq_false rfl)).trans ((tb_up_ne (Nat.ne_of_beq_eq_false rfl)).trans ((tb_up_ne (Nat.ne_of_beq_eq_false rfl)).trans ((tb_up_ne (Nat.ne_of_beq_eq_false rfl)).trans ((tb_up_ne (Nat.ne_of_beq_eq_false rfl)).trans ((tb_mat_i (Nat.le_of_ble_eq_true rfl) (Nat.le_of_ble_eq_true rfl)).trans rfl)))))
set_option maxRecDepth 4000 in
theorem zc_DM_44 {cs : Nat → ClassId} {ad : Nat → Nat} {S : Nat → va_E} : z_DM cs ad S 44 = tw_sh cs ad (tw_lay 44) (M0 44) := by
  unfold z_DM
  exact (tb_up_ne (Nat.ne_of_beq_eq_false rfl)).trans ((tb_up_ne (Nat.ne_of_beq_eq_false rfl)).trans ((tb_up_ne (Nat.ne_of_beq_eq_false rfl)).trans ((tb_up_ne (Nat.ne_of_beq_eq_false rfl)).trans ((tb_up_ne (Nat.ne_of_beq_eq_false rfl)).trans ((tb_mat_i (Nat.le_of_ble_eq_true rfl) (Nat.le_of_ble_eq_true rfl)).trans rfl)))))
set_option maxRecDepth 4000 in
theorem zc_DM_45 {cs : Nat → ClassId} {ad : Nat → Nat} {S : Nat → va_E} : z_DM cs ad S 45 = tw_sh cs ad (tw_lay 45) (M0 45) := by
  unfold z_DM
  exact (tb_up_ne (Nat.ne_of_beq_eq_false rfl)).trans ((tb_up_ne (Nat.ne_of_beq_eq_false rfl)).trans ((tb_up_ne (Nat.ne_of_beq_eq_false rfl)).trans ((tb_up_ne (Nat.ne_of_beq_eq_false rfl)).trans ((tb_up_ne (Nat.ne_of_beq_eq_false rfl)).trans ((tb_mat_i (Nat.le_of_ble_eq_true rfl) (Nat.le_of_ble_eq_true rfl)).trans rfl)))))
set_option maxRecDepth 4000 in
theorem zc_DM_46 {cs : Nat → ClassId} {ad : Nat → Nat} {S : Nat → va_E} : z_DM cs ad S 46 = tw_sh cs ad (tw_lay 46) (M0 46) := by
  unfold z_DM
  exact (tb_up_ne (Nat.ne_of_beq_eq_false rfl)).trans ((tb_up_ne (Nat.ne_of_beq_eq_false rfl)).trans ((tb_up_ne (Nat.ne_of_beq_eq_false rfl)).trans ((tb_up_ne (Nat.ne_of_beq_eq_false rfl)).trans ((tb_up_ne (Nat.ne_of_beq_eq_false rfl)).trans ((tb_mat_i (Nat.le_of_ble_eq_true rfl) (Nat.le_of_ble_eq_true rfl)).trans rfl)))))
set_option maxRecDepth 4000 in
theorem zc_DM_47 {cs : Nat → ClassId} {ad : Nat → Nat} {S : Nat → va_E} : z_DM cs ad S 47 = tw_sh cs ad (tw_lay 47) (M0 47) := by
  unfold z_DM
  exact (tb_up_ne (Nat.ne_of_beq_eq_false rfl)).trans ((tb_up_ne (Nat.ne_of_beq_eq_false rfl)).trans ((tb_up_ne (Nat.ne_of_beq_eq_false rfl)).trans ((tb_up_ne (Nat.ne_of_beq_eq_false rfl)).trans ((tb_up_ne (Nat.ne_of_beq_eq_false rfl)).trans ((tb_mat_i (Nat.le_of_ble_eq_true rfl) (Nat.le_of_ble_eq_true rfl)).trans rfl)))))
set_option maxRecDepth 4000 in
theorem zc_DM_48 {cs : Nat → ClassId} {ad : Nat → Nat} {S : Nat → va_E} : z_DM cs ad S 48 = tw_sh cs ad (tw_lay 48) (M0 48) := by
  unfold z_DM
  exact (tb_up_ne (Nat.ne_of_beq_eq_false rfl)).trans ((tb_up_ne (Nat.ne_of_beq_eq_false rfl)).trans ((tb_up_ne (Nat.ne_of_beq_eq_false rfl)).trans ((tb_up_ne (Nat.ne_of_beq_eq_false rfl)).trans ((tb_up_ne (Nat.ne_of_beq_eq_false rfl)).trans ((tb_mat_i (Nat.le_of_ble_eq_true rfl) (Nat.le_of_ble_eq_true rfl)).trans rfl)))))
set_option maxRecDepth 4000 in
theorem zc_DM_49 {cs : Nat → ClassId} {ad : Nat → Nat} {S : Nat → va_E} : z_DM cs ad S 49 = tw_sh cs ad (tw_lay 49) (M0 49) := by
  unfold z_DM
  exact (tb_up_ne (Nat.ne_of_beq_eq_false rfl)).trans ((tb_up_ne (Nat.ne_of_beq_eq_false rfl)).trans ((tb_up_ne (Nat.ne_of_beq_eq_false rfl)).trans ((tb_up_ne (Nat.ne_of_beq_eq_false rfl)).trans ((tb_up_ne (Nat.ne_of_beq_eq_false rfl)).trans ((tb_mat_i (Nat.le_of_ble_eq_true rfl) (Nat.le_of_ble_eq_true rfl)).trans rfl)))))
set_option maxRecDepth 4000 in
theorem zc_DM_50 {cs : Nat → ClassId} {ad : Nat → Nat} {S : Nat → va_E} : z_DM cs ad S 50 = tw_sh cs ad (tw_lay 50) (M0 50) := by
  unfold z_DM
  exact (tb_up_ne (Nat.ne_of_beq_eq_false rfl)).trans ((tb_up_ne (Nat.ne_of_beq_eq_false rfl)).trans ((tb_up_ne (Nat.ne_of_beq_eq_false rfl)).trans ((tb_up_ne (Nat.ne_of_beq_eq_false rfl)).trans ((tb_up_ne (Nat.ne_of_beq_eq_false rfl)).trans ((tb_mat_i (Nat.le_of_ble_eq_true rfl) (Nat.le_of_ble_eq_true rfl)).trans rfl)))))
set_option maxRecDepth 4000 in
theorem zc_DM_51 {cs : Nat → ClassId} {ad : Nat → Nat} {S : Nat → va_E} : z_DM cs ad S 51 = tw_sh cs ad (tw_lay 51) (M0 51) := by
  unfold z_DM
  exact (tb_up_ne (Nat.ne_of_beq_eq_false rfl)).trans ((tb_up_ne (Nat.ne_of_beq_eq_false rfl)).trans ((tb_up_ne (Nat.ne_of_beq_eq_false rfl)).trans ((tb_up_ne (Nat.ne_of_beq_eq_false rfl)).trans ((tb_up_ne (Nat.ne_of_beq_eq_false rfl)).trans ((tb_mat_i (Nat.le_of_ble_eq_true rfl) (Nat.le_of_ble_eq_true rfl)).trans rfl)))))
set_option maxRecDepth 4000 in
theorem zc_DM_52 {cs : Nat → ClassId} {ad : Nat → Nat} {S : Nat → va_E} : z_DM cs ad S 52 = tw_sh cs ad (tw_lay 52) (M0 52) := by
  unfold z_DM
  exact (tb_up_ne (Nat.ne_of_beq_eq_false rfl)).trans ((tb_up_ne (Nat.ne_of_beq_eq_false rfl)).trans ((tb_up_ne (Nat.ne_of_beq_eq_false rfl)).trans ((tb_up_ne (Nat.ne_of_beq_eq_false rfl)).trans ((tb_up_ne (Nat.ne_of_beq_eq_false rfl)).trans ((tb_mat_i (Nat.le_of_ble_eq_true rfl) (Nat.le_of_ble_eq_true rfl)).trans rfl)))))
set_option maxRecDepth 4000 in
theorem zc_DM_53 {cs : Nat → ClassId} {ad : Nat → Nat} {S : Nat → va_E} : z_DM cs ad S 53 = tw_sh cs ad (tw_lay 53) (M0 53) := by
  unfold z_DM
  exact (tb_up_ne (Nat.ne_of_beq_eq_false rfl)).trans ((tb_up_ne (Nat.ne_of_beq_eq_false rfl)).trans ((tb_up_ne (Nat.ne_of_beq_eq_false rfl)).trans ((tb_up_ne (Nat.ne_of_beq_eq_false rfl)).trans ((tb_up_ne (Nat.ne_of_beq_eq_false rfl)).trans ((tb_mat_i (Nat.le_of_ble_eq_true rfl) (Nat.le_of_ble_eq_true rfl)).trans rfl)))))
set_option maxRecDepth 4000 in
theorem zc_DM_54 {cs : Nat → ClassId} {ad : Nat → Nat} {S : Nat → va_E} : z_DM cs ad S 54 = tw_sh cs ad (tw_lay 54) (M0 54) := by
  unfold z_DM
  exact (tb_up_ne (Nat.ne_of_beq_eq_false rfl)).trans ((tb_up_ne (Nat.ne_of_beq_eq_false rfl)).trans ((tb_up_ne (Nat.ne_of_beq_eq_false rfl)).trans ((tb_up_ne (Nat.ne_of_beq_eq_false rfl)).trans ((tb_up_ne (Nat.ne_of_beq_eq_false rfl)).trans ((tb_mat_i (Nat.le_of_ble_eq_true rfl) (Nat.le_of_ble_eq_true rfl)).trans rfl)))))
set_option maxRecDepth 4000 in
theorem zc_DM_55 {cs : Nat → ClassId} {ad : Nat → Nat} {S : Nat → va_E} : z_DM cs ad S 55 = tw_sh cs ad (tw_lay 55) (M0 55) := by
  unfold z_DM
  exact (tb_up_ne (Nat.ne_of_beq_eq_false rfl)).trans ((tb_up_ne (Nat.ne_of_beq_eq_false rfl)).trans ((tb_up_ne (Nat.ne_of_beq_eq_false rfl)).trans ((tb_up_ne (Nat.ne_of_beq_eq_false rfl)).trans ((tb_up_ne (Nat.ne_of_beq_eq_false rfl)).trans ((tb_mat_i (Nat.le_of_ble_eq_true rfl) (Nat.le_of_ble_eq_true rfl)).trans rfl)))))
set_option maxRecDepth 4000 in
theorem zc_DM_56 {cs : Nat → ClassId} {ad : Nat → Nat} {S : Nat → va_E} : z_DM cs ad S 56 = tw_sh cs ad (tw_lay 56) (M0 56) := by
  unfold z_DM
  exact (tb_up_ne (Nat.ne_of_beq_eq_false rfl)).trans ((tb_up_ne (Nat.ne_of_beq_eq_false rfl)).trans ((tb_up_ne (Nat.ne_of_beq_eq_false rfl)).trans ((tb_up_ne (Nat.ne_of_beq_eq_false rfl)).trans ((tb_up_ne (Nat.ne_of_beq_eq_false rfl)).trans ((tb_mat_i (Nat.le_of_ble_eq_true rfl) (Nat.le_of_ble_eq_true rfl)).trans rfl)))))
set_option maxRecDepth 4000 in
theorem zc_DM_57 {cs : Nat → ClassId} {ad : Nat → Nat} {S : Nat → va_E} : z_DM cs ad S 57 = tw_sh cs ad (tw_lay 57) (M0 57) := by
  unfold z_DM
  exact (tb_up_ne (Nat.ne_of_beq_eq_false rfl)).trans ((tb_up_ne (Nat.ne_of_beq_eq_false rfl)).trans ((tb_up_ne (Nat.ne_of_beq_eq_false rfl)).trans ((tb_up_ne (Nat.ne_of_beq_eq_false rfl)).trans ((tb_up_ne (Nat.ne_of_beq_eq_false rfl)).trans ((tb_mat_i (Nat.le_of_ble_eq_true rfl) (Nat.le_of_ble_eq_true rfl)).trans rfl)))))
set_option maxRecDepth 4000 in
theorem zc_DM_58 {cs : Nat → ClassId} {ad : Nat → Nat} {S : Nat → va_E} : z_DM cs ad S 58 = tw_sh cs ad (tw_lay 58) (M0 58) := by
  unfold z_DM
  exact (tb_up_ne (Nat.ne_of_beq_eq_false rfl)).trans ((tb_up_ne (Nat.ne_of_beq_eq_false rfl)).trans ((tb_up_ne (Nat.ne_of_beq_eq_false rfl)).trans ((tb_up_ne (Nat.ne_of_beq_eq_false rfl)).trans ((tb_up_ne (Nat.ne_of_beq_eq_false rfl)).trans ((tb_mat_i (Nat.le_of_ble_eq_true rfl) (Nat.le_of_ble_eq_true rfl)).trans rfl)))))
set_option maxRecDepth 4000 in
theorem zc_DM_59 {cs : Nat → ClassId} {ad : Nat → Nat} {S : Nat → va_E} : z_DM cs ad S 59 = tw_sh cs ad (tw_lay 59) (M0 59) := by
  unfold z_DM
  exact (tb_up_ne (Nat.ne_of_beq_eq_false rfl)).trans ((tb_up_ne (Nat.ne_of_beq_eq_false rfl)).trans ((tb_up_ne (Nat.ne_of_beq_eq_false rfl)).trans ((tb_up_ne (Nat.ne_of_beq_eq_false rfl)).trans ((tb_up_ne (Nat.ne_of_beq_eq_false rfl)).trans ((tb_mat_i (Nat.le_of_ble_eq_true rfl) (Nat.le_of_ble_eq_true rfl)).trans rfl)))))
set_option maxRecDepth 4000 in
theorem zc_DM_60 {cs : Nat → ClassId} {ad : Nat → Nat} {S : Nat → va_E} : z_DM cs ad S 60 = tw_sh cs ad (tw_lay 60) (M0 60) := by
  unfold z_DM
  exact (tb_up_ne (Nat.ne_of_beq_eq_false rfl)).trans ((tb_up_ne (Nat.ne_of_beq_eq_false rfl)).trans ((tb_up_ne (Nat.ne_of_beq_eq_false rfl)).trans ((tb_up_ne (Nat.ne_of_beq_eq_false rfl)).trans ((tb_up_ne (Nat.ne_of_beq_eq_false rfl)).trans ((tb_mat_i (Nat.le_of_ble_eq_true rfl) (Nat.le_of_ble_eq_true rfl)).trans rfl)))))
set_option maxRecDepth 4000 in
theorem zc_DM_61 {cs : Nat → ClassId} {ad : Nat → Nat} {S : Nat → va_E} : z_DM cs ad S 61 = tw_sh cs ad (tw_lay 61) (M0 61) := by
  unfold z_DM
  exact (tb_up_ne (Nat.ne_of_beq_eq_false rfl)).trans ((tb_up_ne (Nat.ne_of_beq_eq_false rfl)).trans ((tb_up_ne (Nat.ne_of_beq_eq_false rfl)).trans ((tb_up_ne (Nat.ne_of_beq_eq_false rfl)).trans ((tb_up_ne (Nat.ne_of_beq_eq_false rfl)).trans ((tb_mat_i (Nat.le_of_ble_eq_true rfl) (Nat.le_of_ble_eq_true rfl)).trans rfl)))))
set_option maxRecDepth 4000 in
theorem zc_DM_62 {cs : Nat → ClassId} {ad : Nat → Nat} {S : Nat → va_E} : z_DM cs ad S 62 = tw_sh cs ad (tw_lay 62) (M0 62) := by
  unfold z_DM
  exact (tb_up_ne (Nat.ne_of_beq_eq_false rfl)).trans ((tb_up_ne (Nat.ne_of_beq_eq_false rfl)).trans ((tb_up_ne (Nat.ne_of_beq_eq_false rfl)).trans ((tb_up_ne (Nat.ne_of_beq_eq_false rfl)).trans ((tb_up_ne (Nat.ne_of_beq_eq_false rfl)).trans ((tb_mat_i (Nat.le_of_ble_eq_true rfl) (Nat.le_of_ble_eq_true rfl)).trans rfl)))))
set_option maxRecDepth 4000 in
theorem zc_DM_63 {cs : Nat → ClassId} {ad : Nat → Nat} {S : Nat → va_E} : z_DM cs ad S 63 = tw_sh cs ad (tw_lay 63) (M0 63) := by
  unfold z_DM
  exact (tb_up_ne (Nat.ne_of_beq_eq_false rfl)).trans ((tb_up_ne (Nat.ne_of_beq_eq_false rfl)).trans ((tb_up_ne (Nat.ne_of_beq_eq_false rfl)).trans ((tb_up_ne (Nat.ne_of_beq_eq_false rfl)).trans ((tb_up_ne (Nat.ne_of_beq_eq_false rfl)).trans ((tb_mat_i (Nat.le_of_ble_eq_true rfl) (Nat.le_of_ble_eq_true rfl)).trans rfl)))))
set_option maxRecDepth 4000 in
theorem zc_DM_64 {cs : Nat → ClassId} {ad : Nat → Nat} {S : Nat → va_E} : z_DM cs ad S 64 = tw_sh cs ad (tw_lay 64) (M0 64) := by
  unfold z_DM
  exact (tb_up_ne (Nat.ne_of_beq_eq_false rfl)).trans ((tb_up_ne (Nat.ne_of_beq_eq_false rfl)).trans ((tb_up_ne (Nat.ne_of_beq_eq_false rfl)).trans ((tb_up_ne (Nat.ne_of_beq_eq_false rfl)).trans ((tb_up_ne (Nat.ne_of_beq_eq_false rfl)).trans ((tb_mat_i (Nat.le_of_ble_eq_true rfl) (Nat.le_of_ble_eq_true rfl)).trans rfl)))))
set_option maxRecDepth 4000 in
theorem zc_DM_65 {cs : Nat → ClassId} {ad : Nat → Nat} {S : Nat → va_E} : z_DM cs ad S 65 = tw_sh cs ad (tw_lay 65) (M0 65) := by
  unfold z_DM
  exact (tb_up_ne (Nat.ne_of_beq_eq_false rfl)).trans ((tb_up_ne (Nat.ne_of_beq_eq_false rfl)).trans ((tb_up_ne (Nat.ne_of_beq_eq_false rfl)).trans (tb_up_eq.trans rfl)))
set_option maxRecDepth 4000 in
theorem zc_DM_66 {cs : Nat → ClassId} {ad : Nat → Nat} {S : Nat → va_E} : z_DM cs ad S 66 = tw_sh cs ad (tw_lay 66) (M0 66) := by
  unfold z_DM
  exact (tb_up_ne (Nat.ne_of_beq_eq_false rfl)).trans (tb_up_eq.trans rfl)
set_option maxRecDepth 4000 in
theorem zo_CF {cs : Nat → ClassId} {ad : Nat → Nat} {S : Nat → va_E} {q : Nat} (h : q ≠ 67) (h2 : q < 68 ∨ 70 ≤ q) : z_CF cs ad S q = S q := by
  unfold z_CF
  exact (tb_up_ne h).trans ((tb_up_ne h).trans ((tb_up_ne (by omega)).trans ((tb_up_ne h).trans (tb_up_ne (by omega)))))
set_option maxRecDepth 4000 in
theorem zc_CF_67 {cs : Nat → ClassId} {ad : Nat → Nat} {S : Nat → va_E} : z_CF cs ad S 67 = tw_sh cs ad (tw_lay 67) (M0 67) := by
  unfold z_CF
  exact tb_up_eq.trans rfl
set_option maxRecDepth 4000 in
theorem zc_CF_68 {cs : Nat → ClassId} {ad : Nat → Nat} {S : Nat → va_E} : z_CF cs ad S 68 = tw_sh cs ad (tw_lay 68) (M0 68) := by
  unfold z_CF
  exact (tb_up_ne (Nat.ne_of_beq_eq_false rfl)).trans ((tb_up_ne (Nat.ne_of_beq_eq_false rfl)).trans ((tb_up_ne (Nat.ne_of_beq_eq_false rfl)).trans ((tb_up_ne (Nat.ne_of_beq_eq_false rfl)).trans (tb_up_eq.trans rfl))))
set_option maxRecDepth 4000 in
theorem zc_CF_69 {cs : Nat → ClassId} {ad : Nat → Nat} {S : Nat → va_E} : z_CF cs ad S 69 = tw_sh cs ad (tw_lay 69) (M0 69) := by
  unfold z_CF
  exact (tb_up_ne (Nat.ne_of_beq_eq_false rfl)).trans ((tb_up_ne (Nat.ne_of_beq_eq_false rfl)).trans (tb_up_eq.trans rfl))
set_option maxRecDepth 4000 in
theorem zo_RW71 {cs : Nat → ClassId} {ad : Nat → Nat} {S : Nat → va_E} {q : Nat} (h : q ≠ 71) (h2 : q < 72 ∨ 76 ≤ q) : z_RW71 cs ad S q = S q := by
  unfold z_RW71
  exact (tb_up_ne h).trans ((tb_up_ne h).trans ((tb_up_ne (by omega)).trans ((tb_up_ne h).trans ((tb_up_ne (by omega)).trans ((tb_up_ne h).trans ((tb_up_ne (by omega)).trans ((tb_up_ne h).trans (tb_up_ne (by omega)))))))))
set_option maxRecDepth 4000 in
theorem zc_RW71_71 {cs : Nat → ClassId} {ad : Nat → Nat} {S : Nat → va_E} : z_RW71 cs ad S 71 = tw_sh cs ad (tw_lay 71) (M0 71) := by
  unfold z_RW71
  exact tb_up_eq.trans rfl
set_option maxRecDepth 4000 in
theorem zc_RW71_72 {cs : Nat → ClassId} {ad : Nat → Nat} {S : Nat → va_E} : z_RW71 cs ad S 72 = tw_sh cs ad (tw_lay 72) (M0 72) := by
  unfold z_RW71
  exact (tb_up_ne (Nat.ne_of_beq_eq_false rfl)).trans ((tb_up_ne (Nat.ne_of_beq_eq_false rfl)).trans ((tb_up_ne (Nat.ne_of_beq_eq_false rfl)).trans ((tb_up_ne (Nat.ne_of_beq_eq_false rfl)).trans ((tb_up_ne (Nat.ne_of_beq_eq_false rfl)).trans ((tb_up_ne (Nat.ne_of_beq_eq_false rfl)).trans ((tb_up_ne (Nat.ne_of_beq_eq_false rfl)).trans ((tb_up_ne (Nat.ne_of_beq_eq_false rfl)).trans (tb_up_eq.trans rfl))))))))
set_option maxRecDepth 4000 in
theorem zc_RW71_73 {cs : Nat → ClassId} {ad : Nat → Nat} {S : Nat → va_E} : z_RW71 cs ad S 73 = tw_sh cs ad (tw_lay 73) (M0 73) := by
  unfold z_RW71
  exact (tb_up_ne (Nat.ne_of_beq_eq_false rfl)).trans ((tb_up_ne (Nat.ne_of_beq_eq_false rfl)).trans ((tb_up_ne (Nat.ne_of_beq_eq_false rfl)).trans ((tb_up_ne (Nat.ne_of_beq_eq_false rfl)).trans ((tb_up_ne (Nat.ne_of_beq_eq_false rfl)).trans ((tb_up_ne (Nat.ne_of_beq_eq_false rfl)).trans (tb_up_eq.trans rfl))))))
set_option maxRecDepth 4000 in
theorem zc_RW71_74 {cs : Nat → ClassId} {ad : Nat → Nat} {S : Nat → va_E} : z_RW71 cs ad S 74 = tw_sh cs ad (tw_lay 74) (M0 74) := by
  unfold z_RW71
  exact (tb_up_ne (Nat.ne_of_beq_eq_false rfl)).trans ((tb_up_ne (Nat.ne_of_beq_eq_false rfl)).trans ((tb_up_ne (Nat.ne_of_beq_eq_false rfl)).trans ((tb_up_ne (Nat.ne_of_beq_eq_false rfl)).trans (tb_up_eq.trans rfl))))
set_option maxRecDepth 4000 in
theorem zc_RW71_75 {cs : Nat → ClassId} {ad : Nat → Nat} {S : Nat → va_E} : z_RW71 cs ad S 75 = tw_sh cs ad (tw_lay 75) (M0 75) := by
  unfold z_RW71
  exact (tb_up_ne (Nat.ne_of_beq_eq_false rfl)).trans ((tb_up_ne (Nat.ne_of_beq_eq_false rfl)).trans (tb_up_eq.trans rfl))
set_option maxRecDepth 4000 in
theorem zo_SE {cs : Nat → ClassId} {ad : Nat → Nat} {S : Nat → va_E} {q : Nat} (h : q ≠ 70) (h2 : q < 71 ∨ 82 ≤ q) : z_SE cs ad S q = S q := by
  unfold z_SE
  exact (tb_up_ne h).trans ((tb_up_ne h).trans ((tb_up_ne h).trans ((tb_up_ne (by omega)).trans ((tb_up_ne h).trans ((tb_up_ne (by omega)).trans ((tb_up_ne h).trans ((tb_up_ne (by omega)).trans ((tb_up_ne h).trans ((tb_up_ne (by omega)).trans ((tb_up_ne h).trans ((tb_up_ne (by omega)).trans ((tb_up_ne h).trans ((tb_up_ne (by omega)).trans ((tb_up_ne h).trans ((zo_RW71 (by omega) (by omega)).trans (tb_up_ne (by omega)))))))))))))))))
set_option maxRecDepth 4000 in
theorem zc_SE_70 {cs : Nat → ClassId} {ad : Nat → Nat} {S : Nat → va_E} : z_SE cs ad S 70 = tw_sh cs ad (tw_lay 70) (M0 70) := by
  unfold z_SE
  exact tb_up_eq.trans rfl
set_option maxRecDepth 4000 in
theorem zc_SE_71 {cs : Nat → ClassId} {ad : Nat → Nat} {S : Nat → va_E} : z_SE cs ad S 71 = tw_sh cs ad (tw_lay 71) (M0 71) := by
  unfold z_SE
  exact (tb_up_ne (Nat.ne_of_beq_eq_false rfl)).trans ((tb_up_ne (Nat.ne_of_beq_eq_false rfl)).trans ((tb_up_ne (Nat.ne_of_beq_eq_false rfl)).trans ((tb_up_ne (Nat.ne_of_beq_eq_false rfl)).trans ((tb_up_ne (Nat.ne_of_beq_eq_false rfl)).trans ((tb_up_ne (Nat.ne_of_beq_eq_false rfl)).trans ((tb_up_ne (Nat.ne_of_beq_eq_false rfl)).trans ((tb_up_ne (Nat.ne_of_beq_eq_false rfl)).trans ((tb_up_ne (Nat.ne_of_beq_eq_false rfl)).trans ((tb_up_ne (Nat.ne_of_beq_eq_false rfl)).trans ((tb_up_ne (Nat.ne_of_beq_eq_false rfl)).trans ((tb_up_ne (Nat.ne_of_beq_eq_false rfl)).trans ((tb_up_ne (Nat.ne_of_beq_eq_false rfl)).trans ((tb_up_ne (Nat.ne_of_beq_eq_false rfl)).trans ((tb_up_ne (Nat.ne_of_beq_eq_false rfl)).trans (zc_RW71_71)))))))))))))))
set_option maxRecDepth 4000 in
theorem zc_SE_72 {cs : Nat → ClassId} {ad : Nat → Nat} {S : Nat → va_E} : z_SE cs ad S 72 = tw_sh cs ad (tw_lay 72) (M0 72) := by
  unfold z_SE
  exact (tb_up_ne (Nat.ne_of_beq_eq_false rfl)).trans ((tb_up_ne (Nat.ne_of_beq_eq_false rfl)).trans ((tb_up_ne (Nat.ne_of_beq_eq_false rfl)).trans ((tb_up_ne (Nat.ne_of_beq_eq_false rfl)).trans ((tb_up_ne (Nat.ne_of_beq_eq_false rfl)).trans ((tb_up_ne (Nat.ne_of_beq_eq_false rfl)).trans ((tb_up_ne (Nat.ne_of_beq_eq_false rfl)).trans ((tb_up_ne (Nat.ne_of_beq_eq_false rfl)).trans ((tb_up_ne (Nat.ne_of_beq_eq_false rfl)).trans ((tb_up_ne (Nat.ne_of_beq_eq_false rfl)).trans ((tb_up_ne (Nat.ne_of_beq_eq_false rfl)).trans ((tb_up_ne (Nat.ne_of_beq_eq_false rfl)).trans ((tb_up_ne (Nat.ne_of_beq_eq_false rfl)).trans ((tb_up_ne (Nat.ne_of_beq_eq_false rfl)).trans ((tb_up_ne (Nat.ne_of_beq_eq_false rfl)).trans (zc_RW71_72)))))))))))))))
set_option maxRecDepth 4000 in
theorem zc_SE_73 {cs : Nat → ClassId} {ad : Nat → Nat} {S : Nat → va_E} : z_SE cs ad S 73 = tw_sh cs ad (tw_lay 73) (M0 73) := by
  unfold z_SE
  exact (tb_up_ne (Nat.ne_of_beq_eq_false rfl)).trans ((tb_up_ne (Nat.ne_of_beq_eq_false rfl)).trans ((tb_up_ne (Nat.ne_of_beq_eq_false rfl)).trans ((tb_up_ne (Nat.ne_of_beq_eq_false rfl)).trans ((tb_up_ne (Nat.ne_of_beq_eq_false rfl)).trans ((tb_up_ne (Nat.ne_of_beq_eq_false rfl)).trans ((tb_up_ne (Nat.ne_of_beq_eq_false rfl)).trans ((tb_up_ne (Nat.ne_of_beq_eq_false rfl)).trans ((tb_up_ne (Nat.ne_of_beq_eq_false rfl)).trans ((tb_up_ne (Nat.ne_of_beq_eq_false rfl)).trans ((tb_up_ne (Nat.ne_of_beq_eq_false rfl)).trans ((tb_up_ne (Nat.ne_of_beq_eq_false rfl)).trans ((tb_up_ne (Nat.ne_of_beq_eq_false rfl)).trans ((tb_up_ne (Nat.ne_of_beq_eq_false rfl)).trans ((tb_up_ne (Nat.ne_of_beq_eq_false rfl)).trans (zc_RW71_73)))))))))))))))
set_option maxRecDepth 4000 in
theorem zc_SE_74 {cs : Nat → ClassId} {ad : Nat → Nat} {S : Nat → va_E} : z_SE cs ad S 74 = tw_sh cs ad (tw_lay 74) (M0 74) := by
  unfold z_SE
  exact (tb_up_ne (Nat.ne_of_beq_eq_false rfl)).trans ((tb_up_ne (Nat.ne_of_beq_eq_false rfl)).trans ((tb_up_ne (Nat.ne_of_beq_eq_false rfl)).trans ((tb_up_ne (Nat.ne_of_beq_eq_false rfl)).trans ((tb_up_ne (Nat.ne_of_beq_eq_false rfl)).trans ((tb_up_ne (Nat.ne_of_beq_eq_false rfl)).trans ((tb_up_ne (Nat.ne_of_beq_eq_false rfl)).trans ((tb_up_ne (Nat.ne_of_beq_eq_false rfl)).trans ((tb_up_ne (Nat.ne_of_beq_eq_false rfl)).trans ((tb_up_ne (Nat.ne_of_beq_eq_false rfl)).trans ((tb_up_ne (Nat.ne_of_beq_eq_false rfl)).trans ((tb_up_ne (Nat.ne_of_beq_eq_false rfl)).trans ((tb_up_ne (Nat.ne_of_beq_eq_false rfl)).trans ((tb_up_ne (Nat.ne_of_beq_eq_false rfl)).trans ((tb_up_ne (Nat.ne_of_beq_eq_false rfl)).trans (zc_RW71_74)))))))))))))))
set_option maxRecDepth 4000 in
theorem zc_SE_75 {cs : Nat → ClassId} {ad : Nat → Nat} {S : Nat → va_E} : z_SE cs ad S 75 = tw_sh cs ad (tw_lay 75) (M0 75) := by
  unfold z_SE
  exact (tb_up_ne (Nat.ne_of_beq_eq_false rfl)).trans ((tb_up_ne (Nat.ne_of_beq_eq_false rfl)).trans ((tb_up_ne (Nat.ne_of_beq_eq_false rfl)).trans ((tb_up_ne (Nat.ne_of_beq_eq_false rfl)).trans ((tb_up_ne (Nat.ne_of_beq_eq_false rfl)).trans ((tb_up_ne (Nat.ne_of_beq_eq_false rfl)).trans ((tb_up_ne (Nat.ne_of_beq_eq_false rfl)).trans ((tb_up_ne (Nat.ne_of_beq_eq_false rfl)).trans ((tb_up_ne (Nat.ne_of_beq_eq_false rfl)).trans ((tb_up_ne (Nat.ne_of_beq_eq_false rfl)).trans ((tb_up_ne (Nat.ne_of_beq_eq_false rfl)).trans ((tb_up_ne (Nat.ne_of_beq_eq_false rfl)).trans ((tb_up_ne (Nat.ne_of_beq_eq_false rfl)).trans ((tb_up_ne (Nat.ne_of_beq_eq_false rfl)).trans ((tb_up_ne (Nat.ne_of_beq_eq_false rfl)).trans (zc_RW71_75)))))))))))))))
set_option maxRecDepth 4000 in
theorem zc_SE_76 {cs : Nat → ClassId} {ad : Nat → Nat} {S : Nat → va_E} : z_SE cs ad S 76 = tw_sh cs ad (tw_lay 76) (M0 76) := by
  unfold z_SE
  exact (tb_up_ne (Nat.ne_of_beq_eq_false rfl)).trans ((tb_up_ne (Nat.ne_of_beq_eq_false rfl)).trans ((tb_up_ne (Nat.ne_of_beq_eq_false rfl)).trans ((tb_up_ne (Nat.ne_of_beq_eq_false rfl)).trans ((tb_up_ne (Nat.ne_of_beq_eq_false rfl)).trans ((tb_up_ne (Nat.ne_of_beq_eq_false rfl)).trans ((tb_up_ne (Nat.ne_of_beq_eq_false rfl)).trans ((tb_up_ne (Nat.ne_of_beq_eq_false rfl)).trans ((tb_up_ne (Nat.ne_of_beq_eq_false rfl)).trans ((tb_up_ne (Nat.ne_of_beq_eq_false rfl)).trans ((tb_up_ne (Nat.ne_of_beq_eq_false rfl)).trans ((tb_up_ne (Nat.ne_of_beq_eq_false rfl)).trans ((tb_up_ne (Nat.ne_of_beq_eq_false rfl)).trans (tb_up_eq.trans rfl)))))))))))))
set_option maxRecDepth 4000 in
theorem zc_SE_77 {cs : Nat → ClassId} {ad : Nat → Nat} {S : Nat → va_E} : z_SE cs ad S 77 = tw_sh cs ad (tw_lay 77) (M0 77) := by
  unfold z_SE
  exact (tb_up_ne (Nat.ne_of_beq_eq_false rfl)).trans ((tb_up_ne (Nat.ne_of_beq_eq_false rfl)).trans ((tb_up_ne (Nat.ne_of_beq_eq_false rfl)).trans ((tb_up_ne (Nat.ne_of_beq_eq_false rfl)).trans ((tb_up_ne (Nat.ne_of_beq_eq_false rfl)).trans ((tb_up_ne (Nat.ne_of_beq_eq_false rfl)).trans ((tb_up_ne (Nat.ne_of_beq_eq_false rfl)).trans ((tb_up_ne (Nat.ne_of_beq_eq_false rfl)).trans ((tb_up_ne (Nat.ne_of_beq_eq_false rfl)).trans ((tb_up_ne (Nat.ne_of_beq_eq_false rfl)).trans ((tb_up_ne (Nat.ne_of_beq_eq_false rfl)).trans (tb_up_eq.trans rfl)))))))))))
set_option maxRecDepth 4000 in
theorem zc_SE_78 {cs : Nat → ClassId} {ad : Nat → Nat} {S : Nat → va_E} : z_SE cs ad S 78 = tw_sh cs ad (tw_lay 78) (M0 78) := by
  unfold z_SE
  exact (tb_up_ne (Nat.ne_of_beq_eq_false rfl)).trans ((tb_up_ne (Nat.ne_of_beq_eq_false rfl)).trans ((tb_up_ne (Nat.ne_of_beq_eq_false rfl)).trans ((tb_up_ne (Nat.ne_of_beq_eq_false rfl)).trans ((tb_up_ne (Nat.ne_of_beq_eq_false rfl)).trans ((tb_up_ne (Nat.ne_of_beq_eq_false rfl)).trans ((tb_up_ne (Nat.ne_of_beq_eq_false rfl)).trans ((tb_up_ne (Nat.ne_of_beq_eq_false rfl)).trans ((tb_up_ne (Nat.ne_of_beq_eq_false rfl)).trans (tb_up_eq.trans rfl)))))))))
set_option maxRecDepth 4000 in
theorem zc_SE_79 {cs : Nat → ClassId} {ad : Nat → Nat} {S : Nat → va_E} : z_SE cs ad S 79 = tw_sh cs ad (tw_lay 79) (M0 79) := by
  unfold z_SE
  exact (tb_up_ne (Nat.ne_of_beq_eq_false rfl)).trans ((tb_up_ne (Nat.ne_of_beq_eq_false rfl)).trans ((tb_up_ne (Nat.ne_of_beq_eq_false rfl)).trans ((tb_up_ne (Nat.ne_of_beq_eq_false rfl)).trans ((tb_up_ne (Nat.ne_of_beq_eq_false rfl)).trans ((tb_up_ne (Nat.ne_of_beq_eq_false rfl)).trans ((tb_up_ne (Nat.ne_of_beq_eq_false rfl)).trans (tb_up_eq.trans rfl)))))))
set_option maxRecDepth 4000 in
theorem zc_SE_80 {cs : Nat → ClassId} {ad : Nat → Nat} {S : Nat → va_E} : z_SE cs ad S 80 = tw_sh cs ad (tw_lay 80) (M0 80) := by
  unfold z_SE
  exact (tb_up_ne (Nat.ne_of_beq_eq_false rfl)).trans ((tb_up_ne (Nat.ne_of_beq_eq_false rfl)).trans ((tb_up_ne (Nat.ne_of_beq_eq_false rfl)).trans ((tb_up_ne (Nat.ne_of_beq_eq_false rfl)).trans ((tb_up_ne (Nat.ne_of_beq_eq_false rfl)).trans (tb_up_eq.trans rfl)))))
set_option maxRecDepth 4000 in
theorem zc_SE_81 {cs : Nat → ClassId} {ad : Nat → Nat} {S : Nat → va_E} : z_SE cs ad S 81 = tw_sh cs ad (tw_lay 81) (M0 81) := by
  unfold z_SE
  exact (tb_up_ne (Nat.ne_of_beq_eq_false rfl)).trans ((tb_up_ne (Nat.ne_of_beq_eq_false rfl)).trans ((tb_up_ne (Nat.ne_of_beq_eq_false rfl)).trans (tb_up_eq.trans rfl)))
set_option maxRecDepth 4000 in
theorem zo_RW83 {cs : Nat → ClassId} {ad : Nat → Nat} {S : Nat → va_E} {q : Nat} (h : q ≠ 83) (h2 : q < 84 ∨ 88 ≤ q) : z_RW83 cs ad S q = S q := by
  unfold z_RW83
  exact (tb_up_ne h).trans ((tb_up_ne h).trans ((tb_up_ne (by omega)).trans ((tb_up_ne h).trans ((tb_up_ne (by omega)).trans ((tb_up_ne h).trans ((tb_up_ne (by omega)).trans ((tb_up_ne h).trans (tb_up_ne (by omega)))))))))
set_option maxRecDepth 4000 in
theorem zc_RW83_83 {cs : Nat → ClassId} {ad : Nat → Nat} {S : Nat → va_E} : z_RW83 cs ad S 83 = tw_sh cs ad (tw_lay 83) (M0 83) := by
  unfold z_RW83
  exact tb_up_eq.trans rfl
set_option maxRecDepth 4000 in
theorem zc_RW83_84 {cs : Nat → ClassId} {ad : Nat → Nat} {S : Nat → va_E} : z_RW83 cs ad S 84 = tw_sh cs ad (tw_lay 84) (M0 84) := by
  unfold z_RW83
  exact (tb_up_ne (Nat.ne_of_beq_eq_false rfl)).trans ((tb_up_ne (Nat.ne_of_beq_eq_false rfl)).trans ((tb_up_ne (Nat.ne_of_beq_eq_false rfl)).trans ((tb_up_ne (Nat.ne_of_beq_eq_false rfl)).trans ((tb_up_ne (Nat.ne_of_beq_eq_false rfl)).trans ((tb_up_ne (Nat.ne_of_beq_eq_false rfl)).trans ((tb_up_ne (Nat.ne_of_beq_eq_false rfl)).trans ((tb_up_ne (Nat.ne_of_beq_eq_false rfl)).trans (tb_up_eq.trans rfl))))))))
set_option maxRecDepth 4000 in
theorem zc_RW83_85 {cs : Nat → ClassId} {ad : Nat → Nat} {S : Nat → va_E} : z_RW83 cs ad S 85 = tw_sh cs ad (tw_lay 85) (M0 85) := by
  unfold z_RW83
  exact (tb_up_ne (Nat.ne_of_beq_eq_false rfl)).trans ((tb_up_ne (Nat.ne_of_beq_eq_false rfl)).trans ((tb_up_ne (Nat.ne_of_beq_eq_false rfl)).trans ((tb_up_ne (Nat.ne_of_beq_eq_false rfl)).trans ((tb_up_ne (Nat.ne_of_beq_eq_false rfl)).trans ((tb_up_ne (Nat.ne_of_beq_eq_false rfl)).trans (tb_up_eq.trans rfl))))))
set_option maxRecDepth 4000 in
theorem zc_RW83_86 {cs : Nat → ClassId} {ad : Nat → Nat} {S : Nat → va_E} : z_RW83 cs ad S 86 = tw_sh cs ad (tw_lay 86) (M0 86) := by
  unfold z_RW83
  exact (tb_up_ne (Nat.ne_of_beq_eq_false rfl)).trans ((tb_up_ne (Nat.ne_of_beq_eq_false rfl)).trans ((tb_up_ne (Nat.ne_of_beq_eq_false rfl)).trans ((tb_up_ne (Nat.ne_of_beq_eq_false rfl)).trans (tb_up_eq.trans rfl))))
set_option maxRecDepth 4000 in
theorem zc_RW83_87 {cs : Nat → ClassId} {ad : Nat → Nat} {S : Nat → va_E} : z_RW83 cs ad S 87 = tw_sh cs ad (tw_lay 87) (M0 87) := by
  unfold z_RW83
  exact (tb_up_ne (Nat.ne_of_beq_eq_false rfl)).trans ((tb_up_ne (Nat.ne_of_beq_eq_false rfl)).trans (tb_up_eq.trans rfl))
set_option maxRecDepth 4000 in
theorem zo_CK {cs : Nat → ClassId} {ad : Nat → Nat} {S : Nat → va_E} {q : Nat} (h : q ≠ 82) (h2 : q < 83 ∨ 88 ≤ q) : z_CK cs ad S q = S q := by
  unfold z_CK
  exact (tb_up_ne h).trans ((tb_up_ne h).trans ((zo_RW83 (by omega) (by omega)).trans (tb_up_ne (by omega))))
set_option maxRecDepth 4000 in
theorem zc_CK_82 {cs : Nat → ClassId} {ad : Nat → Nat} {S : Nat → va_E} : z_CK cs ad S 82 = tw_sh cs ad (tw_lay 82) (M0 82) := by
  unfold z_CK
  exact tb_up_eq.trans rfl
set_option maxRecDepth 4000 in
theorem zc_CK_83 {cs : Nat → ClassId} {ad : Nat → Nat} {S : Nat → va_E} : z_CK cs ad S 83 = tw_sh cs ad (tw_lay 83) (M0 83) := by
  unfold z_CK
  exact (tb_up_ne (Nat.ne_of_beq_eq_false rfl)).trans ((tb_up_ne (Nat.ne_of_beq_eq_false rfl)).trans (zc_RW83_83))
set_option maxRecDepth 4000 in
theorem zc_CK_84 {cs : Nat → ClassId} {ad : Nat → Nat} {S : Nat → va_E} : z_CK cs ad S 84 = tw_sh cs ad (tw_lay 84) (M0 84) := by
  unfold z_CK
  exact (tb_up_ne (Nat.ne_of_beq_eq_false rfl)).trans ((tb_up_ne (Nat.ne_of_beq_eq_false rfl)).trans (zc_RW83_84))
set_option maxRecDepth 4000 in
theorem zc_CK_85 {cs : Nat → ClassId} {ad : Nat → Nat} {S : Nat → va_E} : z_CK cs ad S 85 = tw_sh cs ad (tw_lay 85) (M0 85) := by
  unfold z_CK
  exact (tb_up_ne (Nat.ne_of_beq_eq_false rfl)).trans ((tb_up_ne (Nat.ne_of_beq_eq_false rfl)).trans (zc_RW83_85))
set_option maxRecDepth 4000 in
theorem zc_CK_86 {cs : Nat → ClassId} {ad : Nat → Nat} {S : Nat → va_E} : z_CK cs ad S 86 = tw_sh cs ad (tw_lay 86) (M0 86) := by
  unfold z_CK
  exact (tb_up_ne (Nat.ne_of_beq_eq_false rfl)).trans ((tb_up_ne (Nat.ne_of_beq_eq_false rfl)).trans (zc_RW83_86))
set_option maxRecDepth 4000 in
theorem zc_CK_87 {cs : Nat → ClassId} {ad : Nat → Nat} {S : Nat → va_E} : z_CK cs ad S 87 = tw_sh cs ad (tw_lay 87) (M0 87) := by
  unfold z_CK
  exact (tb_up_ne (Nat.ne_of_beq_eq_false rfl)).trans ((tb_up_ne (Nat.ne_of_beq_eq_false rfl)).trans (zc_RW83_87))
set_option maxRecDepth 4000 in
theorem zo_TW {cs : Nat → ClassId} {ad : Nat → Nat} {S : Nat → va_E} {q : Nat} (h : q ≠ 0) (h2 : q < 1 ∨ 88 ≤ q) : z_TW cs ad S q = S q := by
  unfold z_TW
  exact (tb_up_ne h).trans ((zo_CK (by omega) (by omega)).trans ((tb_up_ne (by omega)).trans ((tb_up_ne h).trans ((zo_SE (by omega) (by omega)).trans ((tb_up_ne (by omega)).trans ((tb_up_ne h).trans ((zo_CF (by omega) (by omega)).trans ((tb_up_ne (by omega)).trans ((tb_up_ne h).trans ((zo_DM (by omega) (by omega)).trans (tb_up_ne (by omega))))))))))))
set_option maxRecDepth 4000 in
theorem zc_TW_0 {cs : Nat → ClassId} {ad : Nat → Nat} {S : Nat → va_E} : z_TW cs ad S 0 = tw_sh cs ad (tw_lay 0) (M0 0) := by
  unfold z_TW
  exact tb_up_eq.trans rfl
set_option maxRecDepth 4000 in
theorem zc_TW_1 {cs : Nat → ClassId} {ad : Nat → Nat} {S : Nat → va_E} : z_TW cs ad S 1 = tw_sh cs ad (tw_lay 1) (M0 1) := by
  unfold z_TW
  exact (tb_up_ne (Nat.ne_of_beq_eq_false rfl)).trans ((zo_CK (Nat.ne_of_beq_eq_false rfl) (Or.inl (Nat.le_of_ble_eq_true rfl))).trans ((tb_up_ne (Nat.ne_of_beq_eq_false rfl)).trans ((tb_up_ne (Nat.ne_of_beq_eq_false rfl)).trans ((zo_SE (Nat.ne_of_beq_eq_false rfl) (Or.inl (Nat.le_of_ble_eq_true rfl))).trans ((tb_up_ne (Nat.ne_of_beq_eq_false rfl)).trans ((tb_up_ne (Nat.ne_of_beq_eq_false rfl)).trans ((zo_CF (Nat.ne_of_beq_eq_false rfl) (Or.inl (Nat.le_of_ble_eq_true rfl))).trans ((tb_up_ne (Nat.ne_of_beq_eq_false rfl)).trans ((tb_up_ne (Nat.ne_of_beq_eq_false rfl)).trans (zc_DM_1))))))))))
set_option maxRecDepth 4000 in
theorem zc_TW_2 {cs : Nat → ClassId} {ad : Nat → Nat} {S : Nat → va_E} : z_TW cs ad S 2 = tw_sh cs ad (tw_lay 2) (M0 2) := by
  unfold z_TW
  exact (tb_up_ne (Nat.ne_of_beq_eq_false rfl)).trans ((zo_CK (Nat.ne_of_beq_eq_false rfl) (Or.inl (Nat.le_of_ble_eq_true rfl))).trans ((tb_up_ne (Nat.ne_of_beq_eq_false rfl)).trans ((tb_up_ne (Nat.ne_of_beq_eq_false rfl)).trans ((zo_SE (Nat.ne_of_beq_eq_false rfl) (Or.inl (Nat.le_of_ble_eq_true rfl))).trans ((tb_up_ne (Nat.ne_of_beq_eq_false rfl)).trans ((tb_up_ne (Nat.ne_of_beq_eq_false rfl)).trans ((zo_CF (Nat.ne_of_beq_eq_false rfl) (Or.inl (Nat.le_of_ble_eq_true rfl))).trans ((tb_up_ne (Nat.ne_of_beq_eq_false rfl)).trans ((tb_up_ne (Nat.ne_of_beq_eq_false rfl)).trans (zc_DM_2))))))))))
set_option maxRecDepth 4000 in
theorem zc_TW_3 {cs : Nat → ClassId} {ad : Nat → Nat} {S : Nat → va_E} : z_TW cs ad S 3 = tw_sh cs ad (tw_lay 3) (M0 3) := by
  unfold z_TW
  exact (tb_up_ne (Nat.ne_of_beq_eq_false rfl)).trans ((zo_CK (Nat.ne_of_beq_eq_false rfl) (Or.inl (Nat.le_of_ble_eq_true rfl))).trans ((tb_up_ne (Nat.ne_of_beq_eq_false rfl)).trans ((tb_up_ne (Nat.ne_of_beq_eq_false rfl)).trans ((zo_SE (Nat.ne_of_beq_eq_false rfl) (Or.inl (Nat.le_of_ble_eq_true rfl))).trans ((tb_up_ne (Nat.ne_of_beq_eq_false rfl)).trans ((tb_up_ne (Nat.ne_of_beq_eq_false rfl)).trans ((zo_CF (Nat.ne_of_beq_eq_false rfl) (Or.inl (Nat.le_of_ble_eq_true rfl))).trans ((tb_up_ne (Nat.ne_of_beq_eq_false rfl)).trans ((tb_up_ne (Nat.ne_of_beq_eq_false rfl)).trans (zc_DM_3))))))))))
set_option maxRecDepth 4000 in
theorem zc_TW_4 {cs : Nat → ClassId} {ad : Nat → Nat} {S : Nat → va_E} : z_TW cs ad S 4 = tw_sh cs ad (tw_lay 4) (M0 4) := by
  unfold z_TW
  exact (tb_up_ne (Nat.ne_of_beq_eq_false rfl)).trans ((zo_CK (Nat.ne_of_beq_eq_false rfl) (Or.inl (Nat.le_of_ble_eq_true rfl))).trans ((tb_up_ne (Nat.ne_of_beq_eq_false rfl)).trans ((tb_up_ne (Nat.ne_of_beq_eq_false rfl)).trans ((zo_SE (Nat.ne_of_beq_eq_false rfl) (Or.inl (Nat.le_of_ble_eq_true rfl))).trans ((tb_up_ne (Nat.ne_of_beq_eq_false rfl)).trans ((tb_up_ne (Nat.ne_of_beq_eq_false rfl)).trans ((zo_CF (Nat.ne_of_beq_eq_false rfl) (Or.inl (Nat.le_of_ble_eq_true rfl))).trans ((tb_up_ne (Nat.ne_of_beq_eq_false rfl)).trans ((tb_up_ne (Nat.ne_of_beq_eq_false rfl)).trans (zc_DM_4))))))))))
set_option maxRecDepth 4000 in
theorem zc_TW_5 {cs : Nat → ClassId} {ad : Nat → Nat} {S : Nat → va_E} : z_TW cs ad S 5 = tw_sh cs ad (tw_lay 5) (M0 5) := by
  unfold z_TW
  exact (tb_up_ne (Nat.ne_of_beq_eq_false rfl)).trans ((zo_CK (Nat.ne_of_beq_eq_false rfl) (Or.inl (Nat.le_of_ble_eq_true rfl))).trans ((tb_up_ne (Nat.ne_of_beq_eq_false rfl)).trans ((tb_up_ne (Nat.ne_of_beq_eq_false rfl)).trans ((zo_SE (Nat.ne_of_beq_eq_false rfl) (Or.inl (Nat.le_of_ble_eq_true rfl))).trans ((tb_up_ne (Nat.ne_of_beq_eq_false rfl)).trans ((tb_up_ne (Nat.ne_of_beq_eq_false rfl)).trans ((zo_CF (Nat.ne_of_beq_eq_false rfl) (Or.inl (Nat.le_of_ble_eq_true rfl))).trans ((tb_up_ne (Nat.ne_of_beq_eq_false rfl)).trans ((tb_up_ne (Nat.ne_of_beq_eq_false rfl)).trans (zc_DM_5))))))))))
set_option maxRecDepth 4000 in
theorem zc_TW_6 {cs : Nat → ClassId} {ad : Nat → Nat} {S : Nat → va_E} : z_TW cs ad S 6 = tw_sh cs ad (tw_lay 6) (M0 6) := by
  unfold z_TW
  exact (tb_up_ne (Nat.ne_of_beq_eq_false rfl)).trans ((zo_CK (Nat.ne_of_beq_eq_false rfl) (Or.inl (Nat.le_of_ble_eq_true rfl))).trans ((tb_up_ne (Nat.ne_of_beq_eq_false rfl)).trans ((tb_up_ne (Nat.ne_of_beq_eq_false rfl)).trans ((zo_SE (Nat.ne_of_beq_eq_false rfl) (Or.inl (Nat.le_of_ble_eq_true rfl))).trans ((tb_up_ne (Nat.ne_of_beq_eq_false rfl)).trans ((tb_up_ne (Nat.ne_of_beq_eq_false rfl)).trans ((zo_CF (Nat.ne_of_beq_eq_false rfl) (Or.inl (Nat.le_of_ble_eq_true rfl))).trans ((tb_up_ne (Nat.ne_of_beq_eq_false rfl)).trans ((tb_up_ne (Nat.ne_of_beq_eq_false rfl)).trans (zc_DM_6))))))))))
set_option maxRecDepth 4000 in
theorem zc_TW_7 {cs : Nat → ClassId} {ad : Nat → Nat} {S : Nat → va_E} : z_TW cs ad S 7 = tw_sh cs ad (tw_lay 7) (M0 7) := by
  unfold z_TW
  exact (tb_up_ne (Nat.ne_of_beq_eq_false rfl)).trans ((zo_CK (Nat.ne_of_beq_eq_false rfl) (Or.inl (Nat.le_of_ble_eq_true rfl))).trans ((tb_up_ne (Nat.ne_of_beq_eq_false rfl)).trans ((tb_up_ne (Nat.ne_of_beq_eq_false rfl)).trans ((zo_SE (Nat.ne_of_beq_eq_false rfl) (Or.inl (Nat.le_of_ble_eq_true rfl))).trans ((tb_up_ne (Nat.ne_of_beq_eq_false rfl)).trans ((tb_up_ne (Nat.ne_of_beq_eq_false rfl)).trans ((zo_CF (Nat.ne_of_beq_eq_false rfl) (Or.inl (Nat.le_of_ble_eq_true rfl))).trans ((tb_up_ne (Nat.ne_of_beq_eq_false rfl)).trans ((tb_up_ne (Nat.ne_of_beq_eq_false rfl)).trans (zc_DM_7))))))))))
set_option maxRecDepth 4000 in
theorem zc_TW_8 {cs : Nat → ClassId} {ad : Nat → Nat} {S : Nat → va_E} : z_TW cs ad S 8 = tw_sh cs ad (tw_lay 8) (M0 8) := by
  unfold z_TW
  exact (tb_up_ne (Nat.ne_of_beq_eq_false rfl)).trans ((zo_CK (Nat.ne_of_beq_eq_false rfl) (Or.inl (Nat.le_of_ble_eq_true rfl))).trans ((tb_up_ne (Nat.ne_of_beq_eq_false rfl)).trans ((tb_up_ne (Nat.ne_of_beq_eq_false rfl)).trans ((zo_SE (Nat.ne_of_beq_eq_false rfl) (Or.inl (Nat.le_of_ble_eq_true rfl))).trans ((tb_up_ne (Nat.ne_of_beq_eq_false rfl)).trans ((tb_up_ne (Nat.ne_of_beq_eq_false rfl)).trans ((zo_CF (Nat.ne_of_beq_eq_false rfl) (Or.inl (Nat.le_of_ble_eq_true rfl))).trans ((tb_up_ne (Nat.ne_of_beq_eq_false rfl)).trans ((tb_up_ne (Nat.ne_of_beq_eq_false rfl)).trans (zc_DM_8))))))))))
set_option maxRecDepth 4000 in
theorem zc_TW_9 {cs : Nat → ClassId} {ad : Nat → Nat} {S : Nat → va_E} : z_TW cs ad S 9 = tw_sh cs ad (tw_lay 9) (M0 9) := by
  unfold z_TW
  exact (tb_up_ne (Nat.ne_of_beq_eq_false rfl)).trans ((zo_CK (Nat.ne_of_beq_eq_false rfl) (Or.inl (Nat.le_of_ble_eq_true rfl))).trans ((tb_up_ne (Nat.ne_of_beq_eq_false rfl)).trans ((tb_up_ne (Nat.ne_of_beq_eq_false rfl)).trans ((zo_SE (Nat.ne_of_beq_eq_false rfl) (Or.inl (Nat.le_of_ble_eq_true rfl))).trans ((tb_up_ne (Nat.ne_of_beq_eq_false rfl)).trans ((tb_up_ne (Nat.ne_of_beq_eq_false rfl)).trans ((zo_CF (Nat.ne_of_beq_eq_false rfl) (Or.inl (Nat.le_of_ble_eq_true rfl))).trans ((tb_up_ne (Nat.ne_of_beq_eq_false rfl)).trans ((tb_up_ne (Nat.ne_of_beq_eq_false rfl)).trans (zc_DM_9))))))))))
set_option maxRecDepth 4000 in
theorem zc_TW_10 {cs : Nat → ClassId} {ad : Nat → Nat} {S : Nat → va_E} : z_TW cs ad S 10 = tw_sh cs ad (tw_lay 10) (M0 10) := by
  unfold z_TW
  exact (tb_up_ne (Nat.ne_of_beq_eq_false rfl)).trans ((zo_CK (Nat.ne_of_beq_eq_false rfl) (Or.inl (Nat.le_of_ble_eq_true rfl))).trans ((tb_up_ne (Nat.ne_of_beq_eq_false rfl)).trans ((tb_up_ne (Nat.ne_of_beq_eq_false rfl)).trans ((zo_SE (Nat.ne_of_beq_eq_false rfl) (Or.inl (Nat.le_of_ble_eq_true rfl))).trans ((tb_up_ne (Nat.ne_of_beq_eq_false rfl)).trans ((tb_up_ne (Nat.ne_of_beq_eq_false rfl)).trans ((zo_CF (Nat.ne_of_beq_eq_false rfl) (Or.inl (Nat.le_of_ble_eq_true rfl))).trans ((tb_up_ne (Nat.ne_of_beq_eq_false rfl)).trans ((tb_up_ne (Nat.ne_of_beq_eq_false rfl)).trans (zc_DM_10))))))))))
set_option maxRecDepth 4000 in
theorem zc_TW_11 {cs : Nat → ClassId} {ad : Nat → Nat} {S : Nat → va_E} : z_TW cs ad S 11 = tw_sh cs ad (tw_lay 11) (M0 11) := by
  unfold z_TW
  exact (tb_up_ne (Nat.ne_of_beq_eq_false rfl)).trans ((zo_CK (Nat.ne_of_beq_eq_false rfl) (Or.inl (Nat.le_of_ble_eq_true rfl))).trans ((tb_up_ne (Nat.ne_of_beq_eq_false rfl)).trans ((tb_up_ne (Nat.ne_of_beq_eq_false rfl)).trans ((zo_SE (Nat.ne_of_beq_eq_false rfl) (Or.inl (Nat.le_of_ble_eq_true rfl))).trans ((tb_up_ne (Nat.ne_of_beq_eq_false rfl)).trans ((tb_up_ne (Nat.ne_of_beq_eq_false rfl)).trans ((zo_CF (Nat.ne_of_beq_eq_false rfl) (Or.inl (Nat.le_of_ble_eq_true rfl))).trans ((tb_up_ne (Nat.ne_of_beq_eq_false rfl)).trans ((tb_up_ne (Nat.ne_of_beq_eq_false rfl)).trans (zc_DM_11))))))))))
set_option maxRecDepth 4000 in
theorem zc_TW_12 {cs : Nat → ClassId} {ad : Nat → Nat} {S : Nat → va_E} : z_TW cs ad S 12 = tw_sh cs ad (tw_lay 12) (M0 12) := by
  unfold z_TW
  exact (tb_up_ne (Nat.ne_of_beq_eq_false rfl)).trans ((zo_CK (Nat.ne_of_beq_eq_false rfl) (Or.inl (Nat.le_of_ble_eq_true rfl))).trans ((tb_up_ne (Nat.ne_of_beq_eq_false rfl)).trans ((tb_up_ne (Nat.ne_of_beq_eq_false rfl)).trans ((zo_SE (Nat.ne_of_beq_eq_false rfl) (Or.inl (Nat.le_of_ble_eq_true rfl))).trans ((tb_up_ne (Nat.ne_of_beq_eq_false rfl)).trans ((tb_up_ne (Nat.ne_of_beq_eq_false rfl)).trans ((zo_CF (Nat.ne_of_beq_eq_false rfl) (Or.inl (Nat.le_of_ble_eq_true rfl))).trans ((tb_up_ne (Nat.ne_of_beq_eq_false rfl)).trans ((tb_up_ne (Nat.ne_of_beq_eq_false rfl)).trans (zc_DM_12))))))))))
set_option maxRecDepth 4000 in
theorem zc_TW_13 {cs : Nat → ClassId} {ad : Nat → Nat} {S : Nat → va_E} : z_TW cs ad S 13 = tw_sh cs ad (tw_lay 13) (M0 13) := by
  unfold z_TW
  exact (tb_up_ne (Nat.ne_of_beq_eq_false rfl)).trans ((zo_CK (Nat.ne_of_beq_eq_false rfl) (Or.inl (Nat.le_of_ble_eq_true rfl))).trans ((tb_up_ne (Nat.ne_of_beq_eq_false rfl)).trans ((tb_up_ne (Nat.ne_of_beq_eq_false rfl)).trans ((zo_SE (Nat.ne_of_beq_eq_false rfl) (Or.inl (Nat.le_of_ble_eq_true rfl))).trans ((tb_up_ne (Nat.ne_of_beq_eq_false rfl)).trans ((tb_up_ne (Nat.ne_of_beq_eq_false rfl)).trans ((zo_CF (Nat.ne_of_beq_eq_false rfl) (Or.inl (Nat.le_of_ble_eq_true rfl))).trans ((tb_up_ne (Nat.ne_of_beq_eq_false rfl)).trans ((tb_up_ne (Nat.ne_of_beq_eq_false rfl)).trans (zc_DM_13))))))))))
set_option maxRecDepth 4000 in
theorem zc_TW_14 {cs : Nat → ClassId} {ad : Nat → Nat} {S : Nat → va_E} : z_TW cs ad S 14 = tw_sh cs ad (tw_lay 14) (M0 14) := by
  unfold z_TW
  exact (tb_up_ne (Nat.ne_of_beq_eq_false rfl)).trans ((zo_CK (Nat.ne_of_beq_eq_false rfl) (Or.inl (Nat.le_of_ble_eq_true rfl))).trans ((tb_up_ne (Nat.ne_of_beq_eq_false rfl)).trans ((tb_up_ne (Nat.ne_of_beq_eq_false rfl)).trans ((zo_SE (Nat.ne_of_beq_eq_false rfl) (Or.inl (Nat.le_of_ble_eq_true rfl))).trans ((tb_up_ne (Nat.ne_of_beq_eq_false rfl)).trans ((tb_up_ne (Nat.ne_of_beq_eq_false rfl)).trans ((zo_CF (Nat.ne_of_beq_eq_false rfl) (Or.inl (Nat.le_of_ble_eq_true rfl))).trans ((tb_up_ne (Nat.ne_of_beq_eq_false rfl)).trans ((tb_up_ne (Nat.ne_of_beq_eq_false rfl)).trans (zc_DM_14))))))))))
set_option maxRecDepth 4000 in
theorem zc_TW_15 {cs : Nat → ClassId} {ad : Nat → Nat} {S : Nat → va_E} : z_TW cs ad S 15 = tw_sh cs ad (tw_lay 15) (M0 15) := by
  unfold z_TW
  exact (tb_up_ne (Nat.ne_of_beq_eq_false rfl)).trans ((zo_CK (Nat.ne_of_beq_eq_false rfl) (Or.inl (Nat.le_of_ble_eq_true rfl))).trans ((tb_up_ne (Nat.ne_of_beq_eq_false rfl)).trans ((tb_up_ne (Nat.ne_of_beq_eq_false rfl)).trans ((zo_SE (Nat.ne_of_beq_eq_false rfl) (Or.inl (Nat.le_of_ble_eq_true rfl))).trans ((tb_up_ne (Nat.ne_of_beq_eq_false rfl)).trans ((tb_up_ne (Nat.ne_of_beq_eq_false rfl)).trans ((zo_CF (Nat.ne_of_beq_eq_false rfl) (Or.inl (Nat.le_of_ble_eq_true rfl))).trans ((tb_up_ne (Nat.ne_of_beq_eq_false rfl)).trans ((tb_up_ne (Nat.ne_of_beq_eq_false rfl)).trans (zc_DM_15))))))))))
set_option maxRecDepth 4000 in
theorem zc_TW_16 {cs : Nat → ClassId} {ad : Nat → Nat} {S : Nat → va_E} : z_TW cs ad S 16 = tw_sh cs ad (tw_lay 16) (M0 16) := by
  unfold z_TW
  exact (tb_up_ne (Nat.ne_of_beq_eq_false rfl)).trans ((zo_CK (Nat.ne_of_beq_eq_false rfl) (Or.inl (Nat.le_of_ble_eq_true rfl))).trans ((tb_up_ne (Nat.ne_of_beq_eq_false rfl)).trans ((tb_up_ne (Nat.ne_of_beq_eq_false rfl)).trans ((zo_SE (Nat.ne_of_beq_eq_false rfl) (Or.inl (Nat.le_of_ble_eq_true rfl))).trans ((tb_up_ne (Nat.ne_of_beq_eq_false rfl)).trans ((tb_up_ne (Nat.ne_of_beq_eq_false rfl)).trans ((zo_CF (Nat.ne_of_beq_eq_false rfl) (Or.inl (Nat.le_of_ble_eq_true rfl))).trans ((tb_up_ne (Nat.ne_of_beq_eq_false rfl)).trans ((tb_up_ne (Nat.ne_of_beq_eq_false rfl)).trans (zc_DM_16))))))))))
set_option maxRecDepth 4000 in
theorem zc_TW_17 {cs : Nat → ClassId} {ad : Nat → Nat} {S : Nat → va_E} : z_TW cs ad S 17 = tw_sh cs ad (tw_lay 17) (M0 17) := by
  unfold z_TW
  exact (tb_up_ne (Nat.ne_of_beq_eq_false rfl)).trans ((zo_CK (Nat.ne_of_beq_eq_false rfl) (Or.inl (Nat.le_of_ble_eq_true rfl))).trans ((tb_up_ne (Nat.ne_of_beq_eq_false rfl)).trans ((tb_up_ne (Nat.ne_of_beq_eq_false rfl)).trans ((zo_SE (Nat.ne_of_beq_eq_false rfl) (Or.inl (Nat.le_of_ble_eq_true rfl))).trans ((tb_up_ne (Nat.ne_of_beq_eq_false rfl)).trans ((tb_up_ne (Nat.ne_of_beq_eq_false rfl)).trans ((zo_CF (Nat.ne_of_beq_eq_false rfl) (Or.inl (Nat.le_of_ble_eq_true rfl))).trans ((tb_up_ne (Nat.ne_of_beq_eq_false rfl)).trans ((tb_up_ne (Nat.ne_of_beq_eq_false rfl)).trans (zc_DM_17))))))))))
set_option maxRecDepth 4000 in
theorem zc_TW_18 {cs : Nat → ClassId} {ad : Nat → Nat} {S : Nat → va_E} : z_TW cs ad S 18 = tw_sh cs ad (tw_lay 18) (M0 18) := by
  unfold z_TW
  exact (tb_up_ne (Nat.ne_of_beq_eq_false rfl)).trans ((zo_CK (Nat.ne_of_beq_eq_false rfl) (Or.inl (Nat.le_of_ble_eq_true rfl))).trans ((tb_up_ne (Nat.ne_of_beq_eq_false rfl)).trans ((tb_up_ne (Nat.ne_of_beq_eq_false rfl)).trans ((zo_SE (Nat.ne_of_beq_eq_false rfl) (Or.inl (Nat.le_of_ble_eq_true rfl))).trans ((tb_up_ne (Nat.ne_of_beq_eq_false rfl)).trans ((tb_up_ne (Nat.ne_of_beq_eq_false rfl)).trans ((zo_CF (Nat.ne_of_beq_eq_false rfl) (Or.inl (Nat.le_of_ble_eq_true rfl))).trans ((tb_up_ne (Nat.ne_of_beq_eq_false rfl)).trans ((tb_up_ne (Nat.ne_of_beq_eq_false rfl)).trans (zc_DM_18))))))))))
set_option maxRecDepth 4000 in
theorem zc_TW_19 {cs : Nat → ClassId} {ad : Nat → Nat} {S : Nat → va_E} : z_TW cs ad S 19 = tw_sh cs ad (tw_lay 19) (M0 19) := by
  unfold z_TW
  exact (tb_up_ne (Nat.ne_of_beq_eq_false rfl)).trans ((zo_CK (Nat.ne_of_beq_eq_false rfl) (Or.inl (Nat.le_of_ble_eq_true rfl))).trans ((tb_up_ne (Nat.ne_of_beq_eq_false rfl)).trans ((tb_up_ne (Nat.ne_of_beq_eq_false rfl)).trans ((zo_SE (Nat.ne_of_beq_eq_false rfl) (Or.inl (Nat.le_of_ble_eq_true rfl))).trans ((tb_up_ne (Nat.ne_of_beq_eq_false rfl)).trans ((tb_up_ne (Nat.ne_of_beq_eq_false rfl)).trans ((zo_CF (Nat.ne_of_beq_eq_false rfl) (Or.inl (Nat.le_of_ble_eq_true rfl))).trans ((tb_up_ne (Nat.ne_of_beq_eq_false rfl)).trans ((tb_up_ne (Nat.ne_of_beq_eq_false rfl)).trans (zc_DM_19))))))))))
set_option maxRecDepth 4000 in
theorem zc_TW_20 {cs : Nat → ClassId} {ad : Nat → Nat} {S : Nat → va_E} : z_TW cs ad S 20 = tw_sh cs ad (tw_lay 20) (M0 20) := by
  unfold z_TW
  exact (tb_up_ne (Nat.ne_of_beq_eq_false rfl)).trans ((zo_CK (Nat.ne_of_beq_eq_false rfl) (Or.inl (Nat.le_of_ble_eq_true rfl))).trans ((tb_up_ne (Nat.ne_of_beq_eq_false rfl)).trans ((tb_up_ne (Nat.ne_of_beq_eq_false rfl)).trans ((zo_SE (Nat.ne_of_beq_eq_false rfl) (Or.inl (Nat.le_of_ble_eq_true rfl))).trans ((tb_up_ne (Nat.ne_of_beq_eq_false rfl)).trans ((tb_up_ne (Nat.ne_of_beq_eq_false rfl)).trans ((zo_CF (Nat.ne_of_beq_eq_false rfl) (Or.inl (Nat.le_of_ble_eq_true rfl))).trans ((tb_up_ne (Nat.ne_of_beq_eq_false rfl)).trans ((tb_up_ne (Nat.ne_of_beq_eq_false rfl)).trans (zc_DM_20))))))))))
set_option maxRecDepth 4000 in
theorem zc_TW_21 {cs : Nat → ClassId} {ad : Nat → Nat} {S : Nat → va_E} : z_TW cs ad S 21 = tw_sh cs ad (tw_lay 21) (M0 21) := by
  unfold z_TW
  exact (tb_up_ne (Nat.ne_of_beq_eq_false rfl)).trans ((zo_CK (Nat.ne_of_beq_eq_false rfl) (Or.inl (Nat.le_of_ble_eq_true rfl))).trans ((tb_up_ne (Nat.ne_of_beq_eq_false rfl)).trans ((tb_up_ne (Nat.ne_of_beq_eq_false rfl)).trans ((zo_SE (Nat.ne_of_beq_eq_false rfl) (Or.inl (Nat.le_of_ble_eq_true rfl))).trans ((tb_up_ne (Nat.ne_of_beq_eq_false rfl)).trans ((tb_up_ne (Nat.ne_of_beq_eq_false rfl)).trans ((zo_CF (Nat.ne_of_beq_eq_false rfl) (Or.inl (Nat.le_of_ble_eq_true rfl))).trans ((tb_up_ne (Nat.ne_of_beq_eq_false rfl)).trans ((tb_up_ne (Nat.ne_of_beq_eq_false rfl)).trans (zc_DM_21))))))))))
set_option maxRecDepth 4000 in
theorem zc_TW_22 {cs : Nat → ClassId} {ad : Nat → Nat} {S : Nat → va_E} : z_TW cs ad S 22 = tw_sh cs ad (tw_lay 22) (M0 22) := by
  unfold z_TW
  exact (tb_up_ne (Nat.ne_of_beq_eq_false rfl)).trans ((zo_CK (Nat.ne_of_beq_eq_false rfl) (Or.inl (Nat.le_of_ble_eq_true rfl))).trans ((tb_up_ne (Nat.ne_of_beq_eq_false rfl)).trans ((tb_up_ne (Nat.ne_of_beq_eq_false rfl)).trans ((zo_SE (Nat.ne_of_beq_eq_false rfl) (Or.inl (Nat.le_of_ble_eq_true rfl))).trans ((tb_up_ne (Nat.ne_of_beq_eq_false rfl)).trans ((tb_up_ne (Nat.ne_of_beq_eq_false rfl)).trans ((zo_CF (Nat.ne_of_beq_eq_false rfl) (Or.inl (Nat.le_of_ble_eq_true rfl))).trans ((tb_up_ne (Nat.ne_of_beq_eq_false rfl)).trans ((tb_up_ne (Nat.ne_of_beq_eq_false rfl)).trans (zc_DM_22))))))))))
set_option maxRecDepth 4000 in
theorem zc_TW_23 {cs : Nat → ClassId} {ad : Nat → Nat} {S : Nat → va_E} : z_TW cs ad S 23 = tw_sh cs ad (tw_lay 23) (M0 23) := by
  unfold z_TW
  exact (tb_up_ne (Nat.ne_of_beq_eq_false rfl)).trans ((zo_CK (Nat.ne_of_beq_eq_false rfl) (Or.inl (Nat.le_of_ble_eq_true rfl))).trans ((tb_up_ne (Nat.ne_of_beq_eq_false rfl)).trans ((tb_up_ne (Nat.ne_of_beq_eq_false rfl)).trans ((zo_SE (Nat.ne_of_beq_eq_false rfl) (Or.inl (Nat.le_of_ble_eq_true rfl))).trans ((tb_up_ne (Nat.ne_of_beq_eq_false rfl)).trans ((tb_up_ne (Nat.ne_of_beq_eq_false rfl)).trans ((zo_CF (Nat.ne_of_beq_eq_false rfl) (Or.inl (Nat.le_of_ble_eq_true rfl))).trans ((tb_up_ne (Nat.ne_of_beq_eq_false rfl)).trans ((tb_up_ne (Nat.ne_of_beq_eq_false rfl)).trans (zc_DM_23))))))))))
set_option maxRecDepth 4000 in
theorem zc_TW_24 {cs : Nat → ClassId} {ad : Nat → Nat} {S : Nat → va_E} : z_TW cs ad S 24 = tw_sh cs ad (tw_lay 24) (M0 24) := by
  unfold z_TW
  exact (tb_up_ne (Nat.ne_of_beq_eq_false rfl)).trans ((zo_CK (Nat.ne_of_beq_eq_false rfl) (Or.inl (Nat.le_of_ble_eq_true rfl))).trans ((tb_up_ne (Nat.ne_of_beq_eq_false rfl)).trans ((tb_up_ne (Nat.ne_of_beq_eq_false rfl)).trans ((zo_SE (Nat.ne_of_beq_eq_false rfl) (Or.inl (Nat.le_of_ble_eq_true rfl))).trans ((tb_up_ne (Nat.ne_of_beq_eq_false rfl)).trans ((tb_up_ne (Nat.ne_of_beq_eq_false rfl)).trans ((zo_CF (Nat.ne_of_beq_eq_false rfl) (Or.inl (Nat.le_of_ble_eq_true rfl))).trans ((tb_up_ne (Nat.ne_of_beq_eq_false rfl)).trans ((tb_up_ne (Nat.ne_of_beq_eq_false rfl)).trans (zc_DM_24))))))))))
set_option maxRecDepth 4000 in
theorem zc_TW_25 {cs : Nat → ClassId} {ad : Nat → Nat} {S : Nat → va_E} : z_TW cs ad S 25 = tw_sh cs ad (tw_lay 25) (M0 25) := by
  unfold z_TW
  exact (tb_up_ne (Nat.ne_of_beq_eq_false rfl)).trans ((zo_CK (Nat.ne_of_beq_eq_false rfl) (Or.inl (Nat.le_of_ble_eq_true rfl))).trans ((tb_up_ne (Nat.ne_of_beq_eq_false rfl)).trans ((tb_up_ne (Nat.ne_of_beq_eq_false rfl)).trans ((zo_SE (Nat.ne_of_beq_eq_false rfl) (Or.inl (Nat.le_of_ble_eq_true rfl))).trans ((tb_up_ne (Nat.ne_of_beq_eq_false rfl)).trans ((tb_up_ne (Nat.ne_of_beq_eq_false rfl)).trans ((zo_CF (Nat.ne_of_beq_eq_false rfl) (Or.inl (Nat.le_of_ble_eq_true rfl))).trans ((tb_up_ne (Nat.ne_of_beq_eq_false rfl)).trans ((tb_up_ne (Nat.ne_of_beq_eq_false rfl)).trans (zc_DM_25))))))))))
set_option maxRecDepth 4000 in
theorem zc_TW_26 {cs : Nat → ClassId} {ad : Nat → Nat} {S : Nat → va_E} : z_TW cs ad S 26 = tw_sh cs ad (tw_lay 26) (M0 26) := by
  unfold z_TW
  exact (tb_up_ne (Nat.ne_of_beq_eq_false rfl)).trans ((zo_CK (Nat.ne_of_beq_eq_false rfl) (Or.inl (Nat.le_of_ble_eq_true rfl))).trans ((tb_up_ne (Nat.ne_of_beq_eq_false rfl)).trans ((tb_up_ne (Nat.ne_of_beq_eq_false rfl)).trans ((zo_SE (Nat.ne_of_beq_eq_false rfl) (Or.inl (Nat.le_of_ble_eq_true rfl))).trans ((tb_up_ne (Nat.ne_of_beq_eq_false rfl)).trans ((tb_up_ne (Nat.ne_of_beq_eq_false rfl)).trans ((zo_CF (Nat.ne_of_beq_eq_false rfl) (Or.inl (Nat.le_of_ble_eq_true rfl))).trans ((tb_up_ne (Nat.ne_of_beq_eq_false rfl)).trans ((tb_up_ne (Nat.ne_of_beq_eq_false rfl)).trans (zc_DM_26))))))))))
set_option maxRecDepth 4000 in
theorem zc_TW_27 {cs : Nat → ClassId} {ad : Nat → Nat} {S : Nat → va_E} : z_TW cs ad S 27 = tw_sh cs ad (tw_lay 27) (M0 27) := by
  unfold z_TW
  exact (tb_up_ne (Nat.ne_of_beq_eq_false rfl)).trans ((zo_CK (Nat.ne_of_beq_eq_false rfl) (Or.inl (Nat.le_of_ble_eq_true rfl))).trans ((tb_up_ne (Nat.ne_of_beq_eq_false rfl)).trans ((tb_up_ne (Nat.ne_of_beq_eq_false rfl)).trans ((zo_SE (Nat.ne_of_beq_eq_false rfl) (Or.inl (Nat.le_of_ble_eq_true rfl))).trans ((tb_up_ne (Nat.ne_of_beq_eq_false rfl)).trans ((tb_up_ne (Nat.ne_of_beq_eq_false rfl)).trans ((zo_CF (Nat.ne_of_beq_eq_false rfl) (Or.inl (Nat.le_of_ble_eq_true rfl))).trans ((tb_up_ne (Nat.ne_of_beq_eq_false rfl)).trans ((tb_up_ne (Nat.ne_of_beq_eq_false rfl)).trans (zc_DM_27))))))))))
set_option maxRecDepth 4000 in
theorem zc_TW_28 {cs : Nat → ClassId} {ad : Nat → Nat} {S : Nat → va_E} : z_TW cs ad S 28 = tw_sh cs ad (tw_lay 28) (M0 28) := by
  unfold z_TW
  exact (tb_up_ne (Nat.ne_of_beq_eq_false rfl)).trans ((zo_CK (Nat.ne_of_beq_eq_false rfl) (Or.inl (Nat.le_of_ble_eq_true rfl))).trans ((tb_up_ne (Nat.ne_of_beq_eq_false rfl)).trans ((tb_up_ne (Nat.ne_of_beq_eq_false rfl)).trans ((zo_SE (Nat.ne_of_beq_eq_false rfl) (Or.inl (Nat.le_of_ble_eq_true rfl))).trans ((tb_up_ne (Nat.ne_of_beq_eq_false rfl)).trans ((tb_up_ne (Nat.ne_of_beq_eq_false rfl)).trans ((zo_CF (Nat.ne_of_beq_eq_false rfl) (Or.inl (Nat.le_of_ble_eq_true rfl))).trans ((tb_up_ne (Nat.ne_of_beq_eq_false rfl)).trans ((tb_up_ne (Nat.ne_of_beq_eq_false rfl)).trans (zc_DM_28))))))))))
set_option maxRecDepth 4000 in
theorem zc_TW_29 {cs : Nat → ClassId} {ad : Nat → Nat} {S : Nat → va_E} : z_TW cs ad S 29 = tw_sh cs ad (tw_lay 29) (M0 29) := by
  unfold z_TW
  exact (tb_up_ne (Nat.ne_of_beq_eq_false rfl)).trans ((zo_CK (Nat.ne_of_beq_eq_false rfl) (Or.inl (Nat.le_of_ble_eq_true rfl))).trans ((tb_up_ne (Nat.ne_of_beq_eq_false rfl)).trans ((tb_up_ne (Nat.ne_of_beq_eq_false rfl)).trans ((zo_SE (Nat.ne_of_beq_eq_false rfl) (Or.inl (Nat.le_of_ble_eq_true rfl))).trans ((tb_up_ne (Nat.ne_of_beq_eq_false rfl)).trans ((tb_up_ne (Nat.ne_of_beq_eq_false rfl)).trans ((zo_CF (Nat.ne_of_beq_eq_false rfl) (Or.inl (Nat.le_of_ble_eq_true rfl))).trans ((tb_up_ne (Nat.ne_of_beq_eq_false rfl)).trans ((tb_up_ne (Nat.ne_of_beq_eq_false rfl)).trans (zc_DM_29))))))))))
set_option maxRecDepth 4000 in
theorem zc_TW_30 {cs : Nat → ClassId} {ad : Nat → Nat} {S : Nat → va_E} : z_TW cs ad S 30 = tw_sh cs ad (tw_lay 30) (M0 30) := by
  unfold z_TW
  exact (tb_up_ne (Nat.ne_of_beq_eq_false rfl)).trans ((zo_CK (Nat.ne_of_beq_eq_false rfl) (Or.inl (Nat.le_of_ble_eq_true rfl))).trans ((tb_up_ne (Nat.ne_of_beq_eq_false rfl)).trans ((tb_up_ne (Nat.ne_of_beq_eq_false rfl)).trans ((zo_SE (Nat.ne_of_beq_eq_false rfl) (Or.inl (Nat.le_of_ble_eq_true rfl))).trans ((tb_up_ne (Nat.ne_of_beq_eq_false rfl)).trans ((tb_up_ne (Nat.ne_of_beq_eq_false rfl)).trans ((zo_CF (Nat.ne_of_beq_eq_false rfl) (Or.inl (Nat.le_of_ble_eq_true rfl))).trans ((tb_up_ne (Nat.ne_of_beq_eq_false rfl)).trans ((tb_up_ne (Nat.ne_of_beq_eq_false rfl)).trans (zc_DM_30))))))))))
set_option maxRecDepth 4000 in
theorem zc_TW_31 {cs : Nat → ClassId} {ad : Nat → Nat} {S : Nat → va_E} : z_TW cs ad S 31 = tw_sh cs ad (tw_lay 31) (M0 31) := by
  unfold z_TW
  exact (tb_up_ne (Nat.ne_of_beq_eq_false rfl)).trans ((zo_CK (Nat.ne_of_beq_eq_false rfl) (Or.inl (Nat.le_of_ble_eq_true rfl))).trans ((tb_up_ne (Nat.ne_of_beq_eq_false rfl)).trans ((tb_up_ne (Nat.ne_of_beq_eq_false rfl)).trans ((zo_SE (Nat.ne_of_beq_eq_false rfl) (Or.inl (Nat.le_of_ble_eq_true rfl))).trans ((tb_up_ne (Nat.ne_of_beq_eq_false rfl)).trans ((tb_up_ne (Nat.ne_of_beq_eq_false rfl)).trans ((zo_CF (Nat.ne_of_beq_eq_false rfl) (Or.inl (Nat.le_of_ble_eq_true rfl))).trans ((tb_up_ne (Nat.ne_of_beq_eq_false rfl)).trans ((tb_up_ne (Nat.ne_of_beq_eq_false rfl)).trans (zc_DM_31))))))))))
set_option maxRecDepth 4000 in
theorem zc_TW_32 {cs : Nat → ClassId} {ad : Nat → Nat} {S : Nat → va_E} : z_TW cs ad S 32 = tw_sh cs ad (tw_lay 32) (M0 32) := by
  unfold z_TW
  exact (tb_up_ne (Nat.ne_of_beq_eq_false rfl)).trans ((zo_CK (Nat.ne_of_beq_eq_false rfl) (Or.inl (Nat.le_of_ble_eq_true rfl))).trans ((tb_up_ne (Nat.ne_of_beq_eq_false rfl)).trans ((tb_up_ne (Nat.ne_of_beq_eq_false rfl)).trans ((zo_SE (Nat.ne_of_beq_eq_false rfl) (Or.inl (Nat.le_of_ble_eq_true rfl))).trans ((tb_up_ne (Nat.ne_of_beq_eq_false rfl)).trans ((tb_up_ne (Nat.ne_of_beq_eq_false rfl)).trans ((zo_CF (Nat.ne_of_beq_eq_false rfl) (Or.inl (Nat.le_of_ble_eq_true rfl))).trans ((tb_up_ne (Nat.ne_of_beq_eq_false rfl)).trans ((tb_up_ne (Nat.ne_of_beq_eq_false rfl)).trans (zc_DM_32))))))))))
set_option maxRecDepth 4000 in
theorem zc_TW_33 {cs : Nat → ClassId} {ad : Nat → Nat} {S : Nat → va_E} : z_TW cs ad S 33 = tw_sh cs ad (tw_lay 33) (M0 33) := by
  unfold z_TW
  exact (tb_up_ne (Nat.ne_of_beq_eq_false rfl)).trans ((zo_CK (Nat.ne_of_beq_eq_false rfl) (Or.inl (Nat.le_of_ble_eq_true rfl))).trans ((tb_up_ne (Nat.ne_of_beq_eq_false rfl)).trans ((tb_up_ne (Nat.ne_of_beq_eq_false rfl)).trans ((zo_SE (Nat.ne_of_beq_eq_false rfl) (Or.inl (Nat.le_of_ble_eq_true rfl))).trans ((tb_up_ne (Nat.ne_of_beq_eq_false rfl)).trans ((tb_up_ne (Nat.ne_of_beq_eq_false rfl)).trans ((zo_CF (Nat.ne_of_beq_eq_false rfl) (Or.inl (Nat.le_of_ble_eq_true rfl))).trans ((tb_up_ne (Nat.ne_of_beq_eq_false rfl)).trans ((tb_up_ne (Nat.ne_of_beq_eq_false rfl)).trans (zc_DM_33))))))))))
set_option maxRecDepth 4000 in
theorem zc_TW_34 {cs : Nat → ClassId} {ad : Nat → Nat} {S : Nat → va_E} : z_TW cs ad S 34 = tw_sh cs ad (tw_lay 34) (M0 34) := by
  unfold z_TW
  exact (tb_up_ne (Nat.ne_of_beq_eq_false rfl)).trans ((zo_CK (Nat.ne_of_beq_eq_false rfl) (Or.inl (Nat.le_of_ble_eq_true rfl))).trans ((tb_up_ne (Nat.ne_of_beq_eq_false rfl)).trans ((tb_up_ne (Nat.ne_of_beq_eq_false rfl)).trans ((zo_SE (Nat.ne_of_beq_eq_false rfl) (Or.inl (Nat.le_of_ble_eq_true rfl))).trans ((tb_up_ne (Nat.ne_of_beq_eq_false rfl)).trans ((tb_up_ne (Nat.ne_of_beq_eq_false rfl)).trans ((zo_CF (Nat.ne_of_beq_eq_false rfl) (Or.inl (Nat.le_of_ble_eq_true rfl))).trans ((tb_up_ne (Nat.ne_of_beq_eq_false rfl)).trans ((tb_up_ne (Nat.ne_of_beq_eq_false rfl)).trans (zc_DM_34))))))))))
set_option maxRecDepth 4000 in
theorem zc_TW_35 {cs : Nat → ClassId} {ad : Nat → Nat} {S : Nat → va_E} : z_TW cs ad S 35 = tw_sh cs ad (tw_lay 35) (M0 35) := by
  unfold z_TW
  exact (tb_up_ne (Nat.ne_of_beq_eq_false rfl)).trans ((zo_CK (Nat.ne_of_beq_eq_false rfl) (Or.inl (Nat.le_of_ble_eq_true rfl))).trans ((tb_up_ne (Nat.ne_of_beq_eq_false rfl)).trans ((tb_up_ne (Nat.ne_of_beq_eq_false rfl)).trans ((zo_SE (Nat.ne_of_beq_eq_false rfl) (Or.inl (Nat.le_of_ble_eq_true rfl))).trans ((tb_up_ne (Nat.ne_of_beq_eq_false rfl)).trans ((tb_up_ne (Nat.ne_of_beq_eq_false rfl)).trans ((zo_CF (Nat.ne_of_beq_eq_false rfl) (Or.inl (Nat.le_of_ble_eq_true rfl))).trans ((tb_up_ne (Nat.ne_of_beq_eq_false rfl)).trans ((tb_up_ne (Nat.ne_of_beq_eq_false rfl)).trans (zc_DM_35))))))))))
set_option maxRecDepth 4000 in
theorem zc_TW_36 {cs : Nat → ClassId} {ad : Nat → Nat} {S : Nat → va_E} : z_TW cs ad S 36 = tw_sh cs ad (tw_lay 36) (M0 36) := by
  unfold z_TW
  exact (tb_up_ne (Nat.ne_of_beq_eq_false rfl)).trans ((zo_CK (Nat.ne_of_beq_eq_false rfl) (Or.inl (Nat.le_of_ble_eq_true rfl))).trans ((tb_up_ne (Nat.ne_of_beq_eq_false rfl)).trans ((tb_up_ne (Nat.ne_of_beq_eq_false rfl)).trans ((zo_SE (Nat.ne_of_beq_eq_false rfl) (Or.inl (Nat.le_of_ble_eq_true rfl))).trans ((tb_up_ne (Nat.ne_of_beq_eq_false rfl)).trans ((tb_up_ne (Nat.ne_of_beq_eq_false rfl)).trans ((zo_CF (Nat.ne_of_beq_eq_false rfl) (Or.inl (Nat.le_of_ble_eq_true rfl))).trans ((tb_up_ne (Nat.ne_of_beq_eq_false rfl)).trans ((tb_up_ne (Nat.ne_of_beq_eq_false rfl)).trans (zc_DM_36))))))))))
set_option maxRecDepth 4000 in
theorem zc_TW_37 {cs : Nat → ClassId} {ad : Nat → Nat} {S : Nat → va_E} : z_TW cs ad S 37 = tw_sh cs ad (tw_lay 37) (M0 37) := by
  unfold z_TW
  exact (tb_up_ne (Nat.ne_of_beq_eq_false rfl)).trans ((zo_CK (Nat.ne_of_beq_eq_false rfl) (Or.inl (Nat.le_of_ble_eq_true rfl))).trans ((tb_up_ne (Nat.ne_of_beq_eq_false rfl)).trans ((tb_up_ne (Nat.ne_of_beq_eq_false rfl)).trans ((zo_SE (Nat.ne_of_beq_eq_false rfl) (Or.inl (Nat.le_of_ble_eq_true rfl))).trans ((tb_up_ne (Nat.ne_of_beq_eq_false rfl)).trans ((tb_up_ne (Nat.ne_of_beq_eq_false rfl)).trans ((zo_CF (Nat.ne_of_beq_eq_false rfl) (Or.inl (Nat.le_of_ble_eq_true rfl))).trans ((tb_up_ne (Nat.ne_of_beq_eq_false rfl)).trans ((tb_up_ne (Nat.ne_of_beq_eq_false rfl)).trans (zc_DM_37))))))))))
set_option maxRecDepth 4000 in
theorem zc_TW_38 {cs : Nat → ClassId} {ad : Nat → Nat} {S : Nat → va_E} : z_TW cs ad S 38 = tw_sh cs ad (tw_lay 38) (M0 38) := by
  unfold z_TW
  exact (tb_up_ne (Nat.ne_of_beq_eq_false rfl)).trans ((zo_CK (Nat.ne_of_beq_eq_false rfl) (Or.inl (Nat.le_of_ble_eq_true rfl))).trans ((tb_up_ne (Nat.ne_of_beq_eq_false rfl)).trans ((tb_up_ne (Nat.ne_of_beq_eq_false rfl)).trans ((zo_SE (Nat.ne_of_beq_eq_false rfl) (Or.inl (Nat.le_of_ble_eq_true rfl))).trans ((tb_up_ne (Nat.ne_of_beq_eq_false rfl)).trans ((tb_up_ne (Nat.ne_of_beq_eq_false rfl)).trans ((zo_CF (Nat.ne_of_beq_eq_false rfl) (Or.inl (Nat.le_of_ble_eq_true rfl))).trans ((tb_up_ne (Nat.ne_of_beq_eq_false rfl)).trans ((tb_up_ne (Nat.ne_of_beq_eq_false rfl)).trans (zc_DM_38))))))))))
set_option maxRecDepth 4000 in
theorem zc_TW_39 {cs : Nat → ClassId} {ad : Nat → Nat} {S : Nat → va_E} : z_TW cs ad S 39 = tw_sh cs ad (tw_lay 39) (M0 39) := by
  unfold z_TW
  exact (tb_up_ne (Nat.ne_of_beq_eq_false rfl)).trans ((zo_CK (Nat.ne_of_beq_eq_false rfl) (Or.inl (Nat.le_of_ble_eq_true rfl))).trans ((tb_up_ne (Nat.ne_of_beq_eq_false rfl)).trans ((tb_up_ne (Nat.ne_of_beq_eq_false rfl)).trans ((zo_SE (Nat.ne_of_beq_eq_false rfl) (Or.inl (Nat.le_of_ble_eq_true rfl))).trans ((tb_up_ne (Nat.ne_of_beq_eq_false rfl)).trans ((tb_up_ne (Nat.ne_of_beq_eq_false rfl)).trans ((zo_CF (Nat.ne_of_beq_eq_false rfl) (Or.inl (Nat.le_of_ble_eq_true rfl))).trans ((tb_up_ne (Nat.ne_of_beq_eq_false rfl)).trans ((tb_up_ne (Nat.ne_of_beq_eq_false rfl)).trans (zc_DM_39))))))))))
set_option maxRecDepth 4000 in
theorem zc_TW_40 {cs : Nat → ClassId} {ad : Nat → Nat} {S : Nat → va_E} : z_TW cs ad S 40 = tw_sh cs ad (tw_lay 40) (M0 40) := by
  unfold z_TW
  exact (tb_up_ne (Nat.ne_of_beq_eq_false rfl)).trans ((zo_CK (Nat.ne_of_beq_eq_false rfl) (Or.inl (Nat.le_of_ble_eq_true rfl))).trans ((tb_up_ne (Nat.ne_of_beq_eq_false rfl)).trans ((tb_up_ne (Nat.ne_of_beq_eq_false rfl)).trans ((zo_SE (Nat.ne_of_beq_eq_false rfl) (Or.inl (Nat.le_of_ble_eq_true rfl))).trans ((tb_up_ne (Nat.ne_of_beq_eq_false rfl)).trans ((tb_up_ne (Nat.ne_of_beq_eq_false rfl)).trans ((zo_CF (Nat.ne_of_beq_eq_false rfl) (Or.inl (Nat.le_of_ble_eq_true rfl))).trans ((tb_up_ne (Nat.ne_of_beq_eq_false rfl)).trans ((tb_up_ne (Nat.ne_of_beq_eq_false rfl)).trans (zc_DM_40))))))))))
set_option maxRecDepth 4000 in
theorem zc_TW_41 {cs : Nat → ClassId} {ad : Nat → Nat} {S : Nat → va_E} : z_TW cs ad S 41 = tw_sh cs ad (tw_lay 41) (M0 41) := by
  unfold z_TW
  exact (tb_up_ne (Nat.ne_of_beq_eq_false rfl)).trans ((zo_CK (Nat.ne_of_beq_eq_false rfl) (Or.inl (Nat.le_of_ble_eq_true rfl))).trans ((tb_up_ne (Nat.ne_of_beq_eq_false rfl)).trans ((tb_up_ne (Nat.ne_of_beq_eq_false rfl)).trans ((zo_SE (Nat.ne_of_beq_eq_false rfl) (Or.inl (Nat.le_of_ble_eq_true rfl))).trans ((tb_up_ne (Nat.ne_of_beq_eq_false rfl)).trans ((tb_up_ne (Nat.ne_of_beq_eq_false rfl)).trans ((zo_CF (Nat.ne_of_beq_eq_false rfl) (Or.inl (Nat.le_of_ble_eq_true rfl))).trans ((tb_up_ne (Nat.ne_of_beq_eq_false rfl)).trans ((tb_up_ne (Nat.ne_of_beq_eq_false rfl)).trans (zc_DM_41))))))))))
set_option maxRecDepth 4000 in
theorem zc_TW_42 {cs : Nat → ClassId} {ad : Nat → Nat} {S : Nat → va_E} : z_TW cs ad S 42 = tw_sh cs ad (tw_lay 42) (M0 42) := by
  unfold z_TW
  exact (tb_up_ne (Nat.ne_of_beq_eq_false rfl)).trans ((zo_CK (Nat.ne_of_beq_eq_false rfl) (Or.inl (Nat.le_of_ble_eq_true rfl))).trans ((tb_up_ne (Nat.ne_of_beq_eq_false rfl)).trans ((tb_up_ne (Nat.ne_of_beq_eq_false rfl)).trans ((zo_SE (Nat.ne_of_beq_eq_false rfl) (Or.inl (Nat.le_of_ble_eq_true rfl))).trans ((tb_up_ne (Nat.ne_of_beq_eq_false rfl)).trans ((tb_up_ne (Nat.ne_of_beq_eq_false rfl)).trans ((zo_CF (Nat.ne_of_beq_eq_false rfl) (Or.inl (Nat.le_of_ble_eq_true rfl))).trans ((tb_up_ne (Nat.ne_of_beq_eq_false rfl)).trans ((tb_up_ne (Nat.ne_of_beq_eq_false rfl)).trans (zc_DM_42))))))))))
set_option maxRecDepth 4000 in
theorem zc_TW_43 {cs : Nat → ClassId} {ad : Nat → Nat} {S : Nat → va_E} : z_TW cs ad S 43 = tw_sh cs ad (tw_lay 43) (M0 43) := by
  unfold z_TW
  exact (tb_up_ne (Nat.ne_of_beq_eq_false rfl)).trans ((zo_CK (Nat.ne_of_beq_eq_false rfl) (Or.inl (Nat.le_of_ble_eq_true rfl))).trans ((tb_up_ne (Nat.ne_of_beq_eq_false rfl)).trans ((tb_up_ne (Nat.ne_of_beq_eq_false rfl)).trans ((zo_SE (Nat.ne_of_beq_eq_false rfl) (Or.inl (Nat.le_of_ble_eq_true rfl))).trans ((tb_up_ne (Nat.ne_of_beq_eq_false rfl)).trans ((tb_up_ne (Nat.ne_of_beq_eq_false rfl)).trans ((zo_CF (Nat.ne_of_beq_eq_false rfl) (Or.inl (Nat.le_of_ble_eq_true rfl))).trans ((tb_up_ne (Nat.ne_of_beq_eq_false rfl)).trans ((tb_up_ne (Nat.ne_of_beq_eq_false rfl)).trans (zc_DM_43))))))))))
set_option maxRecDepth 4000 in
theorem zc_TW_44 {cs : Nat → ClassId} {ad : Nat → Nat} {S : Nat → va_E} : z_TW cs ad S 44 = tw_sh cs ad (tw_lay 44) (M0 44) := by
  unfold z_TW
  exact (tb_up_ne (Nat.ne_of_beq_eq_false rfl)).trans ((zo_CK (Nat.ne_of_beq_eq_false rfl) (Or.inl (Nat.le_of_ble_eq_true rfl))).trans ((tb_up_ne (Nat.ne_of_beq_eq_false rfl)).trans ((tb_up_ne (Nat.ne_of_beq_eq_false rfl)).trans ((zo_SE (Nat.ne_of_beq_eq_false rfl) (Or.inl (Nat.le_of_ble_eq_true rfl))).trans ((tb_up_ne (Nat.ne_of_beq_eq_false rfl)).trans ((tb_up_ne (Nat.ne_of_beq_eq_false rfl)).trans ((zo_CF (Nat.ne_of_beq_eq_false rfl) (Or.inl (Nat.le_of_ble_eq_true rfl))).trans ((tb_up_ne (Nat.ne_of_beq_eq_false rfl)).trans ((tb_up_ne (Nat.ne_of_beq_eq_false rfl)).trans (zc_DM_44))))))))))
set_option maxRecDepth 4000 in
theorem zc_TW_45 {cs : Nat → ClassId} {ad : Nat → Nat} {S : Nat → va_E} : z_TW cs ad S 45 = tw_sh cs ad (tw_lay 45) (M0 45) := by
  unfold z_TW
  exact (tb_up_ne (Nat.ne_of_beq_eq_false rfl)).trans ((zo_CK (Nat.ne_of_beq_eq_false rfl) (Or.inl (Nat.le_of_ble_eq_true rfl))).trans ((tb_up_ne (Nat.ne_of_beq_eq_false rfl)).trans ((tb_up_ne (Nat.ne_of_beq_eq_false rfl)).trans ((zo_SE (Nat.ne_of_beq_eq_false rfl) (Or.inl (Nat.le_of_ble_eq_true rfl))).trans ((tb_up_ne (Nat.ne_of_beq_eq_false rfl)).trans ((tb_up_ne (Nat.ne_of_beq_eq_false rfl)).trans ((zo_CF (Nat.ne_of_beq_eq_false rfl) (Or.inl (Nat.le_of_ble_eq_true rfl))).trans ((tb_up_ne (Nat.ne_of_beq_eq_false rfl)).trans ((tb_up_ne (Nat.ne_of_beq_eq_false rfl)).trans (zc_DM_45))))))))))
set_option maxRecDepth 4000 in
theorem zc_TW_46 {cs : Nat → ClassId} {ad : Nat → Nat} {S : Nat → va_E} : z_TW cs ad S 46 = tw_sh cs ad (tw_lay 46) (M0 46) := by
  unfold z_TW
  exact (tb_up_ne (Nat.ne_of_beq_eq_false rfl)).trans ((zo_CK (Nat.ne_of_beq_eq_false rfl) (Or.inl (Nat.le_of_ble_eq_true rfl))).trans ((tb_up_ne (Nat.ne_of_beq_eq_false rfl)).trans ((tb_up_ne (Nat.ne_of_beq_eq_false rfl)).trans ((zo_SE (Nat.ne_of_beq_eq_false rfl) (Or.inl (Nat.le_of_ble_eq_true rfl))).trans ((tb_up_ne (Nat.ne_of_beq_eq_false rfl)).trans ((tb_up_ne (Nat.ne_of_beq_eq_false rfl)).trans ((zo_CF (Nat.ne_of_beq_eq_false rfl) (Or.inl (Nat.le_of_ble_eq_true rfl))).trans ((tb_up_ne (Nat.ne_of_beq_eq_false rfl)).trans ((tb_up_ne (Nat.ne_of_beq_eq_false rfl)).trans (zc_DM_46))))))))))
set_option maxRecDepth 4000 in
theorem zc_TW_47 {cs : Nat → ClassId} {ad : Nat → Nat} {S : Nat → va_E} : z_TW cs ad S 47 = tw_sh cs ad (tw_lay 47) (M0 47) := by
  unfold z_TW
  exact (tb_up_ne (Nat.ne_of_beq_eq_false rfl)).trans ((zo_CK (Nat.ne_of_beq_eq_false rfl) (Or.inl (Nat.le_of_ble_eq_true rfl))).trans ((tb_up_ne (Nat.ne_of_beq_eq_false rfl)).trans ((tb_up_ne (Nat.ne_of_beq_eq_false rfl)).trans ((zo_SE (Nat.ne_of_beq_eq_false rfl) (Or.inl (Nat.le_of_ble_eq_true rfl))).trans ((tb_up_ne (Nat.ne_of_beq_eq_false rfl)).trans ((tb_up_ne (Nat.ne_of_beq_eq_false rfl)).trans ((zo_CF (Nat.ne_of_beq_eq_false rfl) (Or.inl (Nat.le_of_ble_eq_true rfl))).trans ((tb_up_ne (Nat.ne_of_beq_eq_false rfl)).trans ((tb_up_ne (Nat.ne_of_beq_eq_false rfl)).trans (zc_DM_47))))))))))
set_option maxRecDepth 4000 in
theorem zc_TW_48 {cs : Nat → ClassId} {ad : Nat → Nat} {S : Nat → va_E} : z_TW cs ad S 48 = tw_sh cs ad (tw_lay 48) (M0 48) := by
  unfold z_TW
  exact (tb_up_ne (Nat.ne_of_beq_eq_false rfl)).trans ((zo_CK (Nat.ne_of_beq_eq_false rfl) (Or.inl (Nat.le_of_ble_eq_true rfl))).trans ((tb_up_ne (Nat.ne_of_beq_eq_false rfl)).trans ((tb_up_ne (Nat.ne_of_beq_eq_false rfl)).trans ((zo_SE (Nat.ne_of_beq_eq_false rfl) (Or.inl (Nat.le_of_ble_eq_true rfl))).trans ((tb_up_ne (Nat.ne_of_beq_eq_false rfl)).trans ((tb_up_ne (Nat.ne_of_beq_eq_false rfl)).trans ((zo_CF (Nat.ne_of_beq_eq_false rfl) (Or.inl (Nat.le_of_ble_eq_true rfl))).trans ((tb_up_ne (Nat.ne_of_beq_eq_false rfl)).trans ((tb_up_ne (Nat.ne_of_beq_eq_false rfl)).trans (zc_DM_48))))))))))
set_option maxRecDepth 4000 in
theorem zc_TW_49 {cs : Nat → ClassId} {ad : Nat → Nat} {S : Nat → va_E} : z_TW cs ad S 49 = tw_sh cs ad (tw_lay 49) (M0 49) := by
  unfold z_TW
  exact (tb_up_ne (Nat.ne_of_beq_eq_false rfl)).trans ((zo_CK (Nat.ne_of_beq_eq_false rfl) (Or.inl (Nat.le_of_ble_eq_true rfl))).trans ((tb_up_ne (Nat.ne_of_beq_eq_false rfl)).trans ((tb_up_ne (Nat.ne_of_beq_eq_false rfl)).trans ((zo_SE (Nat.ne_of_beq_eq_false rfl) (Or.inl (Nat.le_of_ble_eq_true rfl))).trans ((tb_up_ne (Nat.ne_of_beq_eq_false rfl)).trans ((tb_up_ne (Nat.ne_of_beq_eq_false rfl)).trans ((zo_CF (Nat.ne_of_beq_eq_false rfl) (Or.inl (Nat.le_of_ble_eq_true rfl))).trans ((tb_up_ne (Nat.ne_of_beq_eq_false rfl)).trans ((tb_up_ne (Nat.ne_of_beq_eq_false rfl)).trans (zc_DM_49))))))))))
set_option maxRecDepth 4000 in
theorem zc_TW_50 {cs : Nat → ClassId} {ad : Nat → Nat} {S : Nat → va_E} : z_TW cs ad S 50 = tw_sh cs ad (tw_lay 50) (M0 50) := by
  unfold z_TW
  exact (tb_up_ne (Nat.ne_of_beq_eq_false rfl)).trans ((zo_CK (Nat.ne_of_beq_eq_false rfl) (Or.inl (Nat.le_of_ble_eq_true rfl))).trans ((tb_up_ne (Nat.ne_of_beq_eq_false rfl)).trans ((tb_up_ne (Nat.ne_of_beq_eq_false rfl)).trans ((zo_SE (Nat.ne_of_beq_eq_false rfl) (Or.inl (Nat.le_of_ble_eq_true rfl))).trans ((tb_up_ne (Nat.ne_of_beq_eq_false rfl)).trans ((tb_up_ne (Nat.ne_of_beq_eq_false rfl)).trans ((zo_CF (Nat.ne_of_beq_eq_false rfl) (Or.inl (Nat.le_of_ble_eq_true rfl))).trans ((tb_up_ne (Nat.ne_of_beq_eq_false rfl)).trans ((tb_up_ne (Nat.ne_of_beq_eq_false rfl)).trans (zc_DM_50))))))))))
set_option maxRecDepth 4000 in
theorem zc_TW_51 {cs : Nat → ClassId} {ad : Nat → Nat} {S : Nat → va_E} : z_TW cs ad S 51 = tw_sh cs ad (tw_lay 51) (M0 51) := by
  unfold z_TW
  exact (tb_up_ne (Nat.ne_of_beq_eq_false rfl)).trans ((zo_CK (Nat.ne_of_beq_eq_false rfl) (Or.inl (Nat.le_of_ble_eq_true rfl))).trans ((tb_up_ne (Nat.ne_of_beq_eq_false rfl)).trans ((tb_up_ne (Nat.ne_of_beq_eq_false rfl)).trans ((zo_SE (Nat.ne_of_beq_eq_false rfl) (Or.inl (Nat.le_of_ble_eq_true rfl))).trans ((tb_up_ne (Nat.ne_of_beq_eq_false rfl)).trans ((tb_up_ne (Nat.ne_of_beq_eq_false rfl)).trans ((zo_CF (Nat.ne_of_beq_eq_false rfl) (Or.inl (Nat.le_of_ble_eq_true rfl))).trans ((tb_up_ne (Nat.ne_of_beq_eq_false rfl)).trans ((tb_up_ne (Nat.ne_of_beq_eq_false rfl)).trans (zc_DM_51))))))))))
set_option maxRecDepth 4000 in
theorem zc_TW_52 {cs : Nat → ClassId} {ad : Nat → Nat} {S : Nat → va_E} : z_TW cs ad S 52 = tw_sh cs ad (tw_lay 52) (M0 52) := by
  unfold z_TW
  exact (tb_up_ne (Nat.ne_of_beq_eq_false rfl)).trans ((zo_CK (Nat.ne_of_beq_eq_false rfl) (Or.inl (Nat.le_of_ble_eq_true rfl))).trans ((tb_up_ne (Nat.ne_of_beq_eq_false rfl)).trans ((tb_up_ne (Nat.ne_of_beq_eq_false rfl)).trans ((zo_SE (Nat.ne_of_beq_eq_false rfl) (Or.inl (Nat.le_of_ble_eq_true rfl))).trans ((tb_up_ne (Nat.ne_of_beq_eq_false rfl)).trans ((tb_up_ne (Nat.ne_of_beq_eq_false rfl)).trans ((zo_CF (Nat.ne_of_beq_eq_false rfl) (Or.inl (Nat.le_of_ble_eq_true rfl))).trans ((tb_up_ne (Nat.ne_of_beq_eq_false rfl)).trans ((tb_up_ne (Nat.ne_of_beq_eq_false rfl)).trans (zc_DM_52))))))))))
set_option maxRecDepth 4000 in
theorem zc_TW_53 {cs : Nat → ClassId} {ad : Nat → Nat} {S : Nat → va_E} : z_TW cs ad S 53 = tw_sh cs ad (tw_lay 53) (M0 53) := by
  unfold z_TW
  exact (tb_up_ne (Nat.ne_of_beq_eq_false rfl)).trans ((zo_CK (Nat.ne_of_beq_eq_false rfl) (Or.inl (Nat.le_of_ble_eq_true rfl))).trans ((tb_up_ne (Nat.ne_of_beq_eq_false rfl)).trans ((tb_up_ne (Nat.ne_of_beq_eq_false rfl)).trans ((zo_SE (Nat.ne_of_beq_eq_false rfl) (Or.inl (Nat.le_of_ble_eq_true rfl))).trans ((tb_up_ne (Nat.ne_of_beq_eq_false rfl)).trans ((tb_up_ne (Nat.ne_of_beq_eq_false rfl)).trans ((zo_CF (Nat.ne_of_beq_eq_false rfl) (Or.inl (Nat.le_of_ble_eq_true rfl))).trans ((tb_up_ne (Nat.ne_of_beq_eq_false rfl)).trans ((tb_up_ne (Nat.ne_of_beq_eq_false rfl)).trans (zc_DM_53))))))))))
set_option maxRecDepth 4000 in
theorem zc_TW_54 {cs : Nat → ClassId} {ad : Nat → Nat} {S : Nat → va_E} : z_TW cs ad S 54 = tw_sh cs ad (tw_lay 54) (M0 54) := by
  unfold z_TW
  exact (tb_up_ne (Nat.ne_of_beq_eq_false rfl)).trans ((zo_CK (Nat.ne_of_beq_eq_false rfl) (Or.inl (Nat.le_of_ble_eq_true rfl))).trans ((tb_up_ne (Nat.ne_of_beq_eq_false rfl)).trans ((tb_up_ne (Nat.ne_of_beq_eq_false rfl)).trans ((zo_SE (Nat.ne_of_beq_eq_false rfl) (Or.inl (Nat.le_of_ble_eq_true rfl))).trans ((tb_up_ne (Nat.ne_of_beq_eq_false rfl)).trans ((tb_up_ne (Nat.ne_of_beq_eq_false rfl)).trans ((zo_CF (Nat.ne_of_beq_eq_false rfl) (Or.inl (Nat.le_of_ble_eq_true rfl))).trans ((tb_up_ne (Nat.ne_of_beq_eq_false rfl)).trans ((tb_up_ne (Nat.ne_of_beq_eq_false rfl)).trans (zc_DM_54))))))))))
set_option maxRecDepth 4000 in
theorem zc_TW_55 {cs : Nat → ClassId} {ad : Nat → Nat} {S : Nat → va_E} : z_TW cs ad S 55 = tw_sh cs ad (tw_lay 55) (M0 55) := by
  unfold z_TW
  exact (tb_up_ne (Nat.ne_of_beq_eq_false rfl)).trans ((zo_CK (Nat.ne_of_beq_eq_false rfl) (Or.inl (Nat.le_of_ble_eq_true rfl))).trans ((tb_up_ne (Nat.ne_of_beq_eq_false rfl)).trans ((tb_up_ne (Nat.ne_of_beq_eq_false rfl)).trans ((zo_SE (Nat.ne_of_beq_eq_false rfl) (Or.inl (Nat.le_of_ble_eq_true rfl))).trans ((tb_up_ne (Nat.ne_of_beq_eq_false rfl)).trans ((tb_up_ne (Nat.ne_of_beq_eq_false rfl)).trans ((zo_CF (Nat.ne_of_beq_eq_false rfl) (Or.inl (Nat.le_of_ble_eq_true rfl))).trans ((tb_up_ne (Nat.ne_of_beq_eq_false rfl)).trans ((tb_up_ne (Nat.ne_of_beq_eq_false rfl)).trans (zc_DM_55))))))))))
set_option maxRecDepth 4000 in
theorem zc_TW_56 {cs : Nat → ClassId} {ad : Nat → Nat} {S : Nat → va_E} : z_TW cs ad S 56 = tw_sh cs ad (tw_lay 56) (M0 56) := by
  unfold z_TW
  exact (tb_up_ne (Nat.ne_of_beq_eq_false rfl)).trans ((zo_CK (Nat.ne_of_beq_eq_false rfl) (Or.inl (Nat.le_of_ble_eq_true rfl))).trans ((tb_up_ne (Nat.ne_of_beq_eq_false rfl)).trans ((tb_up_ne (Nat.ne_of_beq_eq_false rfl)).trans ((zo_SE (Nat.ne_of_beq_eq_false rfl) (Or.inl (Nat.le_of_ble_eq_true rfl))).trans ((tb_up_ne (Nat.ne_of_beq_eq_false rfl)).trans ((tb_up_ne (Nat.ne_of_beq_eq_false rfl)).trans ((zo_CF (Nat.ne_of_beq_eq_false rfl) (Or.inl (Nat.le_of_ble_eq_true rfl))).trans ((tb_up_ne (Nat.ne_of_beq_eq_false rfl)).trans ((tb_up_ne (Nat.ne_of_beq_eq_false rfl)).trans (zc_DM_56))))))))))
set_option maxRecDepth 4000 in
theorem zc_TW_57 {cs : Nat → ClassId} {ad : Nat → Nat} {S : Nat → va_E} : z_TW cs ad S 57 = tw_sh cs ad (tw_lay 57) (M0 57) := by
  unfold z_TW
  exact (tb_up_ne (Nat.ne_of_beq_eq_false rfl)).trans ((zo_CK (Nat.ne_of_beq_eq_false rfl) (Or.inl (Nat.le_of_ble_eq_true rfl))).trans ((tb_up_ne (Nat.ne_of_beq_eq_false rfl)).trans ((tb_up_ne (Nat.ne_of_beq_eq_false rfl)).trans ((zo_SE (Nat.ne_of_beq_eq_false rfl) (Or.inl (Nat.le_of_ble_eq_true rfl))).trans ((tb_up_ne (Nat.ne_of_beq_eq_false rfl)).trans ((tb_up_ne (Nat.ne_of_beq_eq_false rfl)).trans ((zo_CF (Nat.ne_of_beq_eq_false rfl) (Or.inl (Nat.le_of_ble_eq_true rfl))).trans ((tb_up_ne (Nat.ne_of_beq_eq_false rfl)).trans ((tb_up_ne (Nat.ne_of_beq_eq_false rfl)).trans (zc_DM_57))))))))))
set_option maxRecDepth 4000 in
theorem zc_TW_58 {cs : Nat → ClassId} {ad : Nat → Nat} {S : Nat → va_E} : z_TW cs ad S 58 = tw_sh cs ad (tw_lay 58) (M0 58) := by
  unfold z_TW
  exact (tb_up_ne (Nat.ne_of_beq_eq_false rfl)).trans ((zo_CK (Nat.ne_of_beq_eq_false rfl) (Or.inl (Nat.le_of_ble_eq_true rfl))).trans ((tb_up_ne (Nat.ne_of_beq_eq_false rfl)).trans ((tb_up_ne (Nat.ne_of_beq_eq_false rfl)).trans ((zo_SE (Nat.ne_of_beq_eq_false rfl) (Or.inl (Nat.le_of_ble_eq_true rfl))).trans ((tb_up_ne (Nat.ne_of_beq_eq_false rfl)).trans ((tb_up_ne (Nat.ne_of_beq_eq_false rfl)).trans ((zo_CF (Nat.ne_of_beq_eq_false rfl) (Or.inl (Nat.le_of_ble_eq_true rfl))).trans ((tb_up_ne (Nat.ne_of_beq_eq_false rfl)).trans ((tb_up_ne (Nat.ne_of_beq_eq_false rfl)).trans (zc_DM_58))))))))))
set_option maxRecDepth 4000 in
theorem zc_TW_59 {cs : Nat → ClassId} {ad : Nat → Nat} {S : Nat → va_E} : z_TW cs ad S 59 = tw_sh cs ad (tw_lay 59) (M0 59) := by
  unfold z_TW
  exact (tb_up_ne (Nat.ne_of_beq_eq_false rfl)).trans ((zo_CK (Nat.ne_of_beq_eq_false rfl) (Or.inl (Nat.le_of_ble_eq_true rfl))).trans ((tb_up_ne (Nat.ne_of_beq_eq_false rfl)).trans ((tb_up_ne (Nat.ne_of_beq_eq_false rfl)).trans ((zo_SE (Nat.ne_of_beq_eq_false rfl) (Or.inl (Nat.le_of_ble_eq_true rfl))).trans ((tb_up_ne (Nat.ne_of_beq_eq_false rfl)).trans ((tb_up_ne (Nat.ne_of_beq_eq_false rfl)).trans ((zo_CF (Nat.ne_of_beq_eq_false rfl) (Or.inl (Nat.le_of_ble_eq_true rfl))).trans ((tb_up_ne (Nat.ne_of_beq_eq_false rfl)).trans ((tb_up_ne (Nat.ne_of_beq_eq_false rfl)).trans (zc_DM_59))))))))))
set_option maxRecDepth 4000 in
theorem zc_TW_60 {cs : Nat → ClassId} {ad : Nat → Nat} {S : Nat → va_E} : z_TW cs ad S 60 = tw_sh cs ad (tw_lay 60) (M0 60) := by
  unfold z_TW
  exact (tb_up_ne (Nat.ne_of_beq_eq_false rfl)).trans ((zo_CK (Nat.ne_of_beq_eq_false rfl) (Or.inl (Nat.le_of_ble_eq_true rfl))).trans ((tb_up_ne (Nat.ne_of_beq_eq_false rfl)).trans ((tb_up_ne (Nat.ne_of_beq_eq_false rfl)).trans ((zo_SE (Nat.ne_of_beq_eq_false rfl) (Or.inl (Nat.le_of_ble_eq_true rfl))).trans ((tb_up_ne (Nat.ne_of_beq_eq_false rfl)).trans ((tb_up_ne (Nat.ne_of_beq_eq_false rfl)).trans ((zo_CF (Nat.ne_of_beq_eq_false rfl) (Or.inl (Nat.le_of_ble_eq_true rfl))).trans ((tb_up_ne (Nat.ne_of_beq_eq_false rfl)).trans ((tb_up_ne (Nat.ne_of_beq_eq_false rfl)).trans (zc_DM_60))))))))))
set_option maxRecDepth 4000 in
theorem zc_TW_61 {cs : Nat → ClassId} {ad : Nat → Nat} {S : Nat → va_E} : z_TW cs ad S 61 = tw_sh cs ad (tw_lay 61) (M0 61) := by
  unfold z_TW
  exact (tb_up_ne (Nat.ne_of_beq_eq_false rfl)).trans ((zo_CK (Nat.ne_of_beq_eq_false rfl) (Or.inl (Nat.le_of_ble_eq_true rfl))).trans ((tb_up_ne (Nat.ne_of_beq_eq_false rfl)).trans ((tb_up_ne (Nat.ne_of_beq_eq_false rfl)).trans ((zo_SE (Nat.ne_of_beq_eq_false rfl) (Or.inl (Nat.le_of_ble_eq_true rfl))).trans ((tb_up_ne (Nat.ne_of_beq_eq_false rfl)).trans ((tb_up_ne (Nat.ne_of_beq_eq_false rfl)).trans ((zo_CF (Nat.ne_of_beq_eq_false rfl) (Or.inl (Nat.le_of_ble_eq_true rfl))).trans ((tb_up_ne (Nat.ne_of_beq_eq_false rfl)).trans ((tb_up_ne (Nat.ne_of_beq_eq_false rfl)).trans (zc_DM_61))))))))))
set_option maxRecDepth 4000 in
theorem zc_TW_62 {cs : Nat → ClassId} {ad : Nat → Nat} {S : Nat → va_E} : z_TW cs ad S 62 = tw_sh cs ad (tw_lay 62) (M0 62) := by
  unfold z_TW
  exact (tb_up_ne (Nat.ne_of_beq_eq_false rfl)).trans ((zo_CK (Nat.ne_of_beq_eq_false rfl) (Or.inl (Nat.le_of_ble_eq_true rfl))).trans ((tb_up_ne (Nat.ne_of_beq_eq_false rfl)).trans ((tb_up_ne (Nat.ne_of_beq_eq_false rfl)).trans ((zo_SE (Nat.ne_of_beq_eq_false rfl) (Or.inl (Nat.le_of_ble_eq_true rfl))).trans ((tb_up_ne (Nat.ne_of_beq_eq_false rfl)).trans ((tb_up_ne (Nat.ne_of_beq_eq_false rfl)).trans ((zo_CF (Nat.ne_of_beq_eq_false rfl) (Or.inl (Nat.le_of_ble_eq_true rfl))).trans ((tb_up_ne (Nat.ne_of_beq_eq_false rfl)).trans ((tb_up_ne (Nat.ne_of_beq_eq_false rfl)).trans (zc_DM_62))))))))))
set_option maxRecDepth 4000 in
theorem zc_TW_63 {cs : Nat → ClassId} {ad : Nat → Nat} {S : Nat → va_E} : z_TW cs ad S 63 = tw_sh cs ad (tw_lay 63) (M0 63) := by
  unfold z_TW
  exact (tb_up_ne (Nat.ne_of_beq_eq_false rfl)).trans ((zo_CK (Nat.ne_of_beq_eq_false rfl) (Or.inl (Nat.le_of_ble_eq_true rfl))).trans ((tb_up_ne (Nat.ne_of_beq_eq_false rfl)).trans ((tb_up_ne (Nat.ne_of_beq_eq_false rfl)).trans ((zo_SE (Nat.ne_of_beq_eq_false rfl) (Or.inl (Nat.le_of_ble_eq_true rfl))).trans ((tb_up_ne (Nat.ne_of_beq_eq_false rfl)).trans ((tb_up_ne (Nat.ne_of_beq_eq_false rfl)).trans ((zo_CF (Nat.ne_of_beq_eq_false rfl) (Or.inl (Nat.le_of_ble_eq_true rfl))).trans ((tb_up_ne (Nat.ne_of_beq_eq_false rfl)).trans ((tb_up_ne (Nat.ne_of_beq_eq_false rfl)).trans (zc_DM_63))))))))))
set_option maxRecDepth 4000 in
theorem zc_TW_64 {cs : Nat → ClassId} {ad : Nat → Nat} {S : Nat → va_E} : z_TW cs ad S 64 = tw_sh cs ad (tw_lay 64) (M0 64) := by
  unfold z_TW
  exact (tb_up_ne (Nat.ne_of_beq_eq_false rfl)).trans ((zo_CK (Nat.ne_of_beq_eq_false rfl) (Or.inl (Nat.le_of_ble_eq_true rfl))).trans ((tb_up_ne (Nat.ne_of_beq_eq_false rfl)).trans ((tb_up_ne (Nat.ne_of_beq_eq_false rfl)).trans ((zo_SE (Nat.ne_of_beq_eq_false rfl) (Or.inl (Nat.le_of_ble_eq_true rfl))).trans ((tb_up_ne (Nat.ne_of_beq_eq_false rfl)).trans ((tb_up_ne (Nat.ne_of_beq_eq_false rfl)).trans ((zo_CF (Nat.ne_of_beq_eq_false rfl) (Or.inl (Nat.le_of_ble_eq_true rfl))).trans ((tb_up_ne (Nat.ne_of_beq_eq_false rfl)).trans ((tb_up_ne (Nat.ne_of_beq_eq_false rfl)).trans (zc_DM_64))))))))))
set_option maxRecDepth 4000 in
theorem zc_TW_65 {cs : Nat → ClassId} {ad : Nat → Nat} {S : Nat → va_E} : z_TW cs ad S 65 = tw_sh cs ad (tw_lay 65) (M0 65) := by
  unfold z_TW
  exact (tb_up_ne (Nat.ne_of_beq_eq_false rfl)).trans ((zo_CK (Nat.ne_of_beq_eq_false rfl) (Or.inl (Nat.le_of_ble_eq_true rfl))).trans ((tb_up_ne (Nat.ne_of_beq_eq_false rfl)).trans ((tb_up_ne (Nat.ne_of_beq_eq_false rfl)).trans ((zo_SE (Nat.ne_of_beq_eq_false rfl) (Or.inl (Nat.le_of_ble_eq_true rfl))).trans ((tb_up_ne (Nat.ne_of_beq_eq_false rfl)).trans ((tb_up_ne (Nat.ne_of_beq_eq_false rfl)).trans ((zo_CF (Nat.ne_of_beq_eq_false rfl) (Or.inl (Nat.le_of_ble_eq_true rfl))).trans ((tb_up_ne (Nat.ne_of_beq_eq_false rfl)).trans ((tb_up_ne (Nat.ne_of_beq_eq_false rfl)).trans (zc_DM_65))))))))))
set_option maxRecDepth 4000 in
theorem zc_TW_66 {cs : Nat → ClassId} {ad : Nat → Nat} {S : Nat → va_E} : z_TW cs ad S 66 = tw_sh cs ad (tw_lay 66) (M0 66) := by
  unfold z_TW
  exact (tb_up_ne (Nat.ne_of_beq_eq_false rfl)).trans ((zo_CK (Nat.ne_of_beq_eq_false rfl) (Or.inl (Nat.le_of_ble_eq_true rfl))).trans ((tb_up_ne (Nat.ne_of_beq_eq_false rfl)).trans ((tb_up_ne (Nat.ne_of_beq_eq_false rfl)).trans ((zo_SE (Nat.ne_of_beq_eq_false rfl) (Or.inl (Nat.le_of_ble_eq_true rfl))).trans ((tb_up_ne (Nat.ne_of_beq_eq_false rfl)).trans ((tb_up_ne (Nat.ne_of_beq_eq_false rfl)).trans ((zo_CF (Nat.ne_of_beq_eq_false rfl) (Or.inl (Nat.le_of_ble_eq_true rfl))).trans ((tb_up_ne (Nat.ne_of_beq_eq_false rfl)).trans ((tb_up_ne (Nat.ne_of_beq_eq_false rfl)).trans (zc_DM_66))))))))))
set_option maxRecDepth 4000 in
theorem zc_TW_67 {cs : Nat → ClassId} {ad : Nat → Nat} {S : Nat → va_E} : z_TW cs ad S 67 = tw_sh cs ad (tw_lay 67) (M0 67) := by
  unfold z_TW
  exact (tb_up_ne (Nat.ne_of_beq_eq_false rfl)).trans ((zo_CK (Nat.ne_of_beq_eq_false rfl) (Or.inl (Nat.le_of_ble_eq_true rfl))).trans ((tb_up_ne (Nat.ne_of_beq_eq_false rfl)).trans ((tb_up_ne (Nat.ne_of_beq_eq_false rfl)).trans ((zo_SE (Nat.ne_of_beq_eq_false rfl) (Or.inl (Nat.le_of_ble_eq_true rfl))).trans ((tb_up_ne (Nat.ne_of_beq_eq_false rfl)).trans ((tb_up_ne (Nat.ne_of_beq_eq_false rfl)).trans (zc_CF_67)))))))
set_option maxRecDepth 4000 in
theorem zc_TW_68 {cs : Nat → ClassId} {ad : Nat → Nat} {S : Nat → va_E} : z_TW cs ad S 68 = tw_sh cs ad (tw_lay 68) (M0 68) := by
  unfold z_TW
  exact (tb_up_ne (Nat.ne_of_beq_eq_false rfl)).trans ((zo_CK (Nat.ne_of_beq_eq_false rfl) (Or.inl (Nat.le_of_ble_eq_true rfl))).trans ((tb_up_ne (Nat.ne_of_beq_eq_false rfl)).trans ((tb_up_ne (Nat.ne_of_beq_eq_false rfl)).trans ((zo_SE (Nat.ne_of_beq_eq_false rfl) (Or.inl (Nat.le_of_ble_eq_true rfl))).trans ((tb_up_ne (Nat.ne_of_beq_eq_false rfl)).trans ((tb_up_ne (Nat.ne_of_beq_eq_false rfl)).trans (zc_CF_68)))))))
set_option maxRecDepth 4000 in
theorem zc_TW_69 {cs : Nat → ClassId} {ad : Nat → Nat} {S : Nat → va_E} : z_TW cs ad S 69 = tw_sh cs ad (tw_lay 69) (M0 69) := by
  unfold z_TW
  exact (tb_up_ne (Nat.ne_of_beq_eq_false rfl)).trans ((zo_CK (Nat.ne_of_beq_eq_false rfl) (Or.inl (Nat.le_of_ble_eq_true rfl))).trans ((tb_up_ne (Nat.ne_of_beq_eq_false rfl)).trans ((tb_up_ne (Nat.ne_of_beq_eq_false rfl)).trans ((zo_SE (Nat.ne_of_beq_eq_false rfl) (Or.inl (Nat.le_of_ble_eq_true rfl))).trans ((tb_up_ne (Nat.ne_of_beq_eq_false rfl)).trans ((tb_up_ne (Nat.ne_of_beq_eq_false rfl)).trans (zc_CF_69)))))))
set_option maxRecDepth 4000 in
theorem zc_TW_70 {cs : Nat → ClassId} {ad : Nat → Nat} {S : Nat → va_E} : z_TW cs ad S 70 = tw_sh cs ad (tw_lay 70) (M0 70) := by
  unfold z_TW
  exact (tb_up_ne (Nat.ne_of_beq_eq_false rfl)).trans ((zo_CK (Nat.ne_of_beq_eq_false rfl) (Or.inl (Nat.le_of_ble_eq_true rfl))).trans ((tb_up_ne (Nat.ne_of_beq_eq_false rfl)).trans ((tb_up_ne (Nat.ne_of_beq_eq_false rfl)).trans (zc_SE_70))))
set_option maxRecDepth 4000 in
theorem zc_TW_71 {cs : Nat → ClassId} {ad : Nat → Nat} {S : Nat → va_E} : z_TW cs ad S 71 = tw_sh cs ad (tw_lay 71) (M0 71) := by
  unfold z_TW
  exact (tb_up_ne (Nat.ne_of_beq_eq_false rfl)).trans ((zo_CK (Nat.ne_of_beq_eq_false rfl) (Or.inl (Nat.le_of_ble_eq_true rfl))).trans ((tb_up_ne (Nat.ne_of_beq_eq_false rfl)).trans ((tb_up_ne (Nat.ne_of_beq_eq_false rfl)).trans (zc_SE_71))))
set_option maxRecDepth 4000 in
theorem zc_TW_72 {cs : Nat → ClassId} {ad : Nat → Nat} {S : Nat → va_E} : z_TW cs ad S 72 = tw_sh cs ad (tw_lay 72) (M0 72) := by
  unfold z_TW
  exact (tb_up_ne (Nat.ne_of_beq_eq_false rfl)).trans ((zo_CK (Nat.ne_of_beq_eq_false rfl) (Or.inl (Nat.le_of_ble_eq_true rfl))).trans ((tb_up_ne (Nat.ne_of_beq_eq_false rfl)).trans ((tb_up_ne (Nat.ne_of_beq_eq_false rfl)).trans (zc_SE_72))))
set_option maxRecDepth 4000 in
theorem zc_TW_73 {cs : Nat → ClassId} {ad : Nat → Nat} {S : Nat → va_E} : z_TW cs ad S 73 = tw_sh cs ad (tw_lay 73) (M0 73) := by
  unfold z_TW
  exact (tb_up_ne (Nat.ne_of_beq_eq_false rfl)).trans ((zo_CK (Nat.ne_of_beq_eq_false rfl) (Or.inl (Nat.le_of_ble_eq_true rfl))).trans ((tb_up_ne (Nat.ne_of_beq_eq_false rfl)).trans ((tb_up_ne (Nat.ne_of_beq_eq_false rfl)).trans (zc_SE_73))))
set_option maxRecDepth 4000 in
theorem zc_TW_74 {cs : Nat → ClassId} {ad : Nat → Nat} {S : Nat → va_E} : z_TW cs ad S 74 = tw_sh cs ad (tw_lay 74) (M0 74) := by
  unfold z_TW
  exact (tb_up_ne (Nat.ne_of_beq_eq_false rfl)).trans ((zo_CK (Nat.ne_of_beq_eq_false rfl) (Or.inl (Nat.le_of_ble_eq_true rfl))).trans ((tb_up_ne (Nat.ne_of_beq_eq_false rfl)).trans ((tb_up_ne (Nat.ne_of_beq_eq_false rfl)).trans (zc_SE_74))))
set_option maxRecDepth 4000 in
theorem zc_TW_75 {cs : Nat → ClassId} {ad : Nat → Nat} {S : Nat → va_E} : z_TW cs ad S 75 = tw_sh cs ad (tw_lay 75) (M0 75) := by
  unfold z_TW
  exact (tb_up_ne (Nat.ne_of_beq_eq_false rfl)).trans ((zo_CK (Nat.ne_of_beq_eq_false rfl) (Or.inl (Nat.le_of_ble_eq_true rfl))).trans ((tb_up_ne (Nat.ne_of_beq_eq_false rfl)).trans ((tb_up_ne (Nat.ne_of_beq_eq_false rfl)).trans (zc_SE_75))))
set_option maxRecDepth 4000 in
theorem zc_TW_76 {cs : Nat → ClassId} {ad : Nat → Nat} {S : Nat → va_E} : z_TW cs ad S 76 = tw_sh cs ad (tw_lay 76) (M0 76) := by
  unfold z_TW
  exact (tb_up_ne (Nat.ne_of_beq_eq_false rfl)).trans ((zo_CK (Nat.ne_of_beq_eq_false rfl) (Or.inl (Nat.le_of_ble_eq_true rfl))).trans ((tb_up_ne (Nat.ne_of_beq_eq_false rfl)).trans ((tb_up_ne (Nat.ne_of_beq_eq_false rfl)).trans (zc_SE_76))))
set_option maxRecDepth 4000 in
theorem zc_TW_77 {cs : Nat → ClassId} {ad : Nat → Nat} {S : Nat → va_E} : z_TW cs ad S 77 = tw_sh cs ad (tw_lay 77) (M0 77) := by
  unfold z_TW
  exact (tb_up_ne (Nat.ne_of_beq_eq_false rfl)).trans ((zo_CK (Nat.ne_of_beq_eq_false rfl) (Or.inl (Nat.le_of_ble_eq_true rfl))).trans ((tb_up_ne (Nat.ne_of_beq_eq_false rfl)).trans ((tb_up_ne (Nat.ne_of_beq_eq_false rfl)).trans (zc_SE_77))))
set_option maxRecDepth 4000 in
theorem zc_TW_78 {cs : Nat → ClassId} {ad : Nat → Nat} {S : Nat → va_E} : z_TW cs ad S 78 = tw_sh cs ad (tw_lay 78) (M0 78) := by
  unfold z_TW
  exact (tb_up_ne (Nat.ne_of_beq_eq_false rfl)).trans ((zo_CK (Nat.ne_of_beq_eq_false rfl) (Or.inl (Nat.le_of_ble_eq_true rfl))).trans ((tb_up_ne (Nat.ne_of_beq_eq_false rfl)).trans ((tb_up_ne (Nat.ne_of_beq_eq_false rfl)).trans (zc_SE_78))))
set_option maxRecDepth 4000 in
theorem zc_TW_79 {cs : Nat → ClassId} {ad : Nat → Nat} {S : Nat → va_E} : z_TW cs ad S 79 = tw_sh cs ad (tw_lay 79) (M0 79) := by
  unfold z_TW
  exact (tb_up_ne (Nat.ne_of_beq_eq_false rfl)).trans ((zo_CK (Nat.ne_of_beq_eq_false rfl) (Or.inl (Nat.le_of_ble_eq_true rfl))).trans ((tb_up_ne (Nat.ne_of_beq_eq_false rfl)).trans ((tb_up_ne (Nat.ne_of_beq_eq_false rfl)).trans (zc_SE_79))))
set_option maxRecDepth 4000 in
theorem zc_TW_80 {cs : Nat → ClassId} {ad : Nat → Nat} {S : Nat → va_E} : z_TW cs ad S 80 = tw_sh cs ad (tw_lay 80) (M0 80) := by
  unfold z_TW
  exact (tb_up_ne (Nat.ne_of_beq_eq_false rfl)).trans ((zo_CK (Nat.ne_of_beq_eq_false rfl) (Or.inl (Nat.le_of_ble_eq_true rfl))).trans ((tb_up_ne (Nat.ne_of_beq_eq_false rfl)).trans ((tb_up_ne (Nat.ne_of_beq_eq_false rfl)).trans (zc_SE_80))))
set_option maxRecDepth 4000 in
theorem zc_TW_81 {cs : Nat → ClassId} {ad : Nat → Nat} {S : Nat → va_E} : z_TW cs ad S 81 = tw_sh cs ad (tw_lay 81) (M0 81) := by
  unfold z_TW
  exact (tb_up_ne (Nat.ne_of_beq_eq_false rfl)).trans ((zo_CK (Nat.ne_of_beq_eq_false rfl) (Or.inl (Nat.le_of_ble_eq_true rfl))).trans ((tb_up_ne (Nat.ne_of_beq_eq_false rfl)).trans ((tb_up_ne (Nat.ne_of_beq_eq_false rfl)).trans (zc_SE_81))))
set_option maxRecDepth 4000 in
theorem zc_TW_82 {cs : Nat → ClassId} {ad : Nat → Nat} {S : Nat → va_E} : z_TW cs ad S 82 = tw_sh cs ad (tw_lay 82) (M0 82) := by
  unfold z_TW
  exact (tb_up_ne (Nat.ne_of_beq_eq_false rfl)).trans (zc_CK_82)
set_option maxRecDepth 4000 in
theorem zc_TW_83 {cs : Nat → ClassId} {ad : Nat → Nat} {S : Nat → va_E} : z_TW cs ad S 83 = tw_sh cs ad (tw_lay 83) (M0 83) := by
  unfold z_TW
  exact (tb_up_ne (Nat.ne_of_beq_eq_false rfl)).trans (zc_CK_83)
set_option maxRecDepth 4000 in
theorem zc_TW_84 {cs : Nat → ClassId} {ad : Nat → Nat} {S : Nat → va_E} : z_TW cs ad S 84 = tw_sh cs ad (tw_lay 84) (M0 84) := by
  unfold z_TW
  exact (tb_up_ne (Nat.ne_of_beq_eq_false rfl)).trans (zc_CK_84)
set_option maxRecDepth 4000 in
theorem zc_TW_85 {cs : Nat → ClassId} {ad : Nat → Nat} {S : Nat → va_E} : z_TW cs ad S 85 = tw_sh cs ad (tw_lay 85) (M0 85) := by
  unfold z_TW
  exact (tb_up_ne (Nat.ne_of_beq_eq_false rfl)).trans (zc_CK_85)
set_option maxRecDepth 4000 in
theorem zc_TW_86 {cs : Nat → ClassId} {ad : Nat → Nat} {S : Nat → va_E} : z_TW cs ad S 86 = tw_sh cs ad (tw_lay 86) (M0 86) := by
  unfold z_TW
  exact (tb_up_ne (Nat.ne_of_beq_eq_false rfl)).trans (zc_CK_86)
set_option maxRecDepth 4000 in
theorem zc_TW_87 {cs : Nat → ClassId} {ad : Nat → Nat} {S : Nat → va_E} : z_TW cs ad S 87 = tw_sh cs ad (tw_lay 87) (M0 87) := by
  unfold z_TW
  exact (tb_up_ne (Nat.ne_of_beq_eq_false rfl)).trans (zc_CK_87)
set_option maxRecDepth 4000 in
theorem zo_MD {cs : Nat → ClassId} {ad : Nat → Nat} {S : Nat → va_E} {q : Nat} (h : q ≠ 88) (h2 : q < 89 ∨ 116 ≤ q) : z_MD cs ad S q = S q := by
  unfold z_MD
  exact (tb_up_ne h).trans ((tb_up_ne (by omega)).trans ((tb_up_ne h).trans ((tb_up_ne (by omega)).trans ((tb_up_ne h).trans ((tb_up_ne (by omega)).trans ((tb_up_ne h).trans ((tb_up_ne (by omega)).trans ((tb_up_ne h).trans ((tb_up_ne (by omega)).trans ((tb_up_ne h).trans ((tb_up_ne (by omega)).trans ((tb_up_ne h).trans ((tb_up_ne (by omega)).trans ((tb_up_ne h).trans ((tb_up_ne (by omega)).trans ((tb_up_ne h).trans ((tb_up_ne (by omega)).trans ((tb_up_ne h).trans ((tb_up_ne (by omega)).trans ((tb_up_ne h).trans ((tb_up_ne (by omega)).trans ((tb_up_ne h).trans ((tb_up_ne (by omega)).trans ((tb_up_ne h).trans ((tb_up_ne (by omega)).trans ((tb_up_ne h).trans ((tb_up_ne (by omega)).trans ((tb_up_ne h).trans ((tb_up_ne (by omega)).trans ((tb_up_ne h).trans ((tb_up_ne (by omega)).trans ((tb_up_ne h).trans ((tb_up_ne (by omega)).trans ((tb_up_ne h).trans ((tb_up_ne (by omega)).trans ((tb_up_ne h).trans ((tb_up_ne (by omega)).trans ((tb_up_ne h).trans ((tb_up_ne (by omega)).trans ((tb_up_ne h).trans ((tb_up_ne (by omega)).trans ((tb_up_ne h).trans ((tb_up_ne (by omega)).trans ((tb_up_ne h).trans ((tb_up_ne (by omega)).trans ((tb_up_ne h).trans ((tb_up_ne (by omega)).trans ((tb_up_ne h).trans ((tb_up_ne (by omega)).trans ((tb_up_ne h).trans ((tb_up_ne (by omega)).trans ((tb_up_ne h).trans (tb_up_ne (by omega))))))))))))))))))))))))))))))))))))))))))))))))))))))
set_option maxRecDepth 4000 in
theorem zc_MD_88 {cs : Nat → ClassId} {ad : Nat → Nat} {S : Nat → va_E} : z_MD cs ad S 88 = tw_sh cs ad (tw_lay 88) (M0 88) := by
  unfold z_MD
  exact tb_up_eq.trans md_cell
set_option maxRecDepth 4000 in
theorem zc_MD_89 {cs : Nat → ClassId} {ad : Nat → Nat} {S : Nat → va_E} : z_MD cs ad S 89 = tw_sh cs ad (tw_lay 89) (M0 89) := by
  unfold z_MD
  exact (tb_up_ne (Nat.ne_of_beq_eq_false rfl)).trans ((tb_up_ne (Nat.ne_of_beq_eq_false rfl)).trans ((tb_up_ne (Nat.ne_of_beq_eq_false rfl)).trans ((tb_up_ne (Nat.ne_of_beq_eq_false rfl)).trans ((tb_up_ne (Nat.ne_of_beq_eq_false rfl)).trans ((tb_up_ne (Nat.ne_of_beq_eq_false rfl)).trans ((tb_up_ne (Nat.ne_of_beq_eq_false rfl)).trans ((tb_up_ne (Nat.ne_of_beq_eq_false rfl)).trans ((tb_up_ne (Nat.ne_of_beq_eq_false rfl)).trans ((tb_up_ne (Nat.ne_of_beq_eq_false rfl)).trans ((tb_up_ne (Nat.ne_of_beq_eq_false rfl)).trans ((tb_up_ne (Nat.ne_of_beq_eq_false rfl)).trans ((tb_up_ne (Nat.ne_of_beq_eq_false rfl)).trans ((tb_up_ne (Nat.ne_of_beq_eq_false rfl)).trans ((tb_up_ne (Nat.ne_of_beq_eq_false rfl)).trans ((tb_up_ne (Nat.ne_of_beq_eq_false rfl)).trans ((tb_up_ne (Nat.ne_of_beq_eq_false rfl)).trans ((tb_up_ne (Nat.ne_of_beq_eq_false rfl)).trans ((tb_up_ne (Nat.ne_of_beq_eq_false rfl)).trans ((tb_up_ne (Nat.ne_of_beq_eq_false rfl)).trans ((tb_up_ne (Nat.ne_of_beq_eq_false rfl)).trans ((tb_up_ne (Nat.ne_of_beq_eq_false rfl)).trans ((tb_up_ne (Nat.ne_of_beq_eq_false rfl)).trans ((tb_up_ne (Nat.ne_of_beq_eq_false rfl)).trans ((tb_up_ne (Nat.ne_of_beq_eq_false rfl)).trans ((tb_up_ne (Nat.ne_of_beq_eq_false rfl)).trans ((tb_up_ne (Nat.ne_of_beq_eq_false rfl)).trans ((tb_up_ne (Nat.ne_of_beq_eq_false rfl)).trans ((tb_up_ne (Nat.ne_of_beq_eq_false rfl)).trans ((tb_up_ne (Nat.ne_of_beq_eq_false rfl)).trans ((tb_up_ne (Nat.ne_of_beq_eq_false rfl)).trans ((tb_up_ne (Nat.ne_of_beq_eq_false rfl)).trans ((tb_up_ne (Nat.ne_of_beq_eq_false rfl)).trans ((tb_up_ne (Nat.ne_of_beq_eq_false rfl)).trans ((tb_up_ne (Nat.ne_of_beq_eq_false rfl)).trans ((tb_up_ne (Nat.ne_of_beq_eq_false rfl)).trans ((tb_up_ne (Nat.ne_of_beq_eq_false rfl)).trans ((tb_up_ne (Nat.ne_of_beq_eq_false rfl)).trans ((tb_up_ne (Nat.ne_of_beq_eq_false rfl)).trans ((tb_up_ne (Nat.ne_of_beq_eq_false rfl)).trans ((tb_up_ne (Nat.ne_of_beq_eq_false rfl)).trans ((tb_up_ne (Nat.ne_of_beq_eq_false rfl)).trans ((tb_up_ne (Nat.ne_of_beq_eq_false rfl)).trans ((tb_up_ne (Nat.ne_of_beq_eq_false rfl)).trans ((tb_up_ne (Nat.ne_of_beq_eq_false rfl)).trans ((tb_up_ne (Nat.ne_of_beq_eq_false rfl)).trans ((tb_up_ne (Nat.ne_of_beq_eq_false rfl)).trans ((tb_up_ne (Nat.ne_of_beq_eq_false rfl)).trans ((tb_up_ne (Nat.ne_of_beq_eq_false rfl)).trans ((tb_up_ne (Nat.ne_of_beq_eq_false rfl)).trans ((tb_up_ne (Nat.ne_of_beq_eq_false rfl)).trans ((tb_up_ne (Nat.ne_of_beq_eq_false rfl)).trans ((tb_up_ne (Nat.ne_of_beq_eq_false rfl)).trans (tb_up_eq.trans rfl)))))))))))))))))))))))))))))))))))))))))))))))))))))
set_option maxRecDepth 4000 in
theorem zc_MD_90 {cs : Nat → ClassId} {ad : Nat → Nat} {S : Nat → va_E} : z_MD cs ad S 90 = tw_sh cs ad (tw_lay 90) (M0 90) := by
  unfold z_MD
  exact (tb_up_ne (Nat.ne_of_beq_eq_false rfl)).trans ((tb_up_ne (Nat.ne_of_beq_eq_false rfl)).trans ((tb_up_ne (Nat.ne_of_beq_eq_false rfl)).trans ((tb_up_ne (Nat.ne_of_beq_eq_false rfl)).trans ((tb_up_ne (Nat.ne_of_beq_eq_false rfl)).trans ((tb_up_ne (Nat.ne_of_beq_eq_false rfl)).trans ((tb_up_ne (Nat.ne_of_beq_eq_false rfl)).trans ((tb_up_ne (Nat.ne_of_beq_eq_false rfl)).trans ((tb_up_ne (Nat.ne_of_beq_eq_false rfl)).trans ((tb_up_ne (Nat.ne_of_beq_eq_false rfl)).trans ((tb_up_ne (Nat.ne_of_beq_eq_false rfl)).trans ((tb_up_ne (Nat.ne_of_beq_eq_false rfl)).trans ((tb_up_ne (Nat.ne_of_beq_eq_false rfl)).trans ((tb_up_ne (Nat.ne_of_beq_eq_false rfl)).trans ((tb_up_ne (Nat.ne_of_beq_eq_false rfl)).trans ((tb_up_ne (Nat.ne_of_beq_eq_false rfl)).trans ((tb_up_ne (Nat.ne_of_beq_eq_false rfl)).trans ((tb_up_ne (Nat.ne_of_beq_eq_false rfl)).trans ((tb_up_ne (Nat.ne_of_beq_eq_false rfl)).trans ((tb_up_ne (Nat.ne_of_beq_eq_false rfl)).trans ((tb_up_ne (Nat.ne_of_beq_eq_false rfl)).trans ((tb_up_ne (Nat.ne_of_beq_eq_false rfl)).trans ((tb_up_ne (Nat.ne_of_beq_eq_false rfl)).trans ((tb_up_ne (Nat.ne_of_beq_eq_false rfl)).trans ((tb_up_ne (Nat.ne_of_beq_eq_false rfl)).trans ((tb_up_ne (Nat.ne_of_beq_eq_false rfl)).trans ((tb_up_ne (Nat.ne_of_beq_eq_false rfl)).trans ((tb_up_ne (Nat.ne_of_beq_eq_false rfl)).trans ((tb_up_ne (Nat.ne_of_beq_eq_false rfl)).trans ((tb_up_ne (Nat.ne_of_beq_eq_false rfl)).trans ((tb_up_ne (Nat.ne_of_beq_eq_false rfl)).trans ((tb_up_ne (Nat.ne_of_beq_eq_false rfl)).trans ((tb_up_ne (Nat.ne_of_beq_eq_false rfl)).trans ((tb_up_ne (Nat.ne_of_beq_eq_false rfl)).trans ((tb_up_ne (Nat.ne_of_beq_eq_false rfl)).trans ((tb_up_ne (Nat.ne_of_beq_eq_false rfl)).trans ((tb_up_ne (Nat.ne_of_beq_eq_false rfl)).trans ((tb_up_ne (Nat.ne_of_beq_eq_false rfl)).trans ((tb_up_ne (Nat.ne_of_beq_eq_false rfl)).trans ((tb_up_ne (Nat.ne_of_beq_eq_false rfl)).trans ((tb_up_ne (Nat.ne_of_beq_eq_false rfl)).trans ((tb_up_ne (Nat.ne_of_beq_eq_false rfl)).trans ((tb_up_ne (Nat.ne_of_beq_eq_false rfl)).trans ((tb_up_ne (Nat.ne_of_beq_eq_false rfl)).trans ((tb_up_ne (Nat.ne_of_beq_eq_false rfl)).trans ((tb_up_ne (Nat.ne_of_beq_eq_false rfl)).trans ((tb_up_ne (Nat.ne_of_beq_eq_false rfl)).trans ((tb_up_ne (Nat.ne_of_beq_eq_false rfl)).trans ((tb_up_ne (Nat.ne_of_beq_eq_false rfl)).trans ((tb_up_ne (Nat.ne_of_beq_eq_false rfl)).trans ((tb_up_ne (Nat.ne_of_beq_eq_false rfl)).trans (tb_up_eq.trans rfl)))))))))))))))))))))))))))))))))))))))))))))))))))
set_option maxRecDepth 4000 in
theorem zc_MD_91 {cs : Nat → ClassId} {ad : Nat → Nat} {S : Nat → va_E} : z_MD cs ad S 91 = tw_sh cs ad (tw_lay 91) (M0 91) := by
  unfold z_MD
  exact (tb_up_ne (Nat.ne_of_beq_eq_false rfl)).trans ((tb_up_ne (Nat.ne_of_beq_eq_false rfl)).trans ((tb_up_ne (Nat.ne_of_beq_eq_false rfl)).trans ((tb_up_ne (Nat.ne_of_beq_eq_false rfl)).trans ((tb_up_ne (Nat.ne_of_beq_eq_false rfl)).trans ((tb_up_ne (Nat.ne_of_beq_eq_false rfl)).trans ((tb_up_ne (Nat.ne_of_beq_eq_false rfl)).trans ((tb_up_ne (Nat.ne_of_beq_eq_false rfl)).trans ((tb_up_ne (Nat.ne_of_beq_eq_false rfl)).trans ((tb_up_ne (Nat.ne_of_beq_eq_false rfl)).trans ((tb_up_ne (Nat.ne_of_beq_eq_false rfl)).trans ((tb_up_ne (Nat.ne_of_beq_eq_false rfl)).trans ((tb_up_ne (Nat.ne_of_beq_eq_false rfl)).trans ((tb_up_ne (Nat.ne_of_beq_eq_false rfl)).trans ((tb_up_ne (Nat.ne_of_beq_eq_false rfl)).trans ((tb_up_ne (Nat.ne_of_beq_eq_false rfl)).trans ((tb_up_ne (Nat.ne_of_beq_eq_false rfl)).trans ((tb_up_ne (Nat.ne_of_beq_eq_false rfl)).trans ((tb_up_ne (Nat.ne_of_beq_eq_false rfl)).trans ((tb_up_ne (Nat.ne_of_beq_eq_false rfl)).trans ((tb_up_ne (Nat.ne_of_beq_eq_false rfl)).trans ((tb_up_ne (Nat.ne_of_beq_eq_false rfl)).trans ((tb_up_ne (Nat.ne_of_beq_eq_false rfl)).trans ((tb_up_ne (Nat.ne_of_beq_eq_false rfl)).trans ((tb_up_ne (Nat.ne_of_beq_eq_false rfl)).trans ((tb_up_ne (Nat.ne_of_beq_eq_false rfl)).trans ((tb_up_ne (Nat.ne_of_beq_eq_false rfl)).trans ((tb_up_ne (Nat.ne_of_beq_eq_false rfl)).trans ((tb_up_ne (Nat.ne_of_beq_eq_false rfl)).trans ((tb_up_ne (Nat.ne_of_beq_eq_false rfl)).trans ((tb_up_ne (Nat.ne_of_beq_eq_false rfl)).trans ((tb_up_ne (Nat.ne_of_beq_eq_false rfl)).trans ((tb_up_ne (Nat.ne_of_beq_eq_false rfl)).trans ((tb_up_ne (Nat.ne_of_beq_eq_false rfl)).trans ((tb_up_ne (Nat.ne_of_beq_eq_false rfl)).trans ((tb_up_ne (Nat.ne_of_beq_eq_false rfl)).trans ((tb_up_ne (Nat.ne_of_beq_eq_false rfl)).trans ((tb_up_ne (Nat.ne_of_beq_eq_false rfl)).trans ((tb_up_ne (Nat.ne_of_beq_eq_false rfl)).trans ((tb_up_ne (Nat.ne_of_beq_eq_false rfl)).trans ((tb_up_ne (Nat.ne_of_beq_eq_false rfl)).trans ((tb_up_ne (Nat.ne_of_beq_eq_false rfl)).trans ((tb_up_ne (Nat.ne_of_beq_eq_false rfl)).trans ((tb_up_ne (Nat.ne_of_beq_eq_false rfl)).trans ((tb_up_ne (Nat.ne_of_beq_eq_false rfl)).trans ((tb_up_ne (Nat.ne_of_beq_eq_false rfl)).trans ((tb_up_ne (Nat.ne_of_beq_eq_false rfl)).trans ((tb_up_ne (Nat.ne_of_beq_eq_false rfl)).trans ((tb_up_ne (Nat.ne_of_beq_eq_false rfl)).trans (tb_up_eq.trans rfl)))))))))))))))))))))))))))))))))))))))))))))))))
set_option maxRecDepth 4000 in
theorem zc_MD_92 {cs : Nat → ClassId} {ad : Nat → Nat} {S : Nat → va_E} : z_MD cs ad S 92 = tw_sh cs ad (tw_lay 92) (M0 92) := by
  unfold z_MD
  exact (tb_up_ne (Nat.ne_of_beq_eq_false rfl)).trans ((tb_up_ne (Nat.ne_of_beq_eq_false rfl)).trans ((tb_up_ne (Nat.ne_of_beq_eq_false rfl)).trans ((tb_up_ne (Nat.ne_of_beq_eq_false rfl)).trans ((tb_up_ne (Nat.ne_of_beq_eq_false rfl)).trans ((tb_up_ne (Nat.ne_of_beq_eq_false rfl)).trans ((tb_up_ne (Nat.ne_of_beq_eq_false rfl)).trans ((tb_up_ne (Nat.ne_of_beq_eq_false rfl)).trans ((tb_up_ne (Nat.ne_of_beq_eq_false rfl)).trans ((tb_up_ne (Nat.ne_of_beq_eq_false rfl)).trans ((tb_up_ne (Nat.ne_of_beq_eq_false rfl)).trans ((tb_up_ne (Nat.ne_of_beq_eq_false rfl)).trans ((tb_up_ne (Nat.ne_of_beq_eq_false rfl)).trans ((tb_up_ne (Nat.ne_of_beq_eq_false rfl)).trans ((tb_up_ne (Nat.ne_of_beq_eq_false rfl)).trans ((tb_up_ne (Nat.ne_of_beq_eq_false rfl)).trans ((tb_up_ne (Nat.ne_of_beq_eq_false rfl)).trans ((tb_up_ne (Nat.ne_of_beq_eq_false rfl)).trans ((tb_up_ne (Nat.ne_of_beq_eq_false rfl)).trans ((tb_up_ne (Nat.ne_of_beq_eq_false rfl)).trans ((tb_up_ne (Nat.ne_of_beq_eq_false rfl)).trans ((tb_up_ne (Nat.ne_of_beq_eq_false rfl)).trans ((tb_up_ne (Nat.ne_of_beq_eq_false rfl)).trans ((tb_up_ne (Nat.ne_of_beq_eq_false rfl)).trans ((tb_up_ne (Nat.ne_of_beq_eq_false rfl)).trans ((tb_up_ne (Nat.ne_of_beq_eq_false rfl)).trans ((tb_up_ne (Nat.ne_of_beq_eq_false rfl)).trans ((tb_up_ne (Nat.ne_of_beq_eq_false rfl)).trans ((tb_up_ne (Nat.ne_of_beq_eq_false rfl)).trans ((tb_up_ne (Nat.ne_of_beq_eq_false rfl)).trans ((tb_up_ne (Nat.ne_of_beq_eq_false rfl)).trans ((tb_up_ne (Nat.ne_of_beq_eq_false rfl)).trans ((tb_up_ne (Nat.ne_of_beq_eq_false rfl)).trans ((tb_up_ne (Nat.ne_of_beq_eq_false rfl)).trans ((tb_up_ne (Nat.ne_of_beq_eq_false rfl)).trans ((tb_up_ne (Nat.ne_of_beq_eq_false rfl)).trans ((tb_up_ne (Nat.ne_of_beq_eq_false rfl)).trans ((tb_up_ne (Nat.ne_of_beq_eq_false rfl)).trans ((tb_up_ne (Nat.ne_of_beq_eq_false rfl)).trans ((tb_up_ne (Nat.ne_of_beq_eq_false rfl)).trans ((tb_up_ne (Nat.ne_of_beq_eq_false rfl)).trans ((tb_up_ne (Nat.ne_of_beq_eq_false rfl)).trans ((tb_up_ne (Nat.ne_of_beq_eq_false rfl)).trans ((tb_up_ne (Nat.ne_of_beq_eq_false rfl)).trans ((tb_up_ne (Nat.ne_of_beq_eq_false rfl)).trans ((tb_up_ne (Nat.ne_of_beq_eq_false rfl)).trans ((tb_up_ne (Nat.ne_of_beq_eq_false rfl)).trans (tb_up_eq.trans rfl)))))))))))))))))))))))))))))))))))))))))))))))
set_option maxRecDepth 4000 in
theorem zc_MD_93 {cs : Nat → ClassId} {ad : Nat → Nat} {S : Nat → va_E} : z_MD cs ad S 93 = tw_sh cs ad (tw_lay 93) (M0 93) := by
  unfold z_MD
  exact (tb_up_ne (Nat.ne_of_beq_eq_false rfl)).trans ((tb_up_ne (Nat.ne_of_beq_eq_false rfl)).trans ((tb_up_ne (Nat.ne_of_beq_eq_false rfl)).trans ((tb_up_ne (Nat.ne_of_beq_eq_false rfl)).trans ((tb_up_ne (Nat.ne_of_beq_eq_false rfl)).trans ((tb_up_ne (Nat.ne_of_beq_eq_false rfl)).trans ((tb_up_ne (Nat.ne_of_beq_eq_false rfl)).trans ((tb_up_ne (Nat.ne_of_beq_eq_false rfl)).trans ((tb_up_ne (Nat.ne_of_beq_eq_false rfl)).trans ((tb_up_ne (Nat.ne_of_beq_eq_false rfl)).trans ((tb_up_ne (Nat.ne_of_beq_eq_false rfl)).trans ((tb_up_ne (Nat.ne_of_beq_eq_false rfl)).trans ((tb_up_ne (Nat.ne_of_beq_eq_false rfl)).trans ((tb_up_ne (Nat.ne_of_beq_eq_false rfl)).trans ((tb_up_ne (Nat.ne_of_beq_eq_false rfl)).trans ((tb_up_ne (Nat.ne_of_beq_eq_false rfl)).trans ((tb_up_ne (Nat.ne_of_beq_eq_false rfl)).trans ((tb_up_ne (Nat.ne_of_beq_eq_false rfl)).trans ((tb_up_ne (Nat.ne_of_beq_eq_false rfl)).trans ((tb_up_ne (Nat.ne_of_beq_eq_false rfl)).trans ((tb_up_ne (Nat.ne_of_beq_eq_false rfl)).trans ((tb_up_ne (Nat.ne_of_beq_eq_false rfl)).trans ((tb_up_ne (Nat.ne_of_beq_eq_false rfl)).trans ((tb_up_ne (Nat.ne_of_beq_eq_false rfl)).trans ((tb_up_ne (Nat.ne_of_beq_eq_false rfl)).trans ((tb_up_ne (Nat.ne_of_beq_eq_false rfl)).trans ((tb_up_ne (Nat.ne_of_beq_eq_false rfl)).trans ((tb_up_ne (Nat.ne_of_beq_eq_false rfl)).trans ((tb_up_ne (Nat.ne_of_beq_eq_false rfl)).trans ((tb_up_ne (Nat.ne_of_beq_eq_false rfl)).trans ((tb_up_ne (Nat.ne_of_beq_eq_false rfl)).trans ((tb_up_ne (Nat.ne_of_beq_eq_false rfl)).trans ((tb_up_ne (Nat.ne_of_beq_eq_false rfl)).trans ((tb_up_ne (Nat.ne_of_beq_eq_false rfl)).trans ((tb_up_ne (Nat.ne_of_beq_eq_false rfl)).trans ((tb_up_ne (Nat.ne_of_beq_eq_false rfl)).trans ((tb_up_ne (Nat.ne_of_beq_eq_false rfl)).trans ((tb_up_ne (Nat.ne_of_beq_eq_false rfl)).trans ((tb_up_ne (Nat.ne_of_beq_eq_false rfl)).trans ((tb_up_ne (Nat.ne_of_beq_eq_false rfl)).trans ((tb_up_ne (Nat.ne_of_beq_eq_false rfl)).trans ((tb_up_ne (Nat.ne_of_beq_eq_false rfl)).trans ((tb_up_ne (Nat.ne_of_beq_eq_false rfl)).trans ((tb_up_ne (Nat.ne_of_beq_eq_false rfl)).trans ((tb_up_ne (Nat.ne_of_beq_eq_false rfl)).trans (tb_up_eq.trans rfl)))))))))))))))))))))))))))))))))))))))))))))
set_option maxRecDepth 4000 in
theorem zc_MD_94 {cs : Nat → ClassId} {ad : Nat → Nat} {S : Nat → va_E} : z_MD cs ad S 94 = tw_sh cs ad (tw_lay 94) (M0 94) := by
  unfold z_MD
  exact (tb_up_ne (Nat.ne_of_beq_eq_false rfl)).trans ((tb_up_ne (Nat.ne_of_beq_eq_false rfl)).trans ((tb_up_ne (Nat.ne_of_beq_eq_false rfl)).trans ((tb_up_ne (Nat.ne_of_beq_eq_false rfl)).trans ((tb_up_ne (Nat.ne_of_beq_eq_false rfl)).trans ((tb_up_ne (Nat.ne_of_beq_eq_false rfl)).trans ((tb_up_ne (Nat.ne_of_beq_eq_false rfl)).trans ((tb_up_ne (Nat.ne_of_beq_eq_false rfl)).trans ((tb_up_ne (Nat.ne_of_beq_eq_false rfl)).trans ((tb_up_ne (Nat.ne_of_beq_eq_false rfl)).trans ((tb_up_ne (Nat.ne_of_beq_eq_false rfl)).trans ((tb_up_ne (Nat.ne_of_beq_eq_false rfl)).trans ((tb_up_ne (Nat.ne_of_beq_eq_false rfl)).trans ((tb_up_ne (Nat.ne_of_beq_eq_false rfl)).trans ((tb_up_ne (Nat.ne_of_beq_eq_false rfl)).trans ((tb_up_ne (Nat.ne_of_beq_eq_false rfl)).trans ((tb_up_ne (Nat.ne_of_beq_eq_false rfl)).trans ((tb_up_ne (Nat.ne_of_beq_eq_false rfl)).trans ((tb_up_ne (Nat.ne_of_beq_eq_false rfl)).trans ((tb_up_ne (Nat.ne_of_beq_eq_false rfl)).trans ((tb_up_ne (Nat.ne_of_beq_eq_false rfl)).trans ((tb_up_ne (Nat.ne_of_beq_eq_false rfl)).trans ((tb_up_ne (Nat.ne_of_beq_eq_false rfl)).trans ((tb_up_ne (Nat.ne_of_beq_eq_false rfl)).trans ((tb_up_ne (Nat.ne_of_beq_eq_false rfl)).trans ((tb_up_ne (Nat.ne_of_beq_eq_false rfl)).trans ((tb_up_ne (Nat.ne_of_beq_eq_false rfl)).trans ((tb_up_ne (Nat.ne_of_beq_eq_false rfl)).trans ((tb_up_ne (Nat.ne_of_beq_eq_false rfl)).trans ((tb_up_ne (Nat.ne_of_beq_eq_false rfl)).trans ((tb_up_ne (Nat.ne_of_beq_eq_false rfl)).trans ((tb_up_ne (Nat.ne_of_beq_eq_false rfl)).trans ((tb_up_ne (Nat.ne_of_beq_eq_false rfl)).trans ((tb_up_ne (Nat.ne_of_beq_eq_false rfl)).trans ((tb_up_ne (Nat.ne_of_beq_eq_false rfl)).trans ((tb_up_ne (Nat.ne_of_beq_eq_false rfl)).trans ((tb_up_ne (Nat.ne_of_beq_eq_false rfl)).trans ((tb_up_ne (Nat.ne_of_beq_eq_false rfl)).trans ((tb_up_ne (Nat.ne_of_beq_eq_false rfl)).trans ((tb_up_ne (Nat.ne_of_beq_eq_false rfl)).trans ((tb_up_ne (Nat.ne_of_beq_eq_false rfl)).trans ((tb_up_ne (Nat.ne_of_beq_eq_false rfl)).trans ((tb_up_ne (Nat.ne_of_beq_eq_false rfl)).trans (tb_up_eq.trans rfl)))))))))))))))))))))))))))))))))))))))))))
set_option maxRecDepth 4000 in
theorem zc_MD_95 {cs : Nat → ClassId} {ad : Nat → Nat} {S : Nat → va_E} : z_MD cs ad S 95 = tw_sh cs ad (tw_lay 95) (M0 95) := by
  unfold z_MD
  exact (tb_up_ne (Nat.ne_of_beq_eq_false rfl)).trans ((tb_up_ne (Nat.ne_of_beq_eq_false rfl)).trans ((tb_up_ne (Nat.ne_of_beq_eq_false rfl)).trans ((tb_up_ne (Nat.ne_of_beq_eq_false rfl)).trans ((tb_up_ne (Nat.ne_of_beq_eq_false rfl)).trans ((tb_up_ne (Nat.ne_of_beq_eq_false rfl)).trans ((tb_up_ne (Nat.ne_of_beq_eq_false rfl)).trans ((tb_up_ne (Nat.ne_of_beq_eq_false rfl)).trans ((tb_up_ne (Nat.ne_of_beq_eq_false rfl)).trans ((tb_up_ne (Nat.ne_of_beq_eq_false rfl)).trans ((tb_up_ne (Nat.ne_of_beq_eq_false rfl)).trans ((tb_up_ne (Nat.ne_of_beq_eq_false rfl)).trans ((tb_up_ne (Nat.ne_of_beq_eq_false rfl)).trans ((tb_up_ne (Nat.ne_of_beq_eq_false rfl)).trans ((tb_up_ne (Nat.ne_of_beq_eq_false rfl)).trans ((tb_up_ne (Nat.ne_of_beq_eq_false rfl)).trans ((tb_up_ne (Nat.ne_of_beq_eq_false rfl)).trans ((tb_up_ne (Nat.ne_of_beq_eq_false rfl)).trans ((tb_up_ne (Nat.ne_of_beq_eq_false rfl)).trans ((tb_up_ne (Nat.ne_of_beq_eq_false rfl)).trans ((tb_up_ne (Nat.ne_of_beq_eq_false rfl)).trans ((tb_up_ne (Nat.ne_of_beq_eq_false rfl)).trans ((tb_up_ne (Nat.ne_of_beq_eq_false rfl)).trans ((tb_up_ne (Nat.ne_of_beq_eq_false rfl)).trans ((tb_up_ne (Nat.ne_of_beq_eq_false rfl)).trans ((tb_up_ne (Nat.ne_of_beq_eq_false rfl)).trans ((tb_up_ne (Nat.ne_of_beq_eq_false rfl)).trans ((tb_up_ne (Nat.ne_of_beq_eq_false rfl)).trans ((tb_up_ne (Nat.ne_of_beq_eq_false rfl)).trans ((tb_up_ne (Nat.ne_of_beq_eq_false rfl)).trans ((tb_up_ne (Nat.ne_of_beq_eq_false rfl)).trans ((tb_up_ne (Nat.ne_of_beq_eq_false rfl)).trans ((tb_up_ne (Nat.ne_of_beq_eq_false rfl)).trans ((tb_up_ne (Nat.ne_of_beq_eq_false rfl)).trans ((tb_up_ne (Nat.ne_of_beq_eq_false rfl)).trans ((tb_up_ne (Nat.ne_of_beq_eq_false rfl)).trans ((tb_up_ne (Nat.ne_of_beq_eq_false rfl)).trans ((tb_up_ne (Nat.ne_of_beq_eq_false rfl)).trans ((tb_up_ne (Nat.ne_of_beq_eq_false rfl)).trans ((tb_up_ne (Nat.ne_of_beq_eq_false rfl)).trans ((tb_up_ne (Nat.ne_of_beq_eq_false rfl)).trans (tb_up_eq.trans rfl)))))))))))))))))))))))))))))))))))))))))
set_option maxRecDepth 4000 in
theorem zc_MD_96 {cs : Nat → ClassId} {ad : Nat → Nat} {S : Nat → va_E} : z_MD cs ad S 96 = tw_sh cs ad (tw_lay 96) (M0 96) := by
  unfold z_MD
  exact (tb_up_ne (Nat.ne_of_beq_eq_false rfl)).trans ((tb_up_ne (Nat.ne_of_beq_eq_false rfl)).trans ((tb_up_ne (Nat.ne_of_beq_eq_false rfl)).trans ((tb_up_ne (Nat.ne_of_beq_eq_false rfl)).trans ((tb_up_ne (Nat.ne_of_beq_eq_false rfl)).trans ((tb_up_ne (Nat.ne_of_beq_eq_false rfl)).trans ((tb_up_ne (Nat.ne_of_beq_eq_false rfl)).trans ((tb_up_ne (Nat.ne_of_beq_eq_false rfl)).trans ((tb_up_ne (Nat.ne_of_beq_eq_false rfl)).trans ((tb_up_ne (Nat.ne_of_beq_eq_false rfl)).trans ((tb_up_ne (Nat.ne_of_beq_eq_false rfl)).trans ((tb_up_ne (Nat.ne_of_beq_eq_false rfl)).trans ((tb_up_ne (Nat.ne_of_beq_eq_false rfl)).trans ((tb_up_ne (Nat.ne_of_beq_eq_false rfl)).trans ((tb_up_ne (Nat.ne_of_beq_eq_false rfl)).trans ((tb_up_ne (Nat.ne_of_beq_eq_false rfl)).trans ((tb_up_ne (Nat.ne_of_beq_eq_false rfl)).trans ((tb_up_ne (Nat.ne_of_beq_eq_false rfl)).trans ((tb_up_ne (Nat.ne_of_beq_eq_false rfl)).trans ((tb_up_ne (Nat.ne_of_beq_eq_false rfl)).trans ((tb_up_ne (Nat.ne_of_beq_eq_false rfl)).trans ((tb_up_ne (Nat.ne_of_beq_eq_false rfl)).trans ((tb_up_ne (Nat.ne_of_beq_eq_false rfl)).trans ((tb_up_ne (Nat.ne_of_beq_eq_false rfl)).trans ((tb_up_ne (Nat.ne_of_beq_eq_false rfl)).trans ((tb_up_ne (Nat.ne_of_beq_eq_false rfl)).trans ((tb_up_ne (Nat.ne_of_beq_eq_false rfl)).trans ((tb_up_ne (Nat.ne_of_beq_eq_false rfl)).trans ((tb_up_ne (Nat.ne_of_beq_eq_false rfl)).trans ((tb_up_ne (Nat.ne_of_beq_eq_false rfl)).trans ((tb_up_ne (Nat.ne_of_beq_eq_false rfl)).trans ((tb_up_ne (Nat.ne_of_beq_eq_false rfl)).trans ((tb_up_ne (Nat.ne_of_beq_eq_false rfl)).trans ((tb_up_ne (Nat.ne_of_beq_eq_false rfl)).trans ((tb_up_ne (Nat.ne_of_beq_eq_false rfl)).trans ((tb_up_ne (Nat.ne_of_beq_eq_false rfl)).trans ((tb_up_ne (Nat.ne_of_beq_eq_false rfl)).trans ((tb_up_ne (Nat.ne_of_beq_eq_false rfl)).trans ((tb_up_ne (Nat.ne_of_beq_eq_false rfl)).trans (tb_up_eq.trans rfl)))))))))))))))))))))))))))))))))))))))
set_option maxRecDepth 4000 in
theorem zc_MD_97 {cs : Nat → ClassId} {ad : Nat → Nat} {S : Nat → va_E} : z_MD cs ad S 97 = tw_sh cs ad (tw_lay 97) (M0 97) := by
  unfold z_MD
  exact (tb_up_ne (Nat.ne_of_beq_eq_false rfl)).trans ((tb_up_ne (Nat.ne_of_beq_eq_false rfl)).trans ((tb_up_ne (Nat.ne_of_beq_eq_false rfl)).trans ((tb_up_ne (Nat.ne_of_beq_eq_false rfl)).trans ((tb_up_ne (Nat.ne_of_beq_eq_false rfl)).trans ((tb_up_ne (Nat.ne_of_beq_eq_false rfl)).trans ((tb_up_ne (Nat.ne_of_beq_eq_false rfl)).trans ((tb_up_ne (Nat.ne_of_beq_eq_false rfl)).trans ((tb_up_ne (Nat.ne_of_beq_eq_false rfl)).trans ((tb_up_ne (Nat.ne_of_beq_eq_false rfl)).trans ((tb_up_ne (Nat.ne_of_beq_eq_false rfl)).trans ((tb_up_ne (Nat.ne_of_beq_eq_false rfl)).trans ((tb_up_ne (Nat.ne_of_beq_eq_false rfl)).trans ((tb_up_ne (Nat.ne_of_beq_eq_false rfl)).trans ((tb_up_ne (Nat.ne_of_beq_eq_false rfl)).trans ((tb_up_ne (Nat.ne_of_beq_eq_false rfl)).trans ((tb_up_ne (Nat.ne_of_beq_eq_false rfl)).trans ((tb_up_ne (Nat.ne_of_beq_eq_false rfl)).trans ((tb_up_ne (Nat.ne_of_beq_eq_false rfl)).trans ((tb_up_ne (Nat.ne_of_beq_eq_false rfl)).trans ((tb_up_ne (Nat.ne_of_beq_eq_false rfl)).trans ((tb_up_ne (Nat.ne_of_beq_eq_false rfl)).trans ((tb_up_ne (Nat.ne_of_beq_eq_false rfl)).trans ((tb_up_ne (Nat.ne_of_beq_eq_false rfl)).trans ((tb_up_ne (Nat.ne_of_beq_eq_false rfl)).trans ((tb_up_ne (Nat.ne_of_beq_eq_false rfl)).trans ((tb_up_ne (Nat.ne_of_beq_eq_false rfl)).trans ((tb_up_ne (Nat.ne_of_beq_eq_false rfl)).trans ((tb_up_ne (Nat.ne_of_beq_eq_false rfl)).trans ((tb_up_ne (Nat.ne_of_beq_eq_false rfl)).trans ((tb_up_ne (Nat.ne_of_beq_eq_false rfl)).trans ((tb_up_ne (Nat.ne_of_beq_eq_false rfl)).trans ((tb_up_ne (Nat.ne_of_beq_eq_false rfl)).trans ((tb_up_ne (Nat.ne_of_beq_eq_false rfl)).trans ((tb_up_ne (Nat.ne_of_beq_eq_false rfl)).trans ((tb_up_ne (Nat.ne_of_beq_eq_false rfl)).trans ((tb_up_ne (Nat.ne_of_beq_eq_false rfl)).trans (tb_up_eq.trans rfl)))))))))))))))))))))))))))))))))))))
set_option maxRecDepth 4000 in
theorem zc_MD_98 {cs : Nat → ClassId} {ad : Nat → Nat} {S : Nat → va_E} : z_MD cs ad S 98 = tw_sh cs ad (tw_lay 98) (M0 98) := by
  unfold z_MD
  exact (tb_up_ne (Nat.ne_of_beq_eq_false rfl)).trans ((tb_up_ne (Nat.ne_of_beq_eq_false rfl)).trans ((tb_up_ne (Nat.ne_of_beq_eq_false rfl)).trans ((tb_up_ne (Nat.ne_of_beq_eq_false rfl)).trans ((tb_up_ne (Nat.ne_of_beq_eq_false rfl)).trans ((tb_up_ne (Nat.ne_of_beq_eq_false rfl)).trans ((tb_up_ne (Nat.ne_of_beq_eq_false rfl)).trans ((tb_up_ne (Nat.ne_of_beq_eq_false rfl)).trans ((tb_up_ne (Nat.ne_of_beq_eq_false rfl)).trans ((tb_up_ne (Nat.ne_of_beq_eq_false rfl)).trans ((tb_up_ne (Nat.ne_of_beq_eq_false rfl)).trans ((tb_up_ne (Nat.ne_of_beq_eq_false rfl)).trans ((tb_up_ne (Nat.ne_of_beq_eq_false rfl)).trans ((tb_up_ne (Nat.ne_of_beq_eq_false rfl)).trans ((tb_up_ne (Nat.ne_of_beq_eq_false rfl)).trans ((tb_up_ne (Nat.ne_of_beq_eq_false rfl)).trans ((tb_up_ne (Nat.ne_of_beq_eq_false rfl)).trans ((tb_up_ne (Nat.ne_of_beq_eq_false rfl)).trans ((tb_up_ne (Nat.ne_of_beq_eq_false rfl)).trans ((tb_up_ne (Nat.ne_of_beq_eq_false rfl)).trans ((tb_up_ne (Nat.ne_of_beq_eq_false rfl)).trans ((tb_up_ne (Nat.ne_of_beq_eq_false rfl)).trans ((tb_up_ne (Nat.ne_of_beq_eq_false rfl)).trans ((tb_up_ne (Nat.ne_of_beq_eq_false rfl)).trans ((tb_up_ne (Nat.ne_of_beq_eq_false rfl)).trans ((tb_up_ne (Nat.ne_of_beq_eq_false rfl)).trans ((tb_up_ne (Nat.ne_of_beq_eq_false rfl)).trans ((tb_up_ne (Nat.ne_of_beq_eq_false rfl)).trans ((tb_up_ne (Nat.ne_of_beq_eq_false rfl)).trans ((tb_up_ne (Nat.ne_of_beq_eq_false rfl)).trans ((tb_up_ne (Nat.ne_of_beq_eq_false rfl)).trans ((tb_up_ne (Nat.ne_of_beq_eq_false rfl)).trans ((tb_up_ne (Nat.ne_of_beq_eq_false rfl)).trans ((tb_up_ne (Nat.ne_of_beq_eq_false rfl)).trans ((tb_up_ne (Nat.ne_of_beq_eq_false rfl)).trans (tb_up_eq.trans rfl)))))))))))))))))))))))))))))))))))
set_option maxRecDepth 4000 in
theorem zc_MD_99 {cs : Nat → ClassId} {ad : Nat → Nat} {S : Nat → va_E} : z_MD cs ad S 99 = tw_sh cs ad (tw_lay 99) (M0 99) := by
  unfold z_MD
  exact (tb_up_ne (Nat.ne_of_beq_eq_false rfl)).trans ((tb_up_ne (Nat.ne_of_beq_eq_false rfl)).trans ((tb_up_ne (Nat.ne_of_beq_eq_false rfl)).trans ((tb_up_ne (Nat.ne_of_beq_eq_false rfl)).trans ((tb_up_ne (Nat.ne_of_beq_eq_false rfl)).trans ((tb_up_ne (Nat.ne_of_beq_eq_false rfl)).trans ((tb_up_ne (Nat.ne_of_beq_eq_false rfl)).trans ((tb_up_ne (Nat.ne_of_beq_eq_false rfl)).trans ((tb_up_ne (Nat.ne_of_beq_eq_false rfl)).trans ((tb_up_ne (Nat.ne_of_beq_eq_false rfl)).trans ((tb_up_ne (Nat.ne_of_beq_eq_false rfl)).trans ((tb_up_ne (Nat.ne_of_beq_eq_false rfl)).trans ((tb_up_ne (Nat.ne_of_beq_eq_false rfl)).trans ((tb_up_ne (Nat.ne_of_beq_eq_false rfl)).trans ((tb_up_ne (Nat.ne_of_beq_eq_false rfl)).trans ((tb_up_ne (Nat.ne_of_beq_eq_false rfl)).trans ((tb_up_ne (Nat.ne_of_beq_eq_false rfl)).trans ((tb_up_ne (Nat.ne_of_beq_eq_false rfl)).trans ((tb_up_ne (Nat.ne_of_beq_eq_false rfl)).trans ((tb_up_ne (Nat.ne_of_beq_eq_false rfl)).trans ((tb_up_ne (Nat.ne_of_beq_eq_false rfl)).trans ((tb_up_ne (Nat.ne_of_beq_eq_false rfl)).trans ((tb_up_ne (Nat.ne_of_beq_eq_false rfl)).trans ((tb_up_ne (Nat.ne_of_beq_eq_false rfl)).trans ((tb_up_ne (Nat.ne_of_beq_eq_false rfl)).trans ((tb_up_ne (Nat.ne_of_beq_eq_false rfl)).trans ((tb_up_ne (Nat.ne_of_beq_eq_false rfl)).trans ((tb_up_ne (Nat.ne_of_beq_eq_false rfl)).trans ((tb_up_ne (Nat.ne_of_beq_eq_false rfl)).trans ((tb_up_ne (Nat.ne_of_beq_eq_false rfl)).trans ((tb_up_ne (Nat.ne_of_beq_eq_false rfl)).trans ((tb_up_ne (Nat.ne_of_beq_eq_false rfl)).trans ((tb_up_ne (Nat.ne_of_beq_eq_false rfl)).trans (tb_up_eq.trans rfl)))))))))))))))))))))))))))))))))
set_option maxRecDepth 4000 in
theorem zc_MD_100 {cs : Nat → ClassId} {ad : Nat → Nat} {S : Nat → va_E} : z_MD cs ad S 100 = tw_sh cs ad (tw_lay 100) (M0 100) := by
  unfold z_MD
  exact (tb_up_ne (Nat.ne_of_beq_eq_false rfl)).trans ((tb_up_ne (Nat.ne_of_beq_eq_false rfl)).trans ((tb_up_ne (Nat.ne_of_beq_eq_false rfl)).trans ((tb_up_ne (Nat.ne_of_beq_eq_false rfl)).trans ((tb_up_ne (Nat.ne_of_beq_eq_false rfl)).trans ((tb_up_ne (Nat.ne_of_beq_eq_false rfl)).trans ((tb_up_ne (Nat.ne_of_beq_eq_false rfl)).trans ((tb_up_ne (Nat.ne_of_beq_eq_false rfl)).trans ((tb_up_ne (Nat.ne_of_beq_eq_false rfl)).trans ((tb_up_ne (Nat.ne_of_beq_eq_false rfl)).trans ((tb_up_ne (Nat.ne_of_beq_eq_false rfl)).trans ((tb_up_ne (Nat.ne_of_beq_eq_false rfl)).trans ((tb_up_ne (Nat.ne_of_beq_eq_false rfl)).trans ((tb_up_ne (Nat.ne_of_beq_eq_false rfl)).trans ((tb_up_ne (Nat.ne_of_beq_eq_false rfl)).trans ((tb_up_ne (Nat.ne_of_beq_eq_false rfl)).trans ((tb_up_ne (Nat.ne_of_beq_eq_false rfl)).trans ((tb_up_ne (Nat.ne_of_beq_eq_false rfl)).trans ((tb_up_ne (Nat.ne_of_beq_eq_false rfl)).trans ((tb_up_ne (Nat.ne_of_beq_eq_false rfl)).trans ((tb_up_ne (Nat.ne_of_beq_eq_false rfl)).trans ((tb_up_ne (Nat.ne_of_beq_eq_false rfl)).trans ((tb_up_ne (Nat.ne_of_beq_eq_false rfl)).trans ((tb_up_ne (Nat.ne_of_beq_eq_false rfl)).trans ((tb_up_ne (Nat.ne_of_beq_eq_false rfl)).trans ((tb_up_ne (Nat.ne_of_beq_eq_false rfl)).trans ((tb_up_ne (Nat.ne_of_beq_eq_false rfl)).trans ((tb_up_ne (Nat.ne_of_beq_eq_false rfl)).trans ((tb_up_ne (Nat.ne_of_beq_eq_false rfl)).trans ((tb_up_ne (Nat.ne_of_beq_eq_false rfl)).trans ((tb_up_ne (Nat.ne_of_beq_eq_false rfl)).trans (tb_up_eq.trans rfl)))))))))))))))))))))))))))))))
set_option maxRecDepth 4000 in
theorem zc_MD_101 {cs : Nat → ClassId} {ad : Nat → Nat} {S : Nat → va_E} : z_MD cs ad S 101 = tw_sh cs ad (tw_lay 101) (M0 101) := by
  unfold z_MD
  exact (tb_up_ne (Nat.ne_of_beq_eq_false rfl)).trans ((tb_up_ne (Nat.ne_of_beq_eq_false rfl)).trans ((tb_up_ne (Nat.ne_of_beq_eq_false rfl)).trans ((tb_up_ne (Nat.ne_of_beq_eq_false rfl)).trans ((tb_up_ne (Nat.ne_of_beq_eq_false rfl)).trans ((tb_up_ne (Nat.ne_of_beq_eq_false rfl)).trans ((tb_up_ne (Nat.ne_of_beq_eq_false rfl)).trans ((tb_up_ne (Nat.ne_of_beq_eq_false rfl)).trans ((tb_up_ne (Nat.ne_of_beq_eq_false rfl)).trans ((tb_up_ne (Nat.ne_of_beq_eq_false rfl)).trans ((tb_up_ne (Nat.ne_of_beq_eq_false rfl)).trans ((tb_up_ne (Nat.ne_of_beq_eq_false rfl)).trans ((tb_up_ne (Nat.ne_of_beq_eq_false rfl)).trans ((tb_up_ne (Nat.ne_of_beq_eq_false rfl)).trans ((tb_up_ne (Nat.ne_of_beq_eq_false rfl)).trans ((tb_up_ne (Nat.ne_of_beq_eq_false rfl)).trans ((tb_up_ne (Nat.ne_of_beq_eq_false rfl)).trans ((tb_up_ne (Nat.ne_of_beq_eq_false rfl)).trans ((tb_up_ne (Nat.ne_of_beq_eq_false rfl)).trans ((tb_up_ne (Nat.ne_of_beq_eq_false rfl)).trans ((tb_up_ne (Nat.ne_of_beq_eq_false rfl)).trans ((tb_up_ne (Nat.ne_of_beq_eq_false rfl)).trans ((tb_up_ne (Nat.ne_of_beq_eq_false rfl)).trans ((tb_up_ne (Nat.ne_of_beq_eq_false rfl)).trans ((tb_up_ne (Nat.ne_of_beq_eq_false rfl)).trans ((tb_up_ne (Nat.ne_of_beq_eq_false rfl)).trans ((tb_up_ne (Nat.ne_of_beq_eq_false rfl)).trans ((tb_up_ne (Nat.ne_of_beq_eq_false rfl)).trans ((tb_up_ne (Nat.ne_of_beq_eq_false rfl)).trans (tb_up_eq.trans rfl)))))))))))))))))))))))))))))
set_option maxRecDepth 4000 in
theorem zc_MD_102 {cs : Nat → ClassId} {ad : Nat → Nat} {S : Nat → va_E} : z_MD cs ad S 102 = tw_sh cs ad (tw_lay 102) (M0 102) := by
  unfold z_MD
  exact (tb_up_ne (Nat.ne_of_beq_eq_false rfl)).trans ((tb_up_ne (Nat.ne_of_beq_eq_false rfl)).trans ((tb_up_ne (Nat.ne_of_beq_eq_false rfl)).trans ((tb_up_ne (Nat.ne_of_beq_eq_false rfl)).trans ((tb_up_ne (Nat.ne_of_beq_eq_false rfl)).trans ((tb_up_ne (Nat.ne_of_beq_eq_false rfl)).trans ((tb_up_ne (Nat.ne_of_beq_eq_false rfl)).trans ((tb_up_ne (Nat.ne_of_beq_eq_false rfl)).trans ((tb_up_ne (Nat.ne_of_beq_eq_false rfl)).trans ((tb_up_ne (Nat.ne_of_beq_eq_false rfl)).trans ((tb_up_ne (Nat.ne_of_beq_eq_false rfl)).trans ((tb_up_ne (Nat.ne_of_beq_eq_false rfl)).trans ((tb_up_ne (Nat.ne_of_beq_eq_false rfl)).trans ((tb_up_ne (Nat.ne_of_beq_eq_false rfl)).trans ((tb_up_ne (Nat.ne_of_beq_eq_false rfl)).trans ((tb_up_ne (Nat.ne_of_beq_eq_false rfl)).trans ((tb_up_ne (Nat.ne_of_beq_eq_false rfl)).trans ((tb_up_ne (Nat.ne_of_beq_eq_false rfl)).trans ((tb_up_ne (Nat.ne_of_beq_eq_false rfl)).trans ((tb_up_ne (Nat.ne_of_beq_eq_false rfl)).trans ((tb_up_ne (Nat.ne_of_beq_eq_false rfl)).trans ((tb_up_ne (Nat.ne_of_beq_eq_false rfl)).trans ((tb_up_ne (Nat.ne_of_beq_eq_false rfl)).trans ((tb_up_ne (Nat.ne_of_beq_eq_false rfl)).trans ((tb_up_ne (Nat.ne_of_beq_eq_false rfl)).trans ((tb_up_ne (Nat.ne_of_beq_eq_false rfl)).trans ((tb_up_ne (Nat.ne_of_beq_eq_false rfl)).trans (tb_up_eq.trans rfl)))))))))))))))))))))))))))
set_option maxRecDepth 4000 in
theorem zc_MD_103 {cs : Nat → ClassId} {ad : Nat → Nat} {S : Nat → va_E} : z_MD cs ad S 103 = tw_sh cs ad (tw_lay 103) (M0 103) := by
  unfold z_MD
  exact (tb_up_ne (Nat.ne_of_beq_eq_false rfl)).trans ((tb_up_ne (Nat.ne_of_beq_eq_false rfl)).trans ((tb_up_ne (Nat.ne_of_beq_eq_false rfl)).trans ((tb_up_ne (Nat.ne_of_beq_eq_false rfl)).trans ((tb_up_ne (Nat.ne_of_beq_eq_false rfl)).trans ((tb_up_ne (Nat.ne_of_beq_eq_false rfl)).trans ((tb_up_ne (Nat.ne_of_beq_eq_false rfl)).trans ((tb_up_ne (Nat.ne_of_beq_eq_false rfl)).trans ((tb_up_ne (Nat.ne_of_beq_eq_false rfl)).trans ((tb_up_ne (Nat.ne_of_beq_eq_false rfl)).trans ((tb_up_ne (Nat.ne_of_beq_eq_false rfl)).trans ((tb_up_ne (Nat.ne_of_beq_eq_false rfl)).trans ((tb_up_ne (Nat.ne_of_beq_eq_false rfl)).trans ((tb_up_ne (Nat.ne_of_beq_eq_false rfl)).trans ((tb_up_ne (Nat.ne_of_beq_eq_false rfl)).trans ((tb_up_ne (Nat.ne_of_beq_eq_false rfl)).trans ((tb_up_ne (Nat.ne_of_beq_eq_false rfl)).trans ((tb_up_ne (Nat.ne_of_beq_eq_false rfl)).trans ((tb_up_ne (Nat.ne_of_beq_eq_false rfl)).trans ((tb_up_ne (Nat.ne_of_beq_eq_false rfl)).trans ((tb_up_ne (Nat.ne_of_beq_eq_false rfl)).trans ((tb_up_ne (Nat.ne_of_beq_eq_false rfl)).trans ((tb_up_ne (Nat.ne_of_beq_eq_false rfl)).trans ((tb_up_ne (Nat.ne_of_beq_eq_false rfl)).trans ((tb_up_ne (Nat.ne_of_beq_eq_false rfl)).trans (tb_up_eq.trans rfl)))))))))))))))))))))))))
set_option maxRecDepth 4000 in
theorem zc_MD_104 {cs : Nat → ClassId} {ad : Nat → Nat} {S : Nat → va_E} : z_MD cs ad S 104 = tw_sh cs ad (tw_lay 104) (M0 104) := by
  unfold z_MD
  exact (tb_up_ne (Nat.ne_of_beq_eq_false rfl)).trans ((tb_up_ne (Nat.ne_of_beq_eq_false rfl)).trans ((tb_up_ne (Nat.ne_of_beq_eq_false rfl)).trans ((tb_up_ne (Nat.ne_of_beq_eq_false rfl)).trans ((tb_up_ne (Nat.ne_of_beq_eq_false rfl)).trans ((tb_up_ne (Nat.ne_of_beq_eq_false rfl)).trans ((tb_up_ne (Nat.ne_of_beq_eq_false rfl)).trans ((tb_up_ne (Nat.ne_of_beq_eq_false rfl)).trans ((tb_up_ne (Nat.ne_of_beq_eq_false rfl)).trans ((tb_up_ne (Nat.ne_of_beq_eq_false rfl)).trans ((tb_up_ne (Nat.ne_of_beq_eq_false rfl)).trans ((tb_up_ne (Nat.ne_of_beq_eq_false rfl)).trans ((tb_up_ne (Nat.ne_of_beq_eq_false rfl)).trans ((tb_up_ne (Nat.ne_of_beq_eq_false rfl)).trans ((tb_up_ne (Nat.ne_of_beq_eq_false rfl)).trans ((tb_up_ne (Nat.ne_of_beq_eq_false rfl)).trans ((tb_up_ne (Nat.ne_of_beq_eq_false rfl)).trans ((tb_up_ne (Nat.ne_of_beq_eq_false rfl)).trans ((tb_up_ne (Nat.ne_of_beq_eq_false rfl)).trans ((tb_up_ne (Nat.ne_of_beq_eq_false rfl)).trans ((tb_up_ne (Nat.ne_of_beq_eq_false rfl)).trans ((tb_up_ne (Nat.ne_of_beq_eq_false rfl)).trans ((tb_up_ne (Nat.ne_of_beq_eq_false rfl)).trans (tb_up_eq.trans rfl)))))))))))))))))))))))
set_option maxRecDepth 4000 in
theorem zc_MD_105 {cs : Nat → ClassId} {ad : Nat → Nat} {S : Nat → va_E} : z_MD cs ad S 105 = tw_sh cs ad (tw_lay 105) (M0 105) := by
  unfold z_MD
  exact (tb_up_ne (Nat.ne_of_beq_eq_false rfl)).trans ((tb_up_ne (Nat.ne_of_beq_eq_false rfl)).trans ((tb_up_ne (Nat.ne_of_beq_eq_false rfl)).trans ((tb_up_ne (Nat.ne_of_beq_eq_false rfl)).trans ((tb_up_ne (Nat.ne_of_beq_eq_false rfl)).trans ((tb_up_ne (Nat.ne_of_beq_eq_false rfl)).trans ((tb_up_ne (Nat.ne_of_beq_eq_false rfl)).trans ((tb_up_ne (Nat.ne_of_beq_eq_false rfl)).trans ((tb_up_ne (Nat.ne_of_beq_eq_false rfl)).trans ((tb_up_ne (Nat.ne_of_beq_eq_false rfl)).trans ((tb_up_ne (Nat.ne_of_beq_eq_false rfl)).trans ((tb_up_ne (Nat.ne_of_beq_eq_false rfl)).trans ((tb_up_ne (Nat.ne_of_beq_eq_false rfl)).trans ((tb_up_ne (Nat.ne_of_beq_eq_false rfl)).trans ((tb_up_ne (Nat.ne_of_beq_eq_false rfl)).trans ((tb_up_ne (Nat.ne_of_beq_eq_false rfl)).trans ((tb_up_ne (Nat.ne_of_beq_eq_false rfl)).trans ((tb_up_ne (Nat.ne_of_beq_eq_false rfl)).trans ((tb_up_ne (Nat.ne_of_beq_eq_false rfl)).trans ((tb_up_ne (Nat.ne_of_beq_eq_false rfl)).trans ((tb_up_ne (Nat.ne_of_beq_eq_false rfl)).trans (tb_up_eq.trans rfl)))))))))))))))))))))
set_option maxRecDepth 4000 in
theorem zc_MD_106 {cs : Nat → ClassId} {ad : Nat → Nat} {S : Nat → va_E} : z_MD cs ad S 106 = tw_sh cs ad (tw_lay 106) (M0 106) := by
  unfold z_MD
  exact (tb_up_ne (Nat.ne_of_beq_eq_false rfl)).trans ((tb_up_ne (Nat.ne_of_beq_eq_false rfl)).trans ((tb_up_ne (Nat.ne_of_beq_eq_false rfl)).trans ((tb_up_ne (Nat.ne_of_beq_eq_false rfl)).trans ((tb_up_ne (Nat.ne_of_beq_eq_false rfl)).trans ((tb_up_ne (Nat.ne_of_beq_eq_false rfl)).trans ((tb_up_ne (Nat.ne_of_beq_eq_false rfl)).trans ((tb_up_ne (Nat.ne_of_beq_eq_false rfl)).trans ((tb_up_ne (Nat.ne_of_beq_eq_false rfl)).trans ((tb_up_ne (Nat.ne_of_beq_eq_false rfl)).trans ((tb_up_ne (Nat.ne_of_beq_eq_false rfl)).trans ((tb_up_ne (Nat.ne_of_beq_eq_false rfl)).trans ((tb_up_ne (Nat.ne_of_beq_eq_false rfl)).trans ((tb_up_ne (Nat.ne_of_beq_eq_false rfl)).trans ((tb_up_ne (Nat.ne_of_beq_eq_false rfl)).trans ((tb_up_ne (Nat.ne_of_beq_eq_false rfl)).trans ((tb_up_ne (Nat.ne_of_beq_eq_false rfl)).trans ((tb_up_ne (Nat.ne_of_beq_eq_false rfl)).trans ((tb_up_ne (Nat.ne_of_beq_eq_false rfl)).trans (tb_up_eq.trans rfl)))))))))))))))))))
set_option maxRecDepth 4000 in
theorem zc_MD_107 {cs : Nat → ClassId} {ad : Nat → Nat} {S : Nat → va_E} : z_MD cs ad S 107 = tw_sh cs ad (tw_lay 107) (M0 107) := by
  unfold z_MD
  exact (tb_up_ne (Nat.ne_of_beq_eq_false rfl)).trans ((tb_up_ne (Nat.ne_of_beq_eq_false rfl)).trans ((tb_up_ne (Nat.ne_of_beq_eq_false rfl)).trans ((tb_up_ne (Nat.ne_of_beq_eq_false rfl)).trans ((tb_up_ne (Nat.ne_of_beq_eq_false rfl)).trans ((tb_up_ne (Nat.ne_of_beq_eq_false rfl)).trans ((tb_up_ne (Nat.ne_of_beq_eq_false rfl)).trans ((tb_up_ne (Nat.ne_of_beq_eq_false rfl)).trans ((tb_up_ne (Nat.ne_of_beq_eq_false rfl)).trans ((tb_up_ne (Nat.ne_of_beq_eq_false rfl)).trans ((tb_up_ne (Nat.ne_of_beq_eq_false rfl)).trans ((tb_up_ne (Nat.ne_of_beq_eq_false rfl)).trans ((tb_up_ne (Nat.ne_of_beq_eq_false rfl)).trans ((tb_up_ne (Nat.ne_of_beq_eq_false rfl)).trans ((tb_up_ne (Nat.ne_of_beq_eq_false rfl)).trans ((tb_up_ne (Nat.ne_of_beq_eq_false rfl)).trans ((tb_up_ne (Nat.ne_of_beq_eq_false rfl)).trans (tb_up_eq.trans rfl)))))))))))))))))
set_option maxRecDepth 4000 in
theorem zc_MD_108 {cs : Nat → ClassId} {ad : Nat → Nat} {S : Nat → va_E} : z_MD cs ad S 108 = tw_sh cs ad (tw_lay 108) (M0 108) := by
  unfold z_MD
  exact (tb_up_ne (Nat.ne_of_beq_eq_false rfl)).trans ((tb_up_ne (Nat.ne_of_beq_eq_false rfl)).trans ((tb_up_ne (Nat.ne_of_beq_eq_false rfl)).trans ((tb_up_ne (Nat.ne_of_beq_eq_false rfl)).trans ((tb_up_ne (Nat.ne_of_beq_eq_false rfl)).trans ((tb_up_ne (Nat.ne_of_beq_eq_false rfl)).trans ((tb_up_ne (Nat.ne_of_beq_eq_false rfl)).trans ((tb_up_ne (Nat.ne_of_beq_eq_false rfl)).trans ((tb_up_ne (Nat.ne_of_beq_eq_false rfl)).trans ((tb_up_ne (Nat.ne_of_beq_eq_false rfl)).trans ((tb_up_ne (Nat.ne_of_beq_eq_false rfl)).trans ((tb_up_ne (Nat.ne_of_beq_eq_false rfl)).trans ((tb_up_ne (Nat.ne_of_beq_eq_false rfl)).trans ((tb_up_ne (Nat.ne_of_beq_eq_false rfl)).trans ((tb_up_ne (Nat.ne_of_beq_eq_false rfl)).trans (tb_up_eq.trans rfl)))))))))))))))
set_option maxRecDepth 4000 in
theorem zc_MD_109 {cs : Nat → ClassId} {ad : Nat → Nat} {S : Nat → va_E} : z_MD cs ad S 109 = tw_sh cs ad (tw_lay 109) (M0 109) := by
  unfold z_MD
  exact (tb_up_ne (Nat.ne_of_beq_eq_false rfl)).trans ((tb_up_ne (Nat.ne_of_beq_eq_false rfl)).trans ((tb_up_ne (Nat.ne_of_beq_eq_false rfl)).trans ((tb_up_ne (Nat.ne_of_beq_eq_false rfl)).trans ((tb_up_ne (Nat.ne_of_beq_eq_false rfl)).trans ((tb_up_ne (Nat.ne_of_beq_eq_false rfl)).trans ((tb_up_ne (Nat.ne_of_beq_eq_false rfl)).trans ((tb_up_ne (Nat.ne_of_beq_eq_false rfl)).trans ((tb_up_ne (Nat.ne_of_beq_eq_false rfl)).trans ((tb_up_ne (Nat.ne_of_beq_eq_false rfl)).trans ((tb_up_ne (Nat.ne_of_beq_eq_false rfl)).trans ((tb_up_ne (Nat.ne_of_beq_eq_false rfl)).trans ((tb_up_ne (Nat.ne_of_beq_eq_false rfl)).trans (tb_up_eq.trans rfl)))))))))))))
set_option maxRecDepth 4000 in
theorem zc_MD_110 {cs : Nat → ClassId} {ad : Nat → Nat} {S : Nat → va_E} : z_MD cs ad S 110 = tw_sh cs ad (tw_lay 110) (M0 110) := by
  unfold z_MD
  exact (tb_up_ne (Nat.ne_of_beq_eq_false rfl)).trans ((tb_up_ne (Nat.ne_of_beq_eq_false rfl)).trans ((tb_up_ne (Nat.ne_of_beq_eq_false rfl)).trans ((tb_up_ne (Nat.ne_of_beq_eq_false rfl)).trans ((tb_up_ne (Nat.ne_of_beq_eq_false rfl)).trans ((tb_up_ne (Nat.ne_of_beq_eq_false rfl)).trans ((tb_up_ne (Nat.ne_of_beq_eq_false rfl)).trans ((tb_up_ne (Nat.ne_of_beq_eq_false rfl)).trans ((tb_up_ne (Nat.ne_of_beq_eq_false rfl)).trans ((tb_up_ne (Nat.ne_of_beq_eq_false rfl)).trans ((tb_up_ne (Nat.ne_of_beq_eq_false rfl)).trans (tb_up_eq.trans rfl)))))))))))
set_option maxRecDepth 4000 in
theorem zc_MD_111 {cs : Nat → ClassId} {ad : Nat → Nat} {S : Nat → va_E} : z_MD cs ad S 111 = tw_sh cs ad (tw_lay 111) (M0 111) := by
  unfold z_MD
  exact (tb_up_ne (Nat.ne_of_beq_eq_false rfl)).trans ((tb_up_ne (Nat.ne_of_beq_eq_false rfl)).trans ((tb_up_ne (Nat.ne_of_beq_eq_false rfl)).trans ((tb_up_ne (Nat.ne_of_beq_eq_false rfl)).trans ((tb_up_ne (Nat.ne_of_beq_eq_false rfl)).trans ((tb_up_ne (Nat.ne_of_beq_eq_false rfl)).trans ((tb_up_ne (Nat.ne_of_beq_eq_false rfl)).trans ((tb_up_ne (Nat.ne_of_beq_eq_false rfl)).trans ((tb_up_ne (Nat.ne_of_beq_eq_false rfl)).trans (tb_up_eq.trans rfl)))))))))
set_option maxRecDepth 4000 in
theorem zc_MD_112 {cs : Nat → ClassId} {ad : Nat → Nat} {S : Nat → va_E} : z_MD cs ad S 112 = tw_sh cs ad (tw_lay 112) (M0 112) := by
  unfold z_MD
  exact (tb_up_ne (Nat.ne_of_beq_eq_false rfl)).trans ((tb_up_ne (Nat.ne_of_beq_eq_false rfl)).trans ((tb_up_ne (Nat.ne_of_beq_eq_false rfl)).trans ((tb_up_ne (Nat.ne_of_beq_eq_false rfl)).trans ((tb_up_ne (Nat.ne_of_beq_eq_false rfl)).trans ((tb_up_ne (Nat.ne_of_beq_eq_false rfl)).trans ((tb_up_ne (Nat.ne_of_beq_eq_false rfl)).trans (tb_up_eq.trans rfl)))))))
set_option maxRecDepth 4000 in
theorem zc_MD_113 {cs : Nat → ClassId} {ad : Nat → Nat} {S : Nat → va_E} : z_MD cs ad S 113 = tw_sh cs ad (tw_lay 113) (M0 113) := by
  unfold z_MD
  exact (tb_up_ne (Nat.ne_of_beq_eq_false rfl)).trans ((tb_up_ne (Nat.ne_of_beq_eq_false rfl)).trans ((tb_up_ne (Nat.ne_of_beq_eq_false rfl)).trans ((tb_up_ne (Nat.ne_of_beq_eq_false rfl)).trans ((tb_up_ne (Nat.ne_of_beq_eq_false rfl)).trans (tb_up_eq.trans rfl)))))
set_option maxRecDepth 4000 in
theorem zc_MD_114 {cs : Nat → ClassId} {ad : Nat → Nat} {S : Nat → va_E} : z_MD cs ad S 114 = tw_sh cs ad (tw_lay 114) (M0 114) := by
  unfold z_MD
  exact (tb_up_ne (Nat.ne_of_beq_eq_false rfl)).trans ((tb_up_ne (Nat.ne_of_beq_eq_false rfl)).trans ((tb_up_ne (Nat.ne_of_beq_eq_false rfl)).trans (tb_up_eq.trans rfl)))
set_option maxRecDepth 4000 in
theorem zc_MD_115 {cs : Nat → ClassId} {ad : Nat → Nat} {S : Nat → va_E} : z_MD cs ad S 115 = tw_sh cs ad (tw_lay 115) (M0 115) := by
  unfold z_MD
  exact (tb_up_ne (Nat.ne_of_beq_eq_false rfl)).trans (tb_up_eq.trans rfl)
set_option maxRecDepth 4000 in
theorem zc_LW_0 {cs : Nat → ClassId} {ad : Nat → Nat} {S : Nat → va_E} : z_LW cs ad S 0 = tw_sh cs ad (tw_lay 0) (M0 0) := by
  unfold z_LW
  exact (zo_MD (Nat.ne_of_beq_eq_false rfl) (Or.inl (Nat.le_of_ble_eq_true rfl))).trans ((tb_up_ne (Nat.ne_of_beq_eq_false rfl)).trans (zc_TW_0))
set_option maxRecDepth 4000 in
theorem zc_LW_1 {cs : Nat → ClassId} {ad : Nat → Nat} {S : Nat → va_E} : z_LW cs ad S 1 = tw_sh cs ad (tw_lay 1) (M0 1) := by
  unfold z_LW
  exact (zo_MD (Nat.ne_of_beq_eq_false rfl) (Or.inl (Nat.le_of_ble_eq_true rfl))).trans ((tb_up_ne (Nat.ne_of_beq_eq_false rfl)).trans (zc_TW_1))
set_option maxRecDepth 4000 in
theorem zc_LW_2 {cs : Nat → ClassId} {ad : Nat → Nat} {S : Nat → va_E} : z_LW cs ad S 2 = tw_sh cs ad (tw_lay 2) (M0 2) := by
  unfold z_LW
  exact (zo_MD (Nat.ne_of_beq_eq_false rfl) (Or.inl (Nat.le_of_ble_eq_true rfl))).trans ((tb_up_ne (Nat.ne_of_beq_eq_false rfl)).trans (zc_TW_2))
set_option maxRecDepth 4000 in
theorem zc_LW_3 {cs : Nat → ClassId} {ad : Nat → Nat} {S : Nat → va_E} : z_LW cs ad S 3 = tw_sh cs ad (tw_lay 3) (M0 3) := by
  unfold z_LW
  exact (zo_MD (Nat.ne_of_beq_eq_false rfl) (Or.inl (Nat.le_of_ble_eq_true rfl))).trans ((tb_up_ne (Nat.ne_of_beq_eq_false rfl)).trans (zc_TW_3))
set_option maxRecDepth 4000 in
theorem zc_LW_4 {cs : Nat → ClassId} {ad : Nat → Nat} {S : Nat → va_E} : z_LW cs ad S 4 = tw_sh cs ad (tw_lay 4) (M0 4) := by
  unfold z_LW
  exact (zo_MD (Nat.ne_of_beq_eq_false rfl) (Or.inl (Nat.le_of_ble_eq_true rfl))).trans ((tb_up_ne (Nat.ne_of_beq_eq_false rfl)).trans (zc_TW_4))
set_option maxRecDepth 4000 in
theorem zc_LW_5 {cs : Nat → ClassId} {ad : Nat → Nat} {S : Nat → va_E} : z_LW cs ad S 5 = tw_sh cs ad (tw_lay 5) (M0 5) := by
  unfold z_LW
  exact (zo_MD (Nat.ne_of_beq_eq_false rfl) (Or.inl (Nat.le_of_ble_eq_true rfl))).trans ((tb_up_ne (Nat.ne_of_beq_eq_false rfl)).trans (zc_TW_5))
set_option maxRecDepth 4000 in
theorem zc_LW_6 {cs : Nat → ClassId} {ad : Nat → Nat} {S : Nat → va_E} : z_LW cs ad S 6 = tw_sh cs ad (tw_lay 6) (M0 6) := by
  unfold z_LW
  exact (zo_MD (Nat.ne_of_beq_eq_false rfl) (Or.inl (Nat.le_of_ble_eq_true rfl))).trans ((tb_up_ne (Nat.ne_of_beq_eq_false rfl)).trans (zc_TW_6))
set_option maxRecDepth 4000 in
theorem zc_LW_7 {cs : Nat → ClassId} {ad : Nat → Nat} {S : Nat → va_E} : z_LW cs ad S 7 = tw_sh cs ad (tw_lay 7) (M0 7) := by
  unfold z_LW
  exact (zo_MD (Nat.ne_of_beq_eq_false rfl) (Or.inl (Nat.le_of_ble_eq_true rfl))).trans ((tb_up_ne (Nat.ne_of_beq_eq_false rfl)).trans (zc_TW_7))
set_option maxRecDepth 4000 in
theorem zc_LW_8 {cs : Nat → ClassId} {ad : Nat → Nat} {S : Nat → va_E} : z_LW cs ad S 8 = tw_sh cs ad (tw_lay 8) (M0 8) := by
  unfold z_LW
  exact (zo_MD (Nat.ne_of_beq_eq_false rfl) (Or.inl (Nat.le_of_ble_eq_true rfl))).trans ((tb_up_ne (Nat.ne_of_beq_eq_false rfl)).trans (zc_TW_8))
set_option maxRecDepth 4000 in
theorem zc_LW_9 {cs : Nat → ClassId} {ad : Nat → Nat} {S : Nat → va_E} : z_LW cs ad S 9 = tw_sh cs ad (tw_lay 9) (M0 9) := by
  unfold z_LW
  exact (zo_MD (Nat.ne_of_beq_eq_false rfl) (Or.inl (Nat.le_of_ble_eq_true rfl))).trans ((tb_up_ne (Nat.ne_of_beq_eq_false rfl)).trans (zc_TW_9))
set_option maxRecDepth 4000 in
theorem zc_LW_10 {cs : Nat → ClassId} {ad : Nat → Nat} {S : Nat → va_E} : z_LW cs ad S 10 = tw_sh cs ad (tw_lay 10) (M0 10) := by
  unfold z_LW
  exact (zo_MD (Nat.ne_of_beq_eq_false rfl) (Or.inl (Nat.le_of_ble_eq_true rfl))).trans ((tb_up_ne (Nat.ne_of_beq_eq_false rfl)).trans (zc_TW_10))
set_option maxRecDepth 4000 in
theorem zc_LW_11 {cs : Nat → ClassId} {ad : Nat → Nat} {S : Nat → va_E} : z_LW cs ad S 11 = tw_sh cs ad (tw_lay 11) (M0 11) := by
  unfold z_LW
  exact (zo_MD (Nat.ne_of_beq_eq_false rfl) (Or.inl (Nat.le_of_ble_eq_true rfl))).trans ((tb_up_ne (Nat.ne_of_beq_eq_false rfl)).trans (zc_TW_11))
set_option maxRecDepth 4000 in
theorem zc_LW_12 {cs : Nat → ClassId} {ad : Nat → Nat} {S : Nat → va_E} : z_LW cs ad S 12 = tw_sh cs ad (tw_lay 12) (M0 12) := by
  unfold z_LW
  exact (zo_MD (Nat.ne_of_beq_eq_false rfl) (Or.inl (Nat.le_of_ble_eq_true rfl))).trans ((tb_up_ne (Nat.ne_of_beq_eq_false rfl)).trans (zc_TW_12))
set_option maxRecDepth 4000 in
theorem zc_LW_13 {cs : Nat → ClassId} {ad : Nat → Nat} {S : Nat → va_E} : z_LW cs ad S 13 = tw_sh cs ad (tw_lay 13) (M0 13) := by
  unfold z_LW
  exact (zo_MD (Nat.ne_of_beq_eq_false rfl) (Or.inl (Nat.le_of_ble_eq_true rfl))).trans ((tb_up_ne (Nat.ne_of_beq_eq_false rfl)).trans (zc_TW_13))
set_option maxRecDepth 4000 in
theorem zc_LW_14 {cs : Nat → ClassId} {ad : Nat → Nat} {S : Nat → va_E} : z_LW cs ad S 14 = tw_sh cs ad (tw_lay 14) (M0 14) := by
  unfold z_LW
  exact (zo_MD (Nat.ne_of_beq_eq_false rfl) (Or.inl (Nat.le_of_ble_eq_true rfl))).trans ((tb_up_ne (Nat.ne_of_beq_eq_false rfl)).trans (zc_TW_14))
set_option maxRecDepth 4000 in
theorem zc_LW_15 {cs : Nat → ClassId} {ad : Nat → Nat} {S : Nat → va_E} : z_LW cs ad S 15 = tw_sh cs ad (tw_lay 15) (M0 15) := by
  unfold z_LW
  exact (zo_MD (Nat.ne_of_beq_eq_false rfl) (Or.inl (Nat.le_of_ble_eq_true rfl))).trans ((tb_up_ne (Nat.ne_of_beq_eq_false rfl)).trans (zc_TW_15))
set_option maxRecDepth 4000 in
theorem zc_LW_16 {cs : Nat → ClassId} {ad : Nat → Nat} {S : Nat → va_E} : z_LW cs ad S 16 = tw_sh cs ad (tw_lay 16) (M0 16) := by
  unfold z_LW
  exact (zo_MD (Nat.ne_of_beq_eq_false rfl) (Or.inl (Nat.le_of_ble_eq_true rfl))).trans ((tb_up_ne (Nat.ne_of_beq_eq_false rfl)).trans (zc_TW_16))
set_option maxRecDepth 4000 in
theorem zc_LW_17 {cs : Nat → ClassId} {ad : Nat → Nat} {S : Nat → va_E} : z_LW cs ad S 17 = tw_sh cs ad (tw_lay 17) (M0 17) := by
  unfold z_LW
  exact (zo_MD (Nat.ne_of_beq_eq_false rfl) (Or.inl (Nat.le_of_ble_eq_true rfl))).trans ((tb_up_ne (Nat.ne_of_beq_eq_false rfl)).trans (zc_TW_17))
set_option maxRecDepth 4000 in
theorem zc_LW_18 {cs : Nat → ClassId} {ad : Nat → Nat} {S : Nat → va_E} : z_LW cs ad S 18 = tw_sh cs ad (tw_lay 18) (M0 18) := by
  unfold z_LW
  exact (zo_MD (Nat.ne_of_beq_eq_false rfl) (Or.inl (Nat.le_of_ble_eq_true rfl))).trans ((tb_up_ne (Nat.ne_of_beq_eq_false rfl)).trans (zc_TW_18))
set_option maxRecDepth 4000 in
theorem zc_LW_19 {cs : Nat → ClassId} {ad : Nat → Nat} {S : Nat → va_E} : z_LW cs ad S 19 = tw_sh cs ad (tw_lay 19) (M0 19) := by
  unfold z_LW
  exact (zo_MD (Nat.ne_of_beq_eq_false rfl) (Or.inl (Nat.le_of_ble_eq_true rfl))).trans ((tb_up_ne (Nat.ne_of_beq_eq_false rfl)).trans (zc_TW_19))
set_option maxRecDepth 4000 in
theorem zc_LW_20 {cs : Nat → ClassId} {ad : Nat → Nat} {S : Nat → va_E} : z_LW cs ad S 20 = tw_sh cs ad (tw_lay 20) (M0 20) := by
  unfold z_LW
  exact (zo_MD (Nat.ne_of_beq_eq_false rfl) (Or.inl (Nat.le_of_ble_eq_true rfl))).trans ((tb_up_ne (Nat.ne_of_beq_eq_false rfl)).trans (zc_TW_20))
set_option maxRecDepth 4000 in
theorem zc_LW_21 {cs : Nat → ClassId} {ad : Nat → Nat} {S : Nat → va_E} : z_LW cs ad S 21 = tw_sh cs ad (tw_lay 21) (M0 21) := by
  unfold z_LW
  exact (zo_MD (Nat.ne_of_beq_eq_false rfl) (Or.inl (Nat.le_of_ble_eq_true rfl))).trans ((tb_up_ne (Nat.ne_of_beq_eq_false rfl)).trans (zc_TW_21))
set_option maxRecDepth 4000 in
theorem zc_LW_22 {cs : Nat → ClassId} {ad : Nat → Nat} {S : Nat → va_E} : z_LW cs ad S 22 = tw_sh cs ad (tw_lay 22) (M0 22) := by
  unfold z_LW
  exact (zo_MD (Nat.ne_of_beq_eq_false rfl) (Or.inl (Nat.le_of_ble_eq_true rfl))).trans ((tb_up_ne (Nat.ne_of_beq_eq_false rfl)).trans (zc_TW_22))
set_option maxRecDepth 4000 in
theorem zc_LW_23 {cs : Nat → ClassId} {ad : Nat → Nat} {S : Nat → va_E} : z_LW cs ad S 23 = tw_sh cs ad (tw_lay 23) (M0 23) := by
  unfold z_LW
  exact (zo_MD (Nat.ne_of_beq_eq_false rfl) (Or.inl (Nat.le_of_ble_eq_true rfl))).trans ((tb_up_ne (Nat.ne_of_beq_eq_false rfl)).trans (zc_TW_23))
set_option maxRecDepth 4000 in
theorem zc_LW_24 {cs : Nat → ClassId} {ad : Nat → Nat} {S : Nat → va_E} : z_LW cs ad S 24 = tw_sh cs ad (tw_lay 24) (M0 24) := by
  unfold z_LW
  exact (zo_MD (Nat.ne_of_beq_eq_false rfl) (Or.inl (Nat.le_of_ble_eq_true rfl))).trans ((tb_up_ne (Nat.ne_of_beq_eq_false rfl)).trans (zc_TW_24))
set_option maxRecDepth 4000 in
theorem zc_LW_25 {cs : Nat → ClassId} {ad : Nat → Nat} {S : Nat → va_E} : z_LW cs ad S 25 = tw_sh cs ad (tw_lay 25) (M0 25) := by
  unfold z_LW
  exact (zo_MD (Nat.ne_of_beq_eq_false rfl) (Or.inl (Nat.le_of_ble_eq_true rfl))).trans ((tb_up_ne (Nat.ne_of_beq_eq_false rfl)).trans (zc_TW_25))
set_option maxRecDepth 4000 in
theorem zc_LW_26 {cs : Nat → ClassId} {ad : Nat → Nat} {S : Nat → va_E} : z_LW cs ad S 26 = tw_sh cs ad (tw_lay 26) (M0 26) := by
  unfold z_LW
  exact (zo_MD (Nat.ne_of_beq_eq_false rfl) (Or.inl (Nat.le_of_ble_eq_true rfl))).trans ((tb_up_ne (Nat.ne_of_beq_eq_false rfl)).trans (zc_TW_26))
set_option maxRecDepth 4000 in
theorem zc_LW_27 {cs : Nat → ClassId} {ad : Nat → Nat} {S : Nat → va_E} : z_LW cs ad S 27 = tw_sh cs ad (tw_lay 27) (M0 27) := by
  unfold z_LW
  exact (zo_MD (Nat.ne_of_beq_eq_false rfl) (Or.inl (Nat.le_of_ble_eq_true rfl))).trans ((tb_up_ne (Nat.ne_of_beq_eq_false rfl)).trans (zc_TW_27))
set_option maxRecDepth 4000 in
theorem zc_LW_28 {cs : Nat → ClassId} {ad : Nat → Nat} {S : Nat → va_E} : z_LW cs ad S 28 = tw_sh cs ad (tw_lay 28) (M0 28) := by
  unfold z_LW
  exact (zo_MD (Nat.ne_of_beq_eq_false rfl) (Or.inl (Nat.le_of_ble_eq_true rfl))).trans ((tb_up_ne (Nat.ne_of_beq_eq_false rfl)).trans (zc_TW_28))
set_option maxRecDepth 4000 in
theorem zc_LW_29 {cs : Nat → ClassId} {ad : Nat → Nat} {S : Nat → va_E} : z_LW cs ad S 29 = tw_sh cs ad (tw_lay 29) (M0 29) := by
  unfold z_LW
  exact (zo_MD (Nat.ne_of_beq_eq_false rfl) (Or.inl (Nat.le_of_ble_eq_true rfl))).trans ((tb_up_ne (Nat.ne_of_beq_eq_false rfl)).trans (zc_TW_29))
set_option maxRecDepth 4000 in
theorem zc_LW_30 {cs : Nat → ClassId} {ad : Nat → Nat} {S : Nat → va_E} : z_LW cs ad S 30 = tw_sh cs ad (tw_lay 30) (M0 30) := by
  unfold z_LW
  exact (zo_MD (Nat.ne_of_beq_eq_false rfl) (Or.inl (Nat.le_of_ble_eq_true rfl))).trans ((tb_up_ne (Nat.ne_of_beq_eq_false rfl)).trans (zc_TW_30))
set_option maxRecDepth 4000 in
theorem zc_LW_31 {cs : Nat → ClassId} {ad : Nat → Nat} {S : Nat → va_E} : z_LW cs ad S 31 = tw_sh cs ad (tw_lay 31) (M0 31) := by
  unfold z_LW
  exact (zo_MD (Nat.ne_of_beq_eq_false rfl) (Or.inl (Nat.le_of_ble_eq_true rfl))).trans ((tb_up_ne (Nat.ne_of_beq_eq_false rfl)).trans (zc_TW_31))
set_option maxRecDepth 4000 in
theorem zc_LW_32 {cs : Nat → ClassId} {ad : Nat → Nat} {S : Nat → va_E} : z_LW cs ad S 32 = tw_sh cs ad (tw_lay 32) (M0 32) := by
  unfold z_LW
  exact (zo_MD (Nat.ne_of_beq_eq_false rfl) (Or.inl (Nat.le_of_ble_eq_true rfl))).trans ((tb_up_ne (Nat.ne_of_beq_eq_false rfl)).trans (zc_TW_32))
set_option maxRecDepth 4000 in
theorem zc_LW_33 {cs : Nat → ClassId} {ad : Nat → Nat} {S : Nat → va_E} : z_LW cs ad S 33 = tw_sh cs ad (tw_lay 33) (M0 33) := by
  unfold z_LW
  exact (zo_MD (Nat.ne_of_beq_eq_false rfl) (Or.inl (Nat.le_of_ble_eq_true rfl))).trans ((tb_up_ne (Nat.ne_of_beq_eq_false rfl)).trans (zc_TW_33))
set_option maxRecDepth 4000 in
theorem zc_LW_34 {cs : Nat → ClassId} {ad : Nat → Nat} {S : Nat → va_E} : z_LW cs ad S 34 = tw_sh cs ad (tw_lay 34) (M0 34) := by
  unfold z_LW
  exact (zo_MD (Nat.ne_of_beq_eq_false rfl) (Or.inl (Nat.le_of_ble_eq_true rfl))).trans ((tb_up_ne (Nat.ne_of_beq_eq_false rfl)).trans (zc_TW_34))
set_option maxRecDepth 4000 in
theorem zc_LW_35 {cs : Nat → ClassId} {ad : Nat → Nat} {S : Nat → va_E} : z_LW cs ad S 35 = tw_sh cs ad (tw_lay 35) (M0 35) := by
  unfold z_LW
  exact (zo_MD (Nat.ne_of_beq_eq_false rfl) (Or.inl (Nat.le_of_ble_eq_true rfl))).trans ((tb_up_ne (Nat.ne_of_beq_eq_false rfl)).trans (zc_TW_35))
set_option maxRecDepth 4000 in
theorem zc_LW_36 {cs : Nat → ClassId} {ad : Nat → Nat} {S : Nat → va_E} : z_LW cs ad S 36 = tw_sh cs ad (tw_lay 36) (M0 36) := by
  unfold z_LW
  exact (zo_MD (Nat.ne_of_beq_eq_false rfl) (Or.inl (Nat.le_of_ble_eq_true rfl))).trans ((tb_up_ne (Nat.ne_of_beq_eq_false rfl)).trans (zc_TW_36))
set_option maxRecDepth 4000 in
theorem zc_LW_37 {cs : Nat → ClassId} {ad : Nat → Nat} {S : Nat → va_E} : z_LW cs ad S 37 = tw_sh cs ad (tw_lay 37) (M0 37) := by
  unfold z_LW
  exact (zo_MD (Nat.ne_of_beq_eq_false rfl) (Or.inl (Nat.le_of_ble_eq_true rfl))).trans ((tb_up_ne (Nat.ne_of_beq_eq_false rfl)).trans (zc_TW_37))
set_option maxRecDepth 4000 in
theorem zc_LW_38 {cs : Nat → ClassId} {ad : Nat → Nat} {S : Nat → va_E} : z_LW cs ad S 38 = tw_sh cs ad (tw_lay 38) (M0 38) := by
  unfold z_LW
  exact (zo_MD (Nat.ne_of_beq_eq_false rfl) (Or.inl (Nat.le_of_ble_eq_true rfl))).trans ((tb_up_ne (Nat.ne_of_beq_eq_false rfl)).trans (zc_TW_38))
set_option maxRecDepth 4000 in
theorem zc_LW_39 {cs : Nat → ClassId} {ad : Nat → Nat} {S : Nat → va_E} : z_LW cs ad S 39 = tw_sh cs ad (tw_lay 39) (M0 39) := by
  unfold z_LW
  exact (zo_MD (Nat.ne_of_beq_eq_false rfl) (Or.inl (Nat.le_of_ble_eq_true rfl))).trans ((tb_up_ne (Nat.ne_of_beq_eq_false rfl)).trans (zc_TW_39))
set_option maxRecDepth 4000 in
theorem zc_LW_40 {cs : Nat → ClassId} {ad : Nat → Nat} {S : Nat → va_E} : z_LW cs ad S 40 = tw_sh cs ad (tw_lay 40) (M0 40) := by
  unfold z_LW
  exact (zo_MD (Nat.ne_of_beq_eq_false rfl) (Or.inl (Nat.le_of_ble_eq_true rfl))).trans ((tb_up_ne (Nat.ne_of_beq_eq_false rfl)).trans (zc_TW_40))
set_option maxRecDepth 4000 in
theorem zc_LW_41 {cs : Nat → ClassId} {ad : Nat → Nat} {S : Nat → va_E} : z_LW cs ad S 41 = tw_sh cs ad (tw_lay 41) (M0 41) := by
  unfold z_LW
  exact (zo_MD (Nat.ne_of_beq_eq_false rfl) (Or.inl (Nat.le_of_ble_eq_true rfl))).trans ((tb_up_ne (Nat.ne_of_beq_eq_false rfl)).trans (zc_TW_41))
set_option maxRecDepth 4000 in
theorem zc_LW_42 {cs : Nat → ClassId} {ad : Nat → Nat} {S : Nat → va_E} : z_LW cs ad S 42 = tw_sh cs ad (tw_lay 42) (M0 42) := by
  unfold z_LW
  exact (zo_MD (Nat.ne_of_beq_eq_false rfl) (Or.inl (Nat.le_of_ble_eq_true rfl))).trans ((tb_up_ne (Nat.ne_of_beq_eq_false rfl)).trans (zc_TW_42))
set_option maxRecDepth 4000 in
theorem zc_LW_43 {cs : Nat → ClassId} {ad : Nat → Nat} {S : Nat → va_E} : z_LW cs ad S 43 = tw_sh cs ad (tw_lay 43) (M0 43) := by
  unfold z_LW
  exact (zo_MD (Nat.ne_of_beq_eq_false rfl) (Or.inl (Nat.le_of_ble_eq_true rfl))).trans ((tb_up_ne (Nat.ne_of_beq_eq_false rfl)).trans (zc_TW_43))
set_option maxRecDepth 4000 in
theorem zc_LW_44 {cs : Nat → ClassId} {ad : Nat → Nat} {S : Nat → va_E} : z_LW cs ad S 44 = tw_sh cs ad (tw_lay 44) (M0 44) := by
  unfold z_LW
  exact (zo_MD (Nat.ne_of_beq_eq_false rfl) (Or.inl (Nat.le_of_ble_eq_true rfl))).trans ((tb_up_ne (Nat.ne_of_beq_eq_false rfl)).trans (zc_TW_44))
set_option maxRecDepth 4000 in
theorem zc_LW_45 {cs : Nat → ClassId} {ad : Nat → Nat} {S : Nat → va_E} : z_LW cs ad S 45 = tw_sh cs ad (tw_lay 45) (M0 45) := by
  unfold z_LW
  exact (zo_MD (Nat.ne_of_beq_eq_false rfl) (Or.inl (Nat.le_of_ble_eq_true rfl))).trans ((tb_up_ne (Nat.ne_of_beq_eq_false rfl)).trans (zc_TW_45))
set_option maxRecDepth 4000 in
theorem zc_LW_46 {cs : Nat → ClassId} {ad : Nat → Nat} {S : Nat → va_E} : z_LW cs ad S 46 = tw_sh cs ad (tw_lay 46) (M0 46) := by
  unfold z_LW
  exact (zo_MD (Nat.ne_of_beq_eq_false rfl) (Or.inl (Nat.le_of_ble_eq_true rfl))).trans ((tb_up_ne (Nat.ne_of_beq_eq_false rfl)).trans (zc_TW_46))
set_option maxRecDepth 4000 in
theorem zc_LW_47 {cs : Nat → ClassId} {ad : Nat → Nat} {S : Nat → va_E} : z_LW cs ad S 47 = tw_sh cs ad (tw_lay 47) (M0 47) := by
  unfold z_LW
  exact (zo_MD (Nat.ne_of_beq_eq_false rfl) (Or.inl (Nat.le_of_ble_eq_true rfl))).trans ((tb_up_ne (Nat.ne_of_beq_eq_false rfl)).trans (zc_TW_47))
set_option maxRecDepth 4000 in
theorem zc_LW_48 {cs : Nat → ClassId} {ad : Nat → Nat} {S : Nat → va_E} : z_LW cs ad S 48 = tw_sh cs ad (tw_lay 48) (M0 48) := by
  unfold z_LW
  exact (zo_MD (Nat.ne_of_beq_eq_false rfl) (Or.inl (Nat.le_of_ble_eq_true rfl))).trans ((tb_up_ne (Nat.ne_of_beq_eq_false rfl)).trans (zc_TW_48))
set_option maxRecDepth 4000 in
theorem zc_LW_49 {cs : Nat → ClassId} {ad : Nat → Nat} {S : Nat → va_E} : z_LW cs ad S 49 = tw_sh cs ad (tw_lay 49) (M0 49) := by
  unfold z_LW
  exact (zo_MD (Nat.ne_of_beq_eq_false rfl) (Or.inl (Nat.le_of_ble_eq_true rfl))).trans ((tb_up_ne (Nat.ne_of_beq_eq_false rfl)).trans (zc_TW_49))
set_option maxRecDepth 4000 in
theorem zc_LW_50 {cs : Nat → ClassId} {ad : Nat → Nat} {S : Nat → va_E} : z_LW cs ad S 50 = tw_sh cs ad (tw_lay 50) (M0 50) := by
  unfold z_LW
  exact (zo_MD (Nat.ne_of_beq_eq_false rfl) (Or.inl (Nat.le_of_ble_eq_true rfl))).trans ((tb_up_ne (Nat.ne_of_beq_eq_false rfl)).trans (zc_TW_50))
set_option maxRecDepth 4000 in
theorem zc_LW_51 {cs : Nat → ClassId} {ad : Nat → Nat} {S : Nat → va_E} : z_LW cs ad S 51 = tw_sh cs ad (tw_lay 51) (M0 51) := by
  unfold z_LW
  exact (zo_MD (Nat.ne_of_beq_eq_false rfl) (Or.inl (Nat.le_of_ble_eq_true rfl))).trans ((tb_up_ne (Nat.ne_of_beq_eq_false rfl)).trans (zc_TW_51))
set_option maxRecDepth 4000 in
theorem zc_LW_52 {cs : Nat → ClassId} {ad : Nat → Nat} {S : Nat → va_E} : z_LW cs ad S 52 = tw_sh cs ad (tw_lay 52) (M0 52) := by
  unfold z_LW
  exact (zo_MD (Nat.ne_of_beq_eq_false rfl) (Or.inl (Nat.le_of_ble_eq_true rfl))).trans ((tb_up_ne (Nat.ne_of_beq_eq_false rfl)).trans (zc_TW_52))
set_option maxRecDepth 4000 in
theorem zc_LW_53 {cs : Nat → ClassId} {ad : Nat → Nat} {S : Nat → va_E} : z_LW cs ad S 53 = tw_sh cs ad (tw_lay 53) (M0 53) := by
  unfold z_LW
  exact (zo_MD (Nat.ne_of_beq_eq_false rfl) (Or.inl (Nat.le_of_ble_eq_true rfl))).trans ((tb_up_ne (Nat.ne_of_beq_eq_false rfl)).trans (zc_TW_53))
set_option maxRecDepth 4000 in
theorem zc_LW_54 {cs : Nat → ClassId} {ad : Nat → Nat} {S : Nat → va_E} : z_LW cs ad S 54 = tw_sh cs ad (tw_lay 54) (M0 54) := by
  unfold z_LW
  exact (zo_MD (Nat.ne_of_beq_eq_false rfl) (Or.inl (Nat.le_of_ble_eq_true rfl))).trans ((tb_up_ne (Nat.ne_of_beq_eq_false rfl)).trans (zc_TW_54))
set_option maxRecDepth 4000 in
theorem zc_LW_55 {cs : Nat → ClassId} {ad : Nat → Nat} {S : Nat → va_E} : z_LW cs ad S 55 = tw_sh cs ad (tw_lay 55) (M0 55) := by
  unfold z_LW
  exact (zo_MD (Nat.ne_of_beq_eq_false rfl) (Or.inl (Nat.le_of_ble_eq_true rfl))).trans ((tb_up_ne (Nat.ne_of_beq_eq_false rfl)).trans (zc_TW_55))
set_option maxRecDepth 4000 in
theorem zc_LW_56 {cs : Nat → ClassId} {ad : Nat → Nat} {S : Nat → va_E} : z_LW cs ad S 56 = tw_sh cs ad (tw_lay 56) (M0 56) := by
  unfold z_LW
  exact (zo_MD (Nat.ne_of_beq_eq_false rfl) (Or.inl (Nat.le_of_ble_eq_true rfl))).trans ((tb_up_ne (Nat.ne_of_beq_eq_false rfl)).trans (zc_TW_56))
set_option maxRecDepth 4000 in
theorem zc_LW_57 {cs : Nat → ClassId} {ad : Nat → Nat} {S : Nat → va_E} : z_LW cs ad S 57 = tw_sh cs ad (tw_lay 57) (M0 57) := by
  unfold z_LW
  exact (zo_MD (Nat.ne_of_beq_eq_false rfl) (Or.inl (Nat.le_of_ble_eq_true rfl))).trans ((tb_up_ne (Nat.ne_of_beq_eq_false rfl)).trans (zc_TW_57))
set_option maxRecDepth 4000 in
theorem zc_LW_58 {cs : Nat → ClassId} {ad : Nat → Nat} {S : Nat → va_E} : z_LW cs ad S 58 = tw_sh cs ad (tw_lay 58) (M0 58) := by
  unfold z_LW
  exact (zo_MD (Nat.ne_of_beq_eq_false rfl) (Or.inl (Nat.le_of_ble_eq_true rfl))).trans ((tb_up_ne (Nat.ne_of_beq_eq_false rfl)).trans (zc_TW_58))
set_option maxRecDepth 4000 in
theorem zc_LW_59 {cs : Nat → ClassId} {ad : Nat → Nat} {S : Nat → va_E} : z_LW cs ad S 59 = tw_sh cs ad (tw_lay 59) (M0 59) := by
  unfold z_LW
  exact (zo_MD (Nat.ne_of_beq_eq_false rfl) (Or.inl (Nat.le_of_ble_eq_true rfl))).trans ((tb_up_ne (Nat.ne_of_beq_eq_false rfl)).trans (zc_TW_59))
set_option maxRecDepth 4000 in
theorem zc_LW_60 {cs : Nat → ClassId} {ad : Nat → Nat} {S : Nat → va_E} : z_LW cs ad S 60 = tw_sh cs ad (tw_lay 60) (M0 60) := by
  unfold z_LW
  exact (zo_MD (Nat.ne_of_beq_eq_false rfl) (Or.inl (Nat.le_of_ble_eq_true rfl))).trans ((tb_up_ne (Nat.ne_of_beq_eq_false rfl)).trans (zc_TW_60))
set_option maxRecDepth 4000 in
theorem zc_LW_61 {cs : Nat → ClassId} {ad : Nat → Nat} {S : Nat → va_E} : z_LW cs ad S 61 = tw_sh cs ad (tw_lay 61) (M0 61) := by
  unfold z_LW
  exact (zo_MD (Nat.ne_of_beq_eq_false rfl) (Or.inl (Nat.le_of_ble_eq_true rfl))).trans ((tb_up_ne (Nat.ne_of_beq_eq_false rfl)).trans (zc_TW_61))
set_option maxRecDepth 4000 in
theorem zc_LW_62 {cs : Nat → ClassId} {ad : Nat → Nat} {S : Nat → va_E} : z_LW cs ad S 62 = tw_sh cs ad (tw_lay 62) (M0 62) := by
  unfold z_LW
  exact (zo_MD (Nat.ne_of_beq_eq_false rfl) (Or.inl (Nat.le_of_ble_eq_true rfl))).trans ((tb_up_ne (Nat.ne_of_beq_eq_false rfl)).trans (zc_TW_62))
set_option maxRecDepth 4000 in
theorem zc_LW_63 {cs : Nat → ClassId} {ad : Nat → Nat} {S : Nat → va_E} : z_LW cs ad S 63 = tw_sh cs ad (tw_lay 63) (M0 63) := by
  unfold z_LW
  exact (zo_MD (Nat.ne_of_beq_eq_false rfl) (Or.inl (Nat.le_of_ble_eq_true rfl))).trans ((tb_up_ne (Nat.ne_of_beq_eq_false rfl)).trans (zc_TW_63))
set_option maxRecDepth 4000 in
theorem zc_LW_64 {cs : Nat → ClassId} {ad : Nat → Nat} {S : Nat → va_E} : z_LW cs ad S 64 = tw_sh cs ad (tw_lay 64) (M0 64) := by
  unfold z_LW
  exact (zo_MD (Nat.ne_of_beq_eq_false rfl) (Or.inl (Nat.le_of_ble_eq_true rfl))).trans ((tb_up_ne (Nat.ne_of_beq_eq_false rfl)).trans (zc_TW_64))
set_option maxRecDepth 4000 in
theorem zc_LW_65 {cs : Nat → ClassId} {ad : Nat → Nat} {S : Nat → va_E} : z_LW cs ad S 65 = tw_sh cs ad (tw_lay 65) (M0 65) := by
  unfold z_LW
  exact (zo_MD (Nat.ne_of_beq_eq_false rfl) (Or.inl (Nat.le_of_ble_eq_true rfl))).trans ((tb_up_ne (Nat.ne_of_beq_eq_false rfl)).trans (zc_TW_65))
set_option maxRecDepth 4000 in
theorem zc_LW_66 {cs : Nat → ClassId} {ad : Nat → Nat} {S : Nat → va_E} : z_LW cs ad S 66 = tw_sh cs ad (tw_lay 66) (M0 66) := by
  unfold z_LW
  exact (zo_MD (Nat.ne_of_beq_eq_false rfl) (Or.inl (Nat.le_of_ble_eq_true rfl))).trans ((tb_up_ne (Nat.ne_of_beq_eq_false rfl)).trans (zc_TW_66))
set_option maxRecDepth 4000 in
theorem zc_LW_67 {cs : Nat → ClassId} {ad : Nat → Nat} {S : Nat → va_E} : z_LW cs ad S 67 = tw_sh cs ad (tw_lay 67) (M0 67) := by
  unfold z_LW
  exact (zo_MD (Nat.ne_of_beq_eq_false rfl) (Or.inl (Nat.le_of_ble_eq_true rfl))).trans ((tb_up_ne (Nat.ne_of_beq_eq_false rfl)).trans (zc_TW_67))
set_option maxRecDepth 4000 in
theorem zc_LW_68 {cs : Nat → ClassId} {ad : Nat → Nat} {S : Nat → va_E} : z_LW cs ad S 68 = tw_sh cs ad (tw_lay 68) (M0 68) := by
  unfold z_LW
  exact (zo_MD (Nat.ne_of_beq_eq_false rfl) (Or.inl (Nat.le_of_ble_eq_true rfl))).trans ((tb_up_ne (Nat.ne_of_beq_eq_false rfl)).trans (zc_TW_68))
set_option maxRecDepth 4000 in
theorem zc_LW_69 {cs : Nat → ClassId} {ad : Nat → Nat} {S : Nat → va_E} : z_LW cs ad S 69 = tw_sh cs ad (tw_lay 69) (M0 69) := by
  unfold z_LW
  exact (zo_MD (Nat.ne_of_beq_eq_false rfl) (Or.inl (Nat.le_of_ble_eq_true rfl))).trans ((tb_up_ne (Nat.ne_of_beq_eq_false rfl)).trans (zc_TW_69))
set_option maxRecDepth 4000 in
theorem zc_LW_70 {cs : Nat → ClassId} {ad : Nat → Nat} {S : Nat → va_E} : z_LW cs ad S 70 = tw_sh cs ad (tw_lay 70) (M0 70) := by
  unfold z_LW
  exact (zo_MD (Nat.ne_of_beq_eq_false rfl) (Or.inl (Nat.le_of_ble_eq_true rfl))).trans ((tb_up_ne (Nat.ne_of_beq_eq_false rfl)).trans (zc_TW_70))
set_option maxRecDepth 4000 in
theorem zc_LW_71 {cs : Nat → ClassId} {ad : Nat → Nat} {S : Nat → va_E} : z_LW cs ad S 71 = tw_sh cs ad (tw_lay 71) (M0 71) := by
  unfold z_LW
  exact (zo_MD (Nat.ne_of_beq_eq_false rfl) (Or.inl (Nat.le_of_ble_eq_true rfl))).trans ((tb_up_ne (Nat.ne_of_beq_eq_false rfl)).trans (zc_TW_71))
set_option maxRecDepth 4000 in
theorem zc_LW_72 {cs : Nat → ClassId} {ad : Nat → Nat} {S : Nat → va_E} : z_LW cs ad S 72 = tw_sh cs ad (tw_lay 72) (M0 72) := by
  unfold z_LW
  exact (zo_MD (Nat.ne_of_beq_eq_false rfl) (Or.inl (Nat.le_of_ble_eq_true rfl))).trans ((tb_up_ne (Nat.ne_of_beq_eq_false rfl)).trans (zc_TW_72))
set_option maxRecDepth 4000 in
theorem zc_LW_73 {cs : Nat → ClassId} {ad : Nat → Nat} {S : Nat → va_E} : z_LW cs ad S 73 = tw_sh cs ad (tw_lay 73) (M0 73) := by
  unfold z_LW
  exact (zo_MD (Nat.ne_of_beq_eq_false rfl) (Or.inl (Nat.le_of_ble_eq_true rfl))).trans ((tb_up_ne (Nat.ne_of_beq_eq_false rfl)).trans (zc_TW_73))
set_option maxRecDepth 4000 in
theorem zc_LW_74 {cs : Nat → ClassId} {ad : Nat → Nat} {S : Nat → va_E} : z_LW cs ad S 74 = tw_sh cs ad (tw_lay 74) (M0 74) := by
  unfold z_LW
  exact (zo_MD (Nat.ne_of_beq_eq_false rfl) (Or.inl (Nat.le_of_ble_eq_true rfl))).trans ((tb_up_ne (Nat.ne_of_beq_eq_false rfl)).trans (zc_TW_74))
set_option maxRecDepth 4000 in
theorem zc_LW_75 {cs : Nat → ClassId} {ad : Nat → Nat} {S : Nat → va_E} : z_LW cs ad S 75 = tw_sh cs ad (tw_lay 75) (M0 75) := by
  unfold z_LW
  exact (zo_MD (Nat.ne_of_beq_eq_false rfl) (Or.inl (Nat.le_of_ble_eq_true rfl))).trans ((tb_up_ne (Nat.ne_of_beq_eq_false rfl)).trans (zc_TW_75))
set_option maxRecDepth 4000 in
theorem zc_LW_76 {cs : Nat → ClassId} {ad : Nat → Nat} {S : Nat → va_E} : z_LW cs ad S 76 = tw_sh cs ad (tw_lay 76) (M0 76) := by
  unfold z_LW
  exact (zo_MD (Nat.ne_of_beq_eq_false rfl) (Or.inl (Nat.le_of_ble_eq_true rfl))).trans ((tb_up_ne (Nat.ne_of_beq_eq_false rfl)).trans (zc_TW_76))
set_option maxRecDepth 4000 in
theorem zc_LW_77 {cs : Nat → ClassId} {ad : Nat → Nat} {S : Nat → va_E} : z_LW cs ad S 77 = tw_sh cs ad (tw_lay 77) (M0 77) := by
  unfold z_LW
  exact (zo_MD (Nat.ne_of_beq_eq_false rfl) (Or.inl (Nat.le_of_ble_eq_true rfl))).trans ((tb_up_ne (Nat.ne_of_beq_eq_false rfl)).trans (zc_TW_77))
set_option maxRecDepth 4000 in
theorem zc_LW_78 {cs : Nat → ClassId} {ad : Nat → Nat} {S : Nat → va_E} : z_LW cs ad S 78 = tw_sh cs ad (tw_lay 78) (M0 78) := by
  unfold z_LW
  exact (zo_MD (Nat.ne_of_beq_eq_false rfl) (Or.inl (Nat.le_of_ble_eq_true rfl))).trans ((tb_up_ne (Nat.ne_of_beq_eq_false rfl)).trans (zc_TW_78))
set_option maxRecDepth 4000 in
theorem zc_LW_79 {cs : Nat → ClassId} {ad : Nat → Nat} {S : Nat → va_E} : z_LW cs ad S 79 = tw_sh cs ad (tw_lay 79) (M0 79) := by
  unfold z_LW
  exact (zo_MD (Nat.ne_of_beq_eq_false rfl) (Or.inl (Nat.le_of_ble_eq_true rfl))).trans ((tb_up_ne (Nat.ne_of_beq_eq_false rfl)).trans (zc_TW_79))
set_option maxRecDepth 4000 in
theorem zc_LW_80 {cs : Nat → ClassId} {ad : Nat → Nat} {S : Nat → va_E} : z_LW cs ad S 80 = tw_sh cs ad (tw_lay 80) (M0 80) := by
  unfold z_LW
  exact (zo_MD (Nat.ne_of_beq_eq_false rfl) (Or.inl (Nat.le_of_ble_eq_true rfl))).trans ((tb_up_ne (Nat.ne_of_beq_eq_false rfl)).trans (zc_TW_80))
set_option maxRecDepth 4000 in
theorem zc_LW_81 {cs : Nat → ClassId} {ad : Nat → Nat} {S : Nat → va_E} : z_LW cs ad S 81 = tw_sh cs ad (tw_lay 81) (M0 81) := by
  unfold z_LW
  exact (zo_MD (Nat.ne_of_beq_eq_false rfl) (Or.inl (Nat.le_of_ble_eq_true rfl))).trans ((tb_up_ne (Nat.ne_of_beq_eq_false rfl)).trans (zc_TW_81))
set_option maxRecDepth 4000 in
theorem zc_LW_82 {cs : Nat → ClassId} {ad : Nat → Nat} {S : Nat → va_E} : z_LW cs ad S 82 = tw_sh cs ad (tw_lay 82) (M0 82) := by
  unfold z_LW
  exact (zo_MD (Nat.ne_of_beq_eq_false rfl) (Or.inl (Nat.le_of_ble_eq_true rfl))).trans ((tb_up_ne (Nat.ne_of_beq_eq_false rfl)).trans (zc_TW_82))
set_option maxRecDepth 4000 in
theorem zc_LW_83 {cs : Nat → ClassId} {ad : Nat → Nat} {S : Nat → va_E} : z_LW cs ad S 83 = tw_sh cs ad (tw_lay 83) (M0 83) := by
  unfold z_LW
  exact (zo_MD (Nat.ne_of_beq_eq_false rfl) (Or.inl (Nat.le_of_ble_eq_true rfl))).trans ((tb_up_ne (Nat.ne_of_beq_eq_false rfl)).trans (zc_TW_83))
set_option maxRecDepth 4000 in
theorem zc_LW_84 {cs : Nat → ClassId} {ad : Nat → Nat} {S : Nat → va_E} : z_LW cs ad S 84 = tw_sh cs ad (tw_lay 84) (M0 84) := by
  unfold z_LW
  exact (zo_MD (Nat.ne_of_beq_eq_false rfl) (Or.inl (Nat.le_of_ble_eq_true rfl))).trans ((tb_up_ne (Nat.ne_of_beq_eq_false rfl)).trans (zc_TW_84))
set_option maxRecDepth 4000 in
theorem zc_LW_85 {cs : Nat → ClassId} {ad : Nat → Nat} {S : Nat → va_E} : z_LW cs ad S 85 = tw_sh cs ad (tw_lay 85) (M0 85) := by
  unfold z_LW
  exact (zo_MD (Nat.ne_of_beq_eq_false rfl) (Or.inl (Nat.le_of_ble_eq_true rfl))).trans ((tb_up_ne (Nat.ne_of_beq_eq_false rfl)).trans (zc_TW_85))
set_option maxRecDepth 4000 in
theorem zc_LW_86 {cs : Nat → ClassId} {ad : Nat → Nat} {S : Nat → va_E} : z_LW cs ad S 86 = tw_sh cs ad (tw_lay 86) (M0 86) := by
  unfold z_LW
  exact (zo_MD (Nat.ne_of_beq_eq_false rfl) (Or.inl (Nat.le_of_ble_eq_true rfl))).trans ((tb_up_ne (Nat.ne_of_beq_eq_false rfl)).trans (zc_TW_86))
set_option maxRecDepth 4000 in
theorem zc_LW_87 {cs : Nat → ClassId} {ad : Nat → Nat} {S : Nat → va_E} : z_LW cs ad S 87 = tw_sh cs ad (tw_lay 87) (M0 87) := by
  unfold z_LW
  exact (zo_MD (Nat.ne_of_beq_eq_false rfl) (Or.inl (Nat.le_of_ble_eq_true rfl))).trans ((tb_up_ne (Nat.ne_of_beq_eq_false rfl)).trans (zc_TW_87))
set_option maxRecDepth 4000 in
theorem zc_LW_88 {cs : Nat → ClassId} {ad : Nat → Nat} {S : Nat → va_E} : z_LW cs ad S 88 = tw_sh cs ad (tw_lay 88) (M0 88) := by
  unfold z_LW
  exact zc_MD_88
set_option maxRecDepth 4000 in
theorem zc_LW_89 {cs : Nat → ClassId} {ad : Nat → Nat} {S : Nat → va_E} : z_LW cs ad S 89 = tw_sh cs ad (tw_lay 89) (M0 89) := by
  unfold z_LW
  exact zc_MD_89
set_option maxRecDepth 4000 in
theorem zc_LW_90 {cs : Nat → ClassId} {ad : Nat → Nat} {S : Nat → va_E} : z_LW cs ad S 90 = tw_sh cs ad (tw_lay 90) (M0 90) := by
  unfold z_LW
  exact zc_MD_90
set_option maxRecDepth 4000 in
theorem zc_LW_91 {cs : Nat → ClassId} {ad : Nat → Nat} {S : Nat → va_E} : z_LW cs ad S 91 = tw_sh cs ad (tw_lay 91) (M0 91) := by
  unfold z_LW
  exact zc_MD_91
set_option maxRecDepth 4000 in
theorem zc_LW_92 {cs : Nat → ClassId} {ad : Nat → Nat} {S : Nat → va_E} : z_LW cs ad S 92 = tw_sh cs ad (tw_lay 92) (M0 92) := by
  unfold z_LW
  exact zc_MD_92
set_option maxRecDepth 4000 in
theorem zc_LW_93 {cs : Nat → ClassId} {ad : Nat → Nat} {S : Nat → va_E} : z_LW cs ad S 93 = tw_sh cs ad (tw_lay 93) (M0 93) := by
  unfold z_LW
  exact zc_MD_93
set_option maxRecDepth 4000 in
theorem zc_LW_94 {cs : Nat → ClassId} {ad : Nat → Nat} {S : Nat → va_E} : z_LW cs ad S 94 = tw_sh cs ad (tw_lay 94) (M0 94) := by
  unfold z_LW
  exact zc_MD_94
set_option maxRecDepth 4000 in
theorem zc_LW_95 {cs : Nat → ClassId} {ad : Nat → Nat} {S : Nat → va_E} : z_LW cs ad S 95 = tw_sh cs ad (tw_lay 95) (M0 95) := by
  unfold z_LW
  exact zc_MD_95
set_option maxRecDepth 4000 in
theorem zc_LW_96 {cs : Nat → ClassId} {ad : Nat → Nat} {S : Nat → va_E} : z_LW cs ad S 96 = tw_sh cs ad (tw_lay 96) (M0 96) := by
  unfold z_LW
  exact zc_MD_96
set_option maxRecDepth 4000 in
theorem zc_LW_97 {cs : Nat → ClassId} {ad : Nat → Nat} {S : Nat → va_E} : z_LW cs ad S 97 = tw_sh cs ad (tw_lay 97) (M0 97) := by
  unfold z_LW
  exact zc_MD_97
set_option maxRecDepth 4000 in
theorem zc_LW_98 {cs : Nat → ClassId} {ad : Nat → Nat} {S : Nat → va_E} : z_LW cs ad S 98 = tw_sh cs ad (tw_lay 98) (M0 98) := by
  unfold z_LW
  exact zc_MD_98
set_option maxRecDepth 4000 in
theorem zc_LW_99 {cs : Nat → ClassId} {ad : Nat → Nat} {S : Nat → va_E} : z_LW cs ad S 99 = tw_sh cs ad (tw_lay 99) (M0 99) := by
  unfold z_LW
  exact zc_MD_99
set_option maxRecDepth 4000 in
theorem zc_LW_100 {cs : Nat → ClassId} {ad : Nat → Nat} {S : Nat → va_E} : z_LW cs ad S 100 = tw_sh cs ad (tw_lay 100) (M0 100) := by
  unfold z_LW
  exact zc_MD_100
set_option maxRecDepth 4000 in
theorem zc_LW_101 {cs : Nat → ClassId} {ad : Nat → Nat} {S : Nat → va_E} : z_LW cs ad S 101 = tw_sh cs ad (tw_lay 101) (M0 101) := by
  unfold z_LW
  exact zc_MD_101
set_option maxRecDepth 4000 in
theorem zc_LW_102 {cs : Nat → ClassId} {ad : Nat → Nat} {S : Nat → va_E} : z_LW cs ad S 102 = tw_sh cs ad (tw_lay 102) (M0 102) := by
  unfold z_LW
  exact zc_MD_102
set_option maxRecDepth 4000 in
theorem zc_LW_103 {cs : Nat → ClassId} {ad : Nat → Nat} {S : Nat → va_E} : z_LW cs ad S 103 = tw_sh cs ad (tw_lay 103) (M0 103) := by
  unfold z_LW
  exact zc_MD_103
set_option maxRecDepth 4000 in
theorem zc_LW_104 {cs : Nat → ClassId} {ad : Nat → Nat} {S : Nat → va_E} : z_LW cs ad S 104 = tw_sh cs ad (tw_lay 104) (M0 104) := by
  unfold z_LW
  exact zc_MD_104
set_option maxRecDepth 4000 in
theorem zc_LW_105 {cs : Nat → ClassId} {ad : Nat → Nat} {S : Nat → va_E} : z_LW cs ad S 105 = tw_sh cs ad (tw_lay 105) (M0 105) := by
  unfold z_LW
  exact zc_MD_105
set_option maxRecDepth 4000 in
theorem zc_LW_106 {cs : Nat → ClassId} {ad : Nat → Nat} {S : Nat → va_E} : z_LW cs ad S 106 = tw_sh cs ad (tw_lay 106) (M0 106) := by
  unfold z_LW
  exact zc_MD_106
set_option maxRecDepth 4000 in
theorem zc_LW_107 {cs : Nat → ClassId} {ad : Nat → Nat} {S : Nat → va_E} : z_LW cs ad S 107 = tw_sh cs ad (tw_lay 107) (M0 107) := by
  unfold z_LW
  exact zc_MD_107
set_option maxRecDepth 4000 in
theorem zc_LW_108 {cs : Nat → ClassId} {ad : Nat → Nat} {S : Nat → va_E} : z_LW cs ad S 108 = tw_sh cs ad (tw_lay 108) (M0 108) := by
  unfold z_LW
  exact zc_MD_108
set_option maxRecDepth 4000 in
theorem zc_LW_109 {cs : Nat → ClassId} {ad : Nat → Nat} {S : Nat → va_E} : z_LW cs ad S 109 = tw_sh cs ad (tw_lay 109) (M0 109) := by
  unfold z_LW
  exact zc_MD_109
set_option maxRecDepth 4000 in
theorem zc_LW_110 {cs : Nat → ClassId} {ad : Nat → Nat} {S : Nat → va_E} : z_LW cs ad S 110 = tw_sh cs ad (tw_lay 110) (M0 110) := by
  unfold z_LW
  exact zc_MD_110
set_option maxRecDepth 4000 in
theorem zc_LW_111 {cs : Nat → ClassId} {ad : Nat → Nat} {S : Nat → va_E} : z_LW cs ad S 111 = tw_sh cs ad (tw_lay 111) (M0 111) := by
  unfold z_LW
  exact zc_MD_111
set_option maxRecDepth 4000 in
theorem zc_LW_112 {cs : Nat → ClassId} {ad : Nat → Nat} {S : Nat → va_E} : z_LW cs ad S 112 = tw_sh cs ad (tw_lay 112) (M0 112) := by
  unfold z_LW
  exact zc_MD_112
set_option maxRecDepth 4000 in
theorem zc_LW_113 {cs : Nat → ClassId} {ad : Nat → Nat} {S : Nat → va_E} : z_LW cs ad S 113 = tw_sh cs ad (tw_lay 113) (M0 113) := by
  unfold z_LW
  exact zc_MD_113
set_option maxRecDepth 4000 in
theorem zc_LW_114 {cs : Nat → ClassId} {ad : Nat → Nat} {S : Nat → va_E} : z_LW cs ad S 114 = tw_sh cs ad (tw_lay 114) (M0 114) := by
  unfold z_LW
  exact zc_MD_114
set_option maxRecDepth 4000 in
theorem zc_LW_115 {cs : Nat → ClassId} {ad : Nat → Nat} {S : Nat → va_E} : z_LW cs ad S 115 = tw_sh cs ad (tw_lay 115) (M0 115) := by
  unfold z_LW
  exact zc_MD_115
set_option maxRecDepth 40000 in
theorem M0_fits {cs : Nat → ClassId} {ad : Nat → Nat} {S : Nat → va_E} : ∀ q, q < 116 → z_LW cs ad S q = tw_sh cs ad (tw_lay q) (M0 q) := tb_all (n := 116) (P := fun q => z_LW cs ad S q = tw_sh cs ad (tw_lay q) (M0 q)) ⟨⟨⟨⟨⟨⟨⟨⟨⟨⟨⟨⟨⟨⟨⟨⟨⟨⟨⟨⟨⟨⟨⟨⟨⟨⟨⟨⟨⟨⟨⟨⟨⟨⟨⟨⟨⟨⟨⟨⟨⟨⟨⟨⟨⟨⟨⟨⟨⟨⟨⟨⟨⟨⟨⟨⟨⟨⟨⟨⟨⟨⟨⟨⟨⟨⟨⟨⟨⟨⟨⟨⟨⟨⟨⟨⟨⟨⟨⟨⟨⟨⟨⟨⟨⟨⟨⟨⟨⟨⟨⟨⟨⟨⟨⟨⟨⟨⟨⟨⟨⟨⟨⟨⟨⟨⟨⟨⟨⟨⟨⟨⟨⟨⟨⟨⟨trivial, zc_LW_0⟩, zc_LW_1⟩, zc_LW_2⟩, zc_LW_3⟩, zc_LW_4⟩, zc_LW_5⟩, zc_LW_6⟩, zc_LW_7⟩, zc_LW_8⟩, zc_LW_9⟩, zc_LW_10⟩, zc_LW_11⟩, zc_LW_12⟩, zc_LW_13⟩, zc_LW_14⟩, zc_LW_15⟩, zc_LW_16⟩, zc_LW_17⟩, zc_LW_18⟩, zc_LW_19⟩, zc_LW_20⟩, zc_LW_21⟩, zc_LW_22⟩, zc_LW_23⟩, zc_LW_24⟩, zc_LW_25⟩, zc_LW_26⟩, zc_LW_27⟩, zc_LW_28⟩, zc_LW_29⟩, zc_LW_30⟩, zc_LW_31⟩, zc_LW_32⟩, zc_LW_33⟩, zc_LW_34⟩, zc_LW_35⟩, zc_LW_36⟩, zc_LW_37⟩, zc_LW_38⟩, zc_LW_39⟩, zc_LW_40⟩, zc_LW_41⟩, zc_LW_42⟩, zc_LW_43⟩, zc_LW_44⟩, zc_LW_45⟩, zc_LW_46⟩, zc_LW_47⟩, zc_LW_48⟩, zc_LW_49⟩, zc_LW_50⟩, zc_LW_51⟩, zc_LW_52⟩, zc_LW_53⟩, zc_LW_54⟩, zc_LW_55⟩, zc_LW_56⟩, zc_LW_57⟩, zc_LW_58⟩, zc_LW_59⟩, zc_LW_60⟩, zc_LW_61⟩, zc_LW_62⟩, zc_LW_63⟩, zc_LW_64⟩, zc_LW_65⟩, zc_LW_66⟩, zc_LW_67⟩, zc_LW_68⟩, zc_LW_69⟩, zc_LW_70⟩, zc_LW_71⟩, zc_LW_72⟩, zc_LW_73⟩, zc_LW_74⟩, zc_LW_75⟩, zc_LW_76⟩, zc_LW_77⟩, zc_LW_78⟩, zc_LW_79⟩, zc_LW_80⟩, zc_LW_81⟩, zc_LW_82⟩, zc_LW_83⟩, zc_LW_84⟩, zc_LW_85⟩, zc_LW_86⟩, zc_LW_87⟩, zc_LW_88⟩, zc_LW_89⟩, zc_LW_90⟩, zc_LW_91⟩, zc_LW_92⟩, zc_LW_93⟩, zc_LW_94⟩, zc_LW_95⟩, zc_LW_96⟩, zc_LW_97⟩, zc_LW_98⟩, zc_LW_99⟩, zc_LW_100⟩, zc_LW_101⟩, zc_LW_102⟩, zc_LW_103⟩, zc_LW_104⟩, zc_LW_105⟩, zc_LW_106⟩, zc_LW_107⟩, zc_LW_108⟩, zc_LW_109⟩, zc_LW_110⟩, zc_LW_111⟩, zc_LW_112⟩, zc_LW_113⟩, zc_LW_114⟩, zc_LW_115⟩
