theorem z_mono {c : qC} {m m' : Nat} (h : ∀ q, m ≤ q → ∀ j, c q j = 0) (hm : m ≤ m') : ∀ q, m' ≤ q → ∀ j, c q j = 0 := fun q hq => h q (Nat.le_trans hm hq)
theorem qu_z {c : qC} {k m : Nat} {i x : Int} (h : ∀ q, m ≤ q → ∀ j, c q j = 0) (hk : k < m) : ∀ q, m ≤ q → ∀ j, qu c k i x q j = 0 := fun q hq j => by rw [qu_ne (by omega)]; exact h q hq j
def LAYs1 : Nat → Option Nat
  | 0 => some 5
  | _ => none
set_option maxHeartbeats 4000000 in
set_option maxRecDepth 100000 in
theorem b_X2_37 (c : qC) (Lb : Nat → qL) (h37 : Lb 37 = .inr (.inr (2, [.inr 1, .inr 1]))) (hc : ∀ q, 38 ≤ q → ∀ j, c q j = 0) : qK X2_init (1, 0, 0) [qP 37] (quL Lb 37 (.inr (.inr (2, [.inr 1, .inr 1])))) 38 c (fun v L n c' => v = none ∧ L = Lb ∧ n = 38 ∧ c' = (qu (qu c 37 0 (0)) 37 1 (1))) := by
  refine qK.of [some (qP 37)] (by decide) rfl (fun _ => rfl) (fun _ => Nat.le_of_ble_eq_true rfl) ?_
  refine g_aload_n (i := 0) dX2_init_0 rfl rfl ?_
  refine g_oinit dX2_init_1 ob2 rfl rfl ?_
  refine g_aload_n (i := 0) dX2_init_4 rfl rfl ?_
  refine g_lconst (z := 0) dX2_init_5 (by decide) ?_
  refine g_putJ 0 dX2_init_6 fl2_7 fw2_0 rfl (by show 37 < 38; decide) rfl rfl ?_
  refine g_aload_n (i := 0) dX2_init_9 rfl rfl ?_
  refine g_lconst (z := 1) dX2_init_10 (by decide) ?_
  refine g_putJ 1 dX2_init_11 fl2_13 fw2_1 rfl (by show 37 < 38; decide) rfl rfl ?_
  exact g_retV dX2_init_14 rfl rfl rfl ⟨rfl, (quL_id h37), rfl, rfl⟩
set_option maxHeartbeats 4000000 in
set_option maxRecDepth 100000 in
theorem b_X2_38 (c : qC) (Lb : Nat → qL) (h38 : Lb 38 = .inr (.inr (2, [.inr 1, .inr 1]))) (hc : ∀ q, 39 ≤ q → ∀ j, c q j = 0) : qK X2_init (1, 0, 0) [qP 38] (quL Lb 38 (.inr (.inr (2, [.inr 1, .inr 1])))) 39 c (fun v L n c' => v = none ∧ L = Lb ∧ n = 39 ∧ c' = (qu (qu c 38 0 (0)) 38 1 (1))) := by
  refine qK.of [some (qP 38)] (by decide) rfl (fun _ => rfl) (fun _ => Nat.le_of_ble_eq_true rfl) ?_
  refine g_aload_n (i := 0) dX2_init_0 rfl rfl ?_
  refine g_oinit dX2_init_1 ob2 rfl rfl ?_
  refine g_aload_n (i := 0) dX2_init_4 rfl rfl ?_
  refine g_lconst (z := 0) dX2_init_5 (by decide) ?_
  refine g_putJ 0 dX2_init_6 fl2_7 fw2_0 rfl (by show 38 < 39; decide) rfl rfl ?_
  refine g_aload_n (i := 0) dX2_init_9 rfl rfl ?_
  refine g_lconst (z := 1) dX2_init_10 (by decide) ?_
  refine g_putJ 1 dX2_init_11 fl2_13 fw2_1 rfl (by show 38 < 39; decide) rfl rfl ?_
  exact g_retV dX2_init_14 rfl rfl rfl ⟨rfl, (quL_id h38), rfl, rfl⟩
set_option maxHeartbeats 4000000 in
set_option maxRecDepth 100000 in
theorem b_X6 (c : qC) (Lb : Nat → qL) (h1 : Lb 1 = .inr (.inr (6, [.inl (some 2), .inl (some 3), .inr 0, .inr 0]))) (h2 : Lb 2 = .inl (0, 120)) (h3 : Lb 3 = .inl (0, 2700)) (hc : ∀ q, 2 ≤ q → ∀ j, c q j = 0) : qK X6_init (1, 2, 2820) [qP 1] (quL Lb 1 (.inr (.inr (6, [.inl none, .inl none, .inr 0, .inr 0])))) 2 c (fun v L n c' => v = none ∧ L = Lb ∧ n = 4 ∧ c' = (qu (qu c 1 2 (2)) 1 3 (0))) := by
  refine qK.of [some (qP 1)] (by decide) rfl (fun _ => rfl) (fun _ => Nat.le_of_ble_eq_true rfl) ?_
  refine g_aload_n (i := 0) dX6_init_0 rfl rfl ?_
  refine g_oinit dX6_init_1 ob6 rfl rfl ?_
  refine g_aload_n (i := 0) dX6_init_4 rfl rfl ?_
  refine g_bipush dX6_init_5 (by decide) ?_
  refine g_newI (N := 120) (n' := 3) (k' := 1) (z' := 120) dX6_init_7 h2 rfl rfl (fun j => hc 2 (by decide) j) rfl rfl rfl rfl rfl ?_
  refine g_putP (L' := (quL Lb 1 (.inr (.inr (6, [.inl (some 2), .inl none, .inr 0, .inr 0]))))) (fs' := [.inl (some 2), .inl none, .inr 0, .inr 0]) dX6_init_9 fd6_9 fw6_0 rfl (q_tyA _) rfl (by decide) (by decide) rfl rfl (fun q hq => by simp [quL, hq]) ?_
  refine g_aload_n (i := 0) dX6_init_12 rfl rfl ?_
  refine g_sipush dX6_init_13 (by decide) ?_
  refine g_newI (N := 2700) (n' := 4) (k' := 2) (z' := 2820) dX6_init_16 h3 rfl rfl (fun j => hc 3 (by decide) j) rfl rfl rfl rfl rfl ?_
  refine g_putP (L' := (quL Lb 1 (.inr (.inr (6, [.inl (some 2), .inl (some 3), .inr 0, .inr 0]))))) (fs' := [.inl (some 2), .inl (some 3), .inr 0, .inr 0]) dX6_init_18 fd6_15 fw6_1 rfl (q_tyA _) rfl (by decide) (by decide) rfl rfl (fun q hq => by simp [quL, hq]) ?_
  refine g_aload_n (i := 0) dX6_init_21 rfl rfl ?_
  refine g_iconst dX6_init_22 ?_
  refine g_putI 2 dX6_init_23 fl6_18 fw6_2 rfl (by show 1 < 4; decide) rfl (by decide) rfl ?_
  refine g_aload_n (i := 0) dX6_init_26 rfl rfl ?_
  refine g_iconst dX6_init_27 ?_
  refine g_putI 3 dX6_init_28 fl6_22 fw6_3 rfl (by show 1 < 4; decide) rfl (by decide) rfl ?_
  exact g_retV dX6_init_31 rfl rfl rfl ⟨rfl, (quL_id h1), rfl, rfl⟩
set_option maxHeartbeats 4000000 in
set_option maxRecDepth 100000 in
theorem b_X3_5 (c : qC) (Lb : Nat → qL) (h5 : Lb 5 = .inr (.inr (3, [.inl (some 6), .inl (some 7), .inr 0, .inr 0]))) (h6 : Lb 6 = .inl (0, 30)) (h7 : Lb 7 = .inl (0, 30)) (hc : ∀ q, 6 ≤ q → ∀ j, c q j = 0) : qK X3_init (1, 2, 60) [qP 5] (quL Lb 5 (.inr (.inr (3, [.inl none, .inl none, .inr 0, .inr 0])))) 6 c (fun v L n c' => v = none ∧ L = Lb ∧ n = 8 ∧ c' = (qu (qu c 5 2 (0)) 5 3 (-1))) := by
  refine qK.of [some (qP 5)] (by decide) rfl (fun _ => rfl) (fun _ => Nat.le_of_ble_eq_true rfl) ?_
  refine g_aload_n (i := 0) dX3_init_0 rfl rfl ?_
  refine g_oinit dX3_init_1 ob3 rfl rfl ?_
  refine g_aload_n (i := 0) dX3_init_4 rfl rfl ?_
  refine g_bipush dX3_init_5 (by decide) ?_
  refine g_newI (N := 30) (n' := 7) (k' := 1) (z' := 30) dX3_init_7 h6 rfl rfl (fun j => hc 6 (by decide) j) rfl rfl rfl rfl rfl ?_
  refine g_putP (L' := (quL Lb 5 (.inr (.inr (3, [.inl (some 6), .inl none, .inr 0, .inr 0]))))) (fs' := [.inl (some 6), .inl none, .inr 0, .inr 0]) dX3_init_9 fd3_9 fw3_0 rfl (q_tyA _) rfl (by decide) (by decide) rfl rfl (fun q hq => by simp [quL, hq]) ?_
  refine g_aload_n (i := 0) dX3_init_12 rfl rfl ?_
  refine g_bipush dX3_init_13 (by decide) ?_
  refine g_newI (N := 30) (n' := 8) (k' := 2) (z' := 60) dX3_init_15 h7 rfl rfl (fun j => hc 7 (by decide) j) rfl rfl rfl rfl rfl ?_
  refine g_putP (L' := (quL Lb 5 (.inr (.inr (3, [.inl (some 6), .inl (some 7), .inr 0, .inr 0]))))) (fs' := [.inl (some 6), .inl (some 7), .inr 0, .inr 0]) dX3_init_17 fd3_15 fw3_1 rfl (q_tyA _) rfl (by decide) (by decide) rfl rfl (fun q hq => by simp [quL, hq]) ?_
  refine g_aload_n (i := 0) dX3_init_20 rfl rfl ?_
  refine g_iconst dX3_init_21 ?_
  refine g_putI 2 dX3_init_22 fl3_18 fw3_2 rfl (by show 5 < 8; decide) rfl (by decide) rfl ?_
  refine g_aload_n (i := 0) dX3_init_25 rfl rfl ?_
  refine g_iconst dX3_init_26 ?_
  refine g_putI 3 dX3_init_27 fl3_22 fw3_3 rfl (by show 5 < 8; decide) rfl (by decide) rfl ?_
  exact g_retV dX3_init_30 rfl rfl rfl ⟨rfl, (quL_id h5), rfl, rfl⟩
set_option maxHeartbeats 4000000 in
set_option maxRecDepth 100000 in
theorem b_X3_8 (c : qC) (Lb : Nat → qL) (h8 : Lb 8 = .inr (.inr (3, [.inl (some 9), .inl (some 10), .inr 0, .inr 0]))) (h9 : Lb 9 = .inl (0, 30)) (h10 : Lb 10 = .inl (0, 30)) (hc : ∀ q, 9 ≤ q → ∀ j, c q j = 0) : qK X3_init (1, 2, 60) [qP 8] (quL Lb 8 (.inr (.inr (3, [.inl none, .inl none, .inr 0, .inr 0])))) 9 c (fun v L n c' => v = none ∧ L = Lb ∧ n = 11 ∧ c' = (qu (qu c 8 2 (0)) 8 3 (-1))) := by
  refine qK.of [some (qP 8)] (by decide) rfl (fun _ => rfl) (fun _ => Nat.le_of_ble_eq_true rfl) ?_
  refine g_aload_n (i := 0) dX3_init_0 rfl rfl ?_
  refine g_oinit dX3_init_1 ob3 rfl rfl ?_
  refine g_aload_n (i := 0) dX3_init_4 rfl rfl ?_
  refine g_bipush dX3_init_5 (by decide) ?_
  refine g_newI (N := 30) (n' := 10) (k' := 1) (z' := 30) dX3_init_7 h9 rfl rfl (fun j => hc 9 (by decide) j) rfl rfl rfl rfl rfl ?_
  refine g_putP (L' := (quL Lb 8 (.inr (.inr (3, [.inl (some 9), .inl none, .inr 0, .inr 0]))))) (fs' := [.inl (some 9), .inl none, .inr 0, .inr 0]) dX3_init_9 fd3_9 fw3_0 rfl (q_tyA _) rfl (by decide) (by decide) rfl rfl (fun q hq => by simp [quL, hq]) ?_
  refine g_aload_n (i := 0) dX3_init_12 rfl rfl ?_
  refine g_bipush dX3_init_13 (by decide) ?_
  refine g_newI (N := 30) (n' := 11) (k' := 2) (z' := 60) dX3_init_15 h10 rfl rfl (fun j => hc 10 (by decide) j) rfl rfl rfl rfl rfl ?_
  refine g_putP (L' := (quL Lb 8 (.inr (.inr (3, [.inl (some 9), .inl (some 10), .inr 0, .inr 0]))))) (fs' := [.inl (some 9), .inl (some 10), .inr 0, .inr 0]) dX3_init_17 fd3_15 fw3_1 rfl (q_tyA _) rfl (by decide) (by decide) rfl rfl (fun q hq => by simp [quL, hq]) ?_
  refine g_aload_n (i := 0) dX3_init_20 rfl rfl ?_
  refine g_iconst dX3_init_21 ?_
  refine g_putI 2 dX3_init_22 fl3_18 fw3_2 rfl (by show 8 < 11; decide) rfl (by decide) rfl ?_
  refine g_aload_n (i := 0) dX3_init_25 rfl rfl ?_
  refine g_iconst dX3_init_26 ?_
  refine g_putI 3 dX3_init_27 fl3_22 fw3_3 rfl (by show 8 < 11; decide) rfl (by decide) rfl ?_
  exact g_retV dX3_init_30 rfl rfl rfl ⟨rfl, (quL_id h8), rfl, rfl⟩
set_option maxHeartbeats 4000000 in
set_option maxRecDepth 100000 in
theorem b_X5 (c : qC) (Lb : Nat → qL) (h11 : Lb 11 = .inr (.inr (5, [.inl (some 12), .inl (some 13), .inl (some 14), .inl (some 15), .inl (some 16), .inl (some 17), .inr 0]))) (h12 : Lb 12 = .inl (0, 30)) (h13 : Lb 13 = .inl (0, 30)) (h14 : Lb 14 = .inl (0, 6)) (h15 : Lb 15 = .inl (0, 24)) (h16 : Lb 16 = .inl (0, 6)) (h17 : Lb 17 = .inl (0, 30)) (hc : ∀ q, 12 ≤ q → ∀ j, c q j = 0) : qK X5_init (1, 6, 126) [qP 11] (quL Lb 11 (.inr (.inr (5, [.inl none, .inl none, .inl none, .inl none, .inl none, .inl none, .inr 0])))) 12 c (fun v L n c' => v = none ∧ L = Lb ∧ n = 18 ∧ c' = (qu c 11 6 (0))) := by
  refine qK.of [some (qP 11)] (by decide) rfl (fun _ => rfl) (fun _ => Nat.le_of_ble_eq_true rfl) ?_
  refine g_aload_n (i := 0) dX5_init_0 rfl rfl ?_
  refine g_oinit dX5_init_1 ob5 rfl rfl ?_
  refine g_aload_n (i := 0) dX5_init_4 rfl rfl ?_
  refine g_bipush dX5_init_5 (by decide) ?_
  refine g_newI (N := 30) (n' := 13) (k' := 1) (z' := 30) dX5_init_7 h12 rfl rfl (fun j => hc 12 (by decide) j) rfl rfl rfl rfl rfl ?_
  refine g_putP (L' := (quL Lb 11 (.inr (.inr (5, [.inl (some 12), .inl none, .inl none, .inl none, .inl none, .inl none, .inr 0]))))) (fs' := [.inl (some 12), .inl none, .inl none, .inl none, .inl none, .inl none, .inr 0]) dX5_init_9 fd5_9 fw5_0 rfl (q_tyA _) rfl (by decide) (by decide) rfl rfl (fun q hq => by simp [quL, hq]) ?_
  refine g_aload_n (i := 0) dX5_init_12 rfl rfl ?_
  refine g_bipush dX5_init_13 (by decide) ?_
  refine g_newI (N := 30) (n' := 14) (k' := 2) (z' := 60) dX5_init_15 h13 rfl rfl (fun j => hc 13 (by decide) j) rfl rfl rfl rfl rfl ?_
  refine g_putP (L' := (quL Lb 11 (.inr (.inr (5, [.inl (some 12), .inl (some 13), .inl none, .inl none, .inl none, .inl none, .inr 0]))))) (fs' := [.inl (some 12), .inl (some 13), .inl none, .inl none, .inl none, .inl none, .inr 0]) dX5_init_17 fd5_15 fw5_1 rfl (q_tyA _) rfl (by decide) (by decide) rfl rfl (fun q hq => by simp [quL, hq]) ?_
  refine g_aload_n (i := 0) dX5_init_20 rfl rfl ?_
  refine g_bipush dX5_init_21 (by decide) ?_
  refine g_newI (N := 6) (n' := 15) (k' := 3) (z' := 66) dX5_init_23 h14 rfl rfl (fun j => hc 14 (by decide) j) rfl rfl rfl rfl rfl ?_
  refine g_putP (L' := (quL Lb 11 (.inr (.inr (5, [.inl (some 12), .inl (some 13), .inl (some 14), .inl none, .inl none, .inl none, .inr 0]))))) (fs' := [.inl (some 12), .inl (some 13), .inl (some 14), .inl none, .inl none, .inl none, .inr 0]) dX5_init_25 fd5_18 fw5_2 rfl (q_tyA _) rfl (by decide) (by decide) rfl rfl (fun q hq => by simp [quL, hq]) ?_
  refine g_aload_n (i := 0) dX5_init_28 rfl rfl ?_
  refine g_bipush dX5_init_29 (by decide) ?_
  refine g_newI (N := 24) (n' := 16) (k' := 4) (z' := 90) dX5_init_31 h15 rfl rfl (fun j => hc 15 (by decide) j) rfl rfl rfl rfl rfl ?_
  refine g_putP (L' := (quL Lb 11 (.inr (.inr (5, [.inl (some 12), .inl (some 13), .inl (some 14), .inl (some 15), .inl none, .inl none, .inr 0]))))) (fs' := [.inl (some 12), .inl (some 13), .inl (some 14), .inl (some 15), .inl none, .inl none, .inr 0]) dX5_init_33 fd5_21 fw5_3 rfl (q_tyA _) rfl (by decide) (by decide) rfl rfl (fun q hq => by simp [quL, hq]) ?_
  refine g_aload_n (i := 0) dX5_init_36 rfl rfl ?_
  refine g_bipush dX5_init_37 (by decide) ?_
  refine g_newI (N := 6) (n' := 17) (k' := 5) (z' := 96) dX5_init_39 h16 rfl rfl (fun j => hc 16 (by decide) j) rfl rfl rfl rfl rfl ?_
  refine g_putP (L' := (quL Lb 11 (.inr (.inr (5, [.inl (some 12), .inl (some 13), .inl (some 14), .inl (some 15), .inl (some 16), .inl none, .inr 0]))))) (fs' := [.inl (some 12), .inl (some 13), .inl (some 14), .inl (some 15), .inl (some 16), .inl none, .inr 0]) dX5_init_41 fd5_24 fw5_4 rfl (q_tyA _) rfl (by decide) (by decide) rfl rfl (fun q hq => by simp [quL, hq]) ?_
  refine g_aload_n (i := 0) dX5_init_44 rfl rfl ?_
  refine g_bipush dX5_init_45 (by decide) ?_
  refine g_newI (N := 30) (n' := 18) (k' := 6) (z' := 126) dX5_init_47 h17 rfl rfl (fun j => hc 17 (by decide) j) rfl rfl rfl rfl rfl ?_
  refine g_putP (L' := (quL Lb 11 (.inr (.inr (5, [.inl (some 12), .inl (some 13), .inl (some 14), .inl (some 15), .inl (some 16), .inl (some 17), .inr 0]))))) (fs' := [.inl (some 12), .inl (some 13), .inl (some 14), .inl (some 15), .inl (some 16), .inl (some 17), .inr 0]) dX5_init_49 fd5_27 fw5_5 rfl (q_tyA _) rfl (by decide) (by decide) rfl rfl (fun q hq => by simp [quL, hq]) ?_
  refine g_aload_n (i := 0) dX5_init_52 rfl rfl ?_
  refine g_iconst dX5_init_53 ?_
  refine g_putI 6 dX5_init_54 fl5_30 fw5_6 rfl (by show 11 < 18; decide) rfl (by decide) rfl ?_
  exact g_retV dX5_init_57 rfl rfl rfl ⟨rfl, (quL_id h11), rfl, rfl⟩
set_option maxHeartbeats 4000000 in
set_option maxRecDepth 100000 in
theorem b_X0 (c : qC) (Lb : Nat → qL) (h18 : Lb 18 = .inr (.inr (0, [.inl (some 19), .inl (some 20), .inl (some 21), .inl (some 22), .inr 0, .inr 0]))) (h19 : Lb 19 = .inl (0, 30)) (h20 : Lb 20 = .inl (0, 3)) (h21 : Lb 21 = .inl (0, 3)) (h22 : Lb 22 = .inl (0, 90)) (hc : ∀ q, 19 ≤ q → ∀ j, c q j = 0) : qK X0_init (1, 4, 126) [qP 18] (quL Lb 18 (.inr (.inr (0, [.inl none, .inl none, .inl none, .inl none, .inr 0, .inr 0])))) 19 c (fun v L n c' => v = none ∧ L = Lb ∧ n = 23 ∧ c' = (qu (qu c 18 4 (0)) 18 5 (0))) := by
  refine qK.of [some (qP 18)] (by decide) rfl (fun _ => rfl) (fun _ => Nat.le_of_ble_eq_true rfl) ?_
  refine g_aload_n (i := 0) dX0_init_0 rfl rfl ?_
  refine g_oinit dX0_init_1 ob0 rfl rfl ?_
  refine g_aload_n (i := 0) dX0_init_4 rfl rfl ?_
  refine g_bipush dX0_init_5 (by decide) ?_
  refine g_newI (N := 30) (n' := 20) (k' := 1) (z' := 30) dX0_init_7 h19 rfl rfl (fun j => hc 19 (by decide) j) rfl rfl rfl rfl rfl ?_
  refine g_putP (L' := (quL Lb 18 (.inr (.inr (0, [.inl (some 19), .inl none, .inl none, .inl none, .inr 0, .inr 0]))))) (fs' := [.inl (some 19), .inl none, .inl none, .inl none, .inr 0, .inr 0]) dX0_init_9 fd0_9 fw0_0 rfl (q_tyA _) rfl (by decide) (by decide) rfl rfl (fun q hq => by simp [quL, hq]) ?_
  refine g_aload_n (i := 0) dX0_init_12 rfl rfl ?_
  refine g_iconst dX0_init_13 ?_
  refine g_newI (N := 3) (n' := 21) (k' := 2) (z' := 33) dX0_init_14 h20 rfl rfl (fun j => hc 20 (by decide) j) rfl rfl rfl rfl rfl ?_
  refine g_putP (L' := (quL Lb 18 (.inr (.inr (0, [.inl (some 19), .inl (some 20), .inl none, .inl none, .inr 0, .inr 0]))))) (fs' := [.inl (some 19), .inl (some 20), .inl none, .inl none, .inr 0, .inr 0]) dX0_init_16 fd0_15 fw0_1 rfl (q_tyA _) rfl (by decide) (by decide) rfl rfl (fun q hq => by simp [quL, hq]) ?_
  refine g_aload_n (i := 0) dX0_init_19 rfl rfl ?_
  refine g_iconst dX0_init_20 ?_
  refine g_newI (N := 3) (n' := 22) (k' := 3) (z' := 36) dX0_init_21 h21 rfl rfl (fun j => hc 21 (by decide) j) rfl rfl rfl rfl rfl ?_
  refine g_putP (L' := (quL Lb 18 (.inr (.inr (0, [.inl (some 19), .inl (some 20), .inl (some 21), .inl none, .inr 0, .inr 0]))))) (fs' := [.inl (some 19), .inl (some 20), .inl (some 21), .inl none, .inr 0, .inr 0]) dX0_init_23 fd0_18 fw0_2 rfl (q_tyA _) rfl (by decide) (by decide) rfl rfl (fun q hq => by simp [quL, hq]) ?_
  refine g_aload_n (i := 0) dX0_init_26 rfl rfl ?_
  refine g_bipush dX0_init_27 (by decide) ?_
  refine g_newI (N := 90) (n' := 23) (k' := 4) (z' := 126) dX0_init_29 h22 rfl rfl (fun j => hc 22 (by decide) j) rfl rfl rfl rfl rfl ?_
  refine g_putP (L' := (quL Lb 18 (.inr (.inr (0, [.inl (some 19), .inl (some 20), .inl (some 21), .inl (some 22), .inr 0, .inr 0]))))) (fs' := [.inl (some 19), .inl (some 20), .inl (some 21), .inl (some 22), .inr 0, .inr 0]) dX0_init_31 fd0_21 fw0_3 rfl (q_tyA _) rfl (by decide) (by decide) rfl rfl (fun q hq => by simp [quL, hq]) ?_
  refine g_aload_n (i := 0) dX0_init_34 rfl rfl ?_
  refine g_iconst dX0_init_35 ?_
  refine g_putI 4 dX0_init_36 fl0_24 fw0_4 rfl (by show 18 < 23; decide) rfl (by decide) rfl ?_
  refine g_aload_n (i := 0) dX0_init_39 rfl rfl ?_
  refine g_iconst dX0_init_40 ?_
  refine g_putI 5 dX0_init_41 fl0_28 fw0_5 rfl (by show 18 < 23; decide) rfl (by decide) rfl ?_
  exact g_retV dX0_init_44 rfl rfl rfl ⟨rfl, (quL_id h18), rfl, rfl⟩
set_option maxHeartbeats 4000000 in
set_option maxRecDepth 100000 in
theorem b_X1 (c : qC) (Lb : Nat → qL) (h23 : Lb 23 = .inr (.inr (1, [.inl (some 24), .inl (some 25), .inl (some 26)]))) (h24 : Lb 24 = .inl (0, 30)) (h25 : Lb 25 = .inl (2, 30)) (h26 : Lb 26 = .inl (0, 30)) (hc : ∀ q, 24 ≤ q → ∀ j, c q j = 0) : qK X1_init (1, 3, 90) [qP 23] (quL Lb 23 (.inr (.inr (1, [.inl none, .inl none, .inl none])))) 24 c (fun v L n c' => v = none ∧ L = Lb ∧ n = 27 ∧ c' = c) := by
  refine qK.of [some (qP 23)] (by decide) rfl (fun _ => rfl) (fun _ => Nat.le_of_ble_eq_true rfl) ?_
  refine g_aload_n (i := 0) dX1_init_0 rfl rfl ?_
  refine g_oinit dX1_init_1 ob1 rfl rfl ?_
  refine g_aload_n (i := 0) dX1_init_4 rfl rfl ?_
  refine g_bipush dX1_init_5 (by decide) ?_
  refine g_newI (N := 30) (n' := 25) (k' := 1) (z' := 30) dX1_init_7 h24 rfl rfl (fun j => hc 24 (by decide) j) rfl rfl rfl rfl rfl ?_
  refine g_putP (L' := (quL Lb 23 (.inr (.inr (1, [.inl (some 24), .inl none, .inl none]))))) (fs' := [.inl (some 24), .inl none, .inl none]) dX1_init_9 fd1_9 fw1_0 rfl (q_tyA _) rfl (by decide) (by decide) rfl rfl (fun q hq => by simp [quL, hq]) ?_
  refine g_aload_n (i := 0) dX1_init_12 rfl rfl ?_
  refine g_bipush dX1_init_13 (by decide) ?_
  refine g_newZ (N := 30) (n' := 26) (k' := 2) (z' := 60) dX1_init_15 h25 rfl rfl (fun j => hc 25 (by decide) j) rfl rfl rfl rfl rfl ?_
  refine g_putP (L' := (quL Lb 23 (.inr (.inr (1, [.inl (some 24), .inl (some 25), .inl none]))))) (fs' := [.inl (some 24), .inl (some 25), .inl none]) dX1_init_17 fd1_15 fw1_1 rfl (q_tyA _) rfl (by decide) (by decide) rfl rfl (fun q hq => by simp [quL, hq]) ?_
  refine g_aload_n (i := 0) dX1_init_20 rfl rfl ?_
  refine g_bipush dX1_init_21 (by decide) ?_
  refine g_newI (N := 30) (n' := 27) (k' := 3) (z' := 90) dX1_init_23 h26 rfl rfl (fun j => hc 26 (by decide) j) rfl rfl rfl rfl rfl ?_
  refine g_putP (L' := (quL Lb 23 (.inr (.inr (1, [.inl (some 24), .inl (some 25), .inl (some 26)]))))) (fs' := [.inl (some 24), .inl (some 25), .inl (some 26)]) dX1_init_25 fd1_19 fw1_2 rfl (q_tyA _) rfl (by decide) (by decide) rfl rfl (fun q hq => by simp [quL, hq]) ?_
  exact g_retV dX1_init_28 rfl rfl rfl ⟨rfl, (quL_id h23), rfl, rfl⟩
set_option maxHeartbeats 4000000 in
set_option maxRecDepth 100000 in
theorem b_X4 (c : qC) (Lb : Nat → qL) (h27 : Lb 27 = .inr (.inr (4, [.inl (some 28), .inl (some 29), .inl (some 30), .inl (some 31), .inl (some 32), .inl (some 33), .inl (some 34), .inl (some 35), .inl (some 36), .inl (some 37), .inr 0, .inr 0]))) (h28 : Lb 28 = .inl (0, 30)) (h29 : Lb 29 = .inl (0, 30)) (h30 : Lb 30 = .inl (0, 30)) (h31 : Lb 31 = .inl (1, 30)) (h32 : Lb 32 = .inl (1, 30)) (h33 : Lb 33 = .inl (0, 30)) (h34 : Lb 34 = .inl (0, 30)) (h35 : Lb 35 = .inl (1, 120)) (h36 : Lb 36 = .inl (1, 900)) (h37 : Lb 37 = .inr (.inr (2, [.inr 1, .inr 1]))) (hc : ∀ q, 28 ≤ q → ∀ j, c q j = 0) : qK X4_init (2, 10, 1232) [qP 27] (quL Lb 27 (.inr (.inr (4, [.inl none, .inl none, .inl none, .inl none, .inl none, .inl none, .inl none, .inl none, .inl none, .inl none, .inr 0, .inr 0])))) 28 c (fun v L n c' => v = none ∧ L = Lb ∧ n = 38 ∧ c' = (qu (qu (qu (qu c 37 0 (0)) 37 1 (1)) 27 10 (0)) 27 11 (-1))) := by
  refine qK.of [some (qP 27)] (by decide) rfl (fun _ => rfl) (fun _ => Nat.le_of_ble_eq_true rfl) ?_
  refine g_aload_n (i := 0) dX4_init_0 rfl rfl ?_
  refine g_oinit dX4_init_1 ob4 rfl rfl ?_
  refine g_aload_n (i := 0) dX4_init_4 rfl rfl ?_
  refine g_bipush dX4_init_5 (by decide) ?_
  refine g_newI (N := 30) (n' := 29) (k' := 1) (z' := 30) dX4_init_7 h28 rfl rfl (fun j => hc 28 (by decide) j) rfl rfl rfl rfl rfl ?_
  refine g_putP (L' := (quL Lb 27 (.inr (.inr (4, [.inl (some 28), .inl none, .inl none, .inl none, .inl none, .inl none, .inl none, .inl none, .inl none, .inl none, .inr 0, .inr 0]))))) (fs' := [.inl (some 28), .inl none, .inl none, .inl none, .inl none, .inl none, .inl none, .inl none, .inl none, .inl none, .inr 0, .inr 0]) dX4_init_9 fd4_9 fw4_0 rfl (q_tyA _) rfl (by decide) (by decide) rfl rfl (fun q hq => by simp [quL, hq]) ?_
  refine g_aload_n (i := 0) dX4_init_12 rfl rfl ?_
  refine g_bipush dX4_init_13 (by decide) ?_
  refine g_newI (N := 30) (n' := 30) (k' := 2) (z' := 60) dX4_init_15 h29 rfl rfl (fun j => hc 29 (by decide) j) rfl rfl rfl rfl rfl ?_
  refine g_putP (L' := (quL Lb 27 (.inr (.inr (4, [.inl (some 28), .inl (some 29), .inl none, .inl none, .inl none, .inl none, .inl none, .inl none, .inl none, .inl none, .inr 0, .inr 0]))))) (fs' := [.inl (some 28), .inl (some 29), .inl none, .inl none, .inl none, .inl none, .inl none, .inl none, .inl none, .inl none, .inr 0, .inr 0]) dX4_init_17 fd4_15 fw4_1 rfl (q_tyA _) rfl (by decide) (by decide) rfl rfl (fun q hq => by simp [quL, hq]) ?_
  refine g_aload_n (i := 0) dX4_init_20 rfl rfl ?_
  refine g_bipush dX4_init_21 (by decide) ?_
  refine g_newI (N := 30) (n' := 31) (k' := 3) (z' := 90) dX4_init_23 h30 rfl rfl (fun j => hc 30 (by decide) j) rfl rfl rfl rfl rfl ?_
  refine g_putP (L' := (quL Lb 27 (.inr (.inr (4, [.inl (some 28), .inl (some 29), .inl (some 30), .inl none, .inl none, .inl none, .inl none, .inl none, .inl none, .inl none, .inr 0, .inr 0]))))) (fs' := [.inl (some 28), .inl (some 29), .inl (some 30), .inl none, .inl none, .inl none, .inl none, .inl none, .inl none, .inl none, .inr 0, .inr 0]) dX4_init_25 fd4_18 fw4_2 rfl (q_tyA _) rfl (by decide) (by decide) rfl rfl (fun q hq => by simp [quL, hq]) ?_
  refine g_aload_n (i := 0) dX4_init_28 rfl rfl ?_
  refine g_bipush dX4_init_29 (by decide) ?_
  refine g_newJ (N := 30) (n' := 32) (k' := 4) (z' := 120) dX4_init_31 h31 rfl rfl (fun j => hc 31 (by decide) j) rfl rfl rfl rfl rfl ?_
  refine g_putP (L' := (quL Lb 27 (.inr (.inr (4, [.inl (some 28), .inl (some 29), .inl (some 30), .inl (some 31), .inl none, .inl none, .inl none, .inl none, .inl none, .inl none, .inr 0, .inr 0]))))) (fs' := [.inl (some 28), .inl (some 29), .inl (some 30), .inl (some 31), .inl none, .inl none, .inl none, .inl none, .inl none, .inl none, .inr 0, .inr 0]) dX4_init_33 fd4_21 fw4_3 rfl (q_tyA _) rfl (by decide) (by decide) rfl rfl (fun q hq => by simp [quL, hq]) ?_
  refine g_aload_n (i := 0) dX4_init_36 rfl rfl ?_
  refine g_bipush dX4_init_37 (by decide) ?_
  refine g_newJ (N := 30) (n' := 33) (k' := 5) (z' := 150) dX4_init_39 h32 rfl rfl (fun j => hc 32 (by decide) j) rfl rfl rfl rfl rfl ?_
  refine g_putP (L' := (quL Lb 27 (.inr (.inr (4, [.inl (some 28), .inl (some 29), .inl (some 30), .inl (some 31), .inl (some 32), .inl none, .inl none, .inl none, .inl none, .inl none, .inr 0, .inr 0]))))) (fs' := [.inl (some 28), .inl (some 29), .inl (some 30), .inl (some 31), .inl (some 32), .inl none, .inl none, .inl none, .inl none, .inl none, .inr 0, .inr 0]) dX4_init_41 fd4_25 fw4_4 rfl (q_tyA _) rfl (by decide) (by decide) rfl rfl (fun q hq => by simp [quL, hq]) ?_
  refine g_aload_n (i := 0) dX4_init_44 rfl rfl ?_
  refine g_bipush dX4_init_45 (by decide) ?_
  refine g_newI (N := 30) (n' := 34) (k' := 6) (z' := 180) dX4_init_47 h33 rfl rfl (fun j => hc 33 (by decide) j) rfl rfl rfl rfl rfl ?_
  refine g_putP (L' := (quL Lb 27 (.inr (.inr (4, [.inl (some 28), .inl (some 29), .inl (some 30), .inl (some 31), .inl (some 32), .inl (some 33), .inl none, .inl none, .inl none, .inl none, .inr 0, .inr 0]))))) (fs' := [.inl (some 28), .inl (some 29), .inl (some 30), .inl (some 31), .inl (some 32), .inl (some 33), .inl none, .inl none, .inl none, .inl none, .inr 0, .inr 0]) dX4_init_49 fd4_28 fw4_5 rfl (q_tyA _) rfl (by decide) (by decide) rfl rfl (fun q hq => by simp [quL, hq]) ?_
  refine g_aload_n (i := 0) dX4_init_52 rfl rfl ?_
  refine g_bipush dX4_init_53 (by decide) ?_
  refine g_newI (N := 30) (n' := 35) (k' := 7) (z' := 210) dX4_init_55 h34 rfl rfl (fun j => hc 34 (by decide) j) rfl rfl rfl rfl rfl ?_
  refine g_putP (L' := (quL Lb 27 (.inr (.inr (4, [.inl (some 28), .inl (some 29), .inl (some 30), .inl (some 31), .inl (some 32), .inl (some 33), .inl (some 34), .inl none, .inl none, .inl none, .inr 0, .inr 0]))))) (fs' := [.inl (some 28), .inl (some 29), .inl (some 30), .inl (some 31), .inl (some 32), .inl (some 33), .inl (some 34), .inl none, .inl none, .inl none, .inr 0, .inr 0]) dX4_init_57 fd4_31 fw4_6 rfl (q_tyA _) rfl (by decide) (by decide) rfl rfl (fun q hq => by simp [quL, hq]) ?_
  refine g_aload_n (i := 0) dX4_init_60 rfl rfl ?_
  refine g_bipush dX4_init_61 (by decide) ?_
  refine g_newJ (N := 120) (n' := 36) (k' := 8) (z' := 330) dX4_init_63 h35 rfl rfl (fun j => hc 35 (by decide) j) rfl rfl rfl rfl rfl ?_
  refine g_putP (L' := (quL Lb 27 (.inr (.inr (4, [.inl (some 28), .inl (some 29), .inl (some 30), .inl (some 31), .inl (some 32), .inl (some 33), .inl (some 34), .inl (some 35), .inl none, .inl none, .inr 0, .inr 0]))))) (fs' := [.inl (some 28), .inl (some 29), .inl (some 30), .inl (some 31), .inl (some 32), .inl (some 33), .inl (some 34), .inl (some 35), .inl none, .inl none, .inr 0, .inr 0]) dX4_init_65 fd4_34 fw4_7 rfl (q_tyA _) rfl (by decide) (by decide) rfl rfl (fun q hq => by simp [quL, hq]) ?_
  refine g_aload_n (i := 0) dX4_init_68 rfl rfl ?_
  refine g_sipush dX4_init_69 (by decide) ?_
  refine g_newJ (N := 900) (n' := 37) (k' := 9) (z' := 1230) dX4_init_72 h36 rfl rfl (fun j => hc 36 (by decide) j) rfl rfl rfl rfl rfl ?_
  refine g_putP (L' := (quL Lb 27 (.inr (.inr (4, [.inl (some 28), .inl (some 29), .inl (some 30), .inl (some 31), .inl (some 32), .inl (some 33), .inl (some 34), .inl (some 35), .inl (some 36), .inl none, .inr 0, .inr 0]))))) (fs' := [.inl (some 28), .inl (some 29), .inl (some 30), .inl (some 31), .inl (some 32), .inl (some 33), .inl (some 34), .inl (some 35), .inl (some 36), .inl none, .inr 0, .inr 0]) dX4_init_74 fd4_37 fw4_8 rfl (q_tyA _) rfl (by decide) (by decide) rfl rfl (fun q hq => by simp [quL, hq]) ?_
  refine g_aload_n (i := 0) dX4_init_77 rfl rfl ?_
  refine g_new (N := 2) (n' := 38) (k' := 10) (z' := 1232) dX4_init_78 nw4_40 rfl (fun j => hc 37 (by decide) j) rfl rfl rfl rfl rfl ?_
  refine g_dup dX4_init_81 rfl ?_
  refine g_callD (r := (1, 0, 0)) (k' := 10) (z' := 1232) (b_X2_37 c (quL Lb 27 (.inr (.inr (4, [.inl (some 28), .inl (some 29), .inl (some 30), .inl (some 31), .inl (some 32), .inl (some 33), .inl (some 34), .inl (some 35), .inl (some 36), .inl none, .inr 0, .inr 0])))) h37 (z_mono hc (by decide))) dX4_init_82 ld4_42 ii_X2_init rfl rfl rfl rfl rfl rfl rfl rfl rfl rfl (fun v La na c' hq => ?_)
  obtain ⟨rfl, rfl, rfl, rfl⟩ := hq
  refine g_putP (L' := (quL Lb 27 (.inr (.inr (4, [.inl (some 28), .inl (some 29), .inl (some 30), .inl (some 31), .inl (some 32), .inl (some 33), .inl (some 34), .inl (some 35), .inl (some 36), .inl (some 37), .inr 0, .inr 0]))))) (fs' := [.inl (some 28), .inl (some 29), .inl (some 30), .inl (some 31), .inl (some 32), .inl (some 33), .inl (some 34), .inl (some 35), .inl (some 36), .inl (some 37), .inr 0, .inr 0]) dX4_init_85 fd4_43 fw4_9 rfl (q_tyO _) rfl (by decide) (by decide) rfl rfl (fun q hq => by simp [quL, hq]) ?_
  refine g_aload_n (i := 0) dX4_init_88 rfl rfl ?_
  refine g_iconst dX4_init_89 ?_
  refine g_putI 10 dX4_init_90 fl4_47 fw4_10 rfl (by show 27 < 38; decide) rfl (by decide) rfl ?_
  refine g_aload_n (i := 0) dX4_init_93 rfl rfl ?_
  refine g_iconst dX4_init_94 ?_
  refine g_putI 11 dX4_init_95 fl4_51 fw4_11 rfl (by show 27 < 38; decide) rfl (by decide) rfl ?_
  exact g_retV dX4_init_98 rfl rfl rfl ⟨rfl, (quL_id h27), rfl, rfl⟩
set_option maxHeartbeats 4000000 in
set_option maxRecDepth 100000 in
theorem b_X7 (c : qC) (Lb : Nat → qL) (h0 : Lb 0 = .inr (.inr (7, [.inl (some 1), .inl (some 4), .inl (some 11), .inl (some 18), .inl (some 23), .inl (some 27), .inl (some 38)]))) (h1 : Lb 1 = .inr (.inr (6, [.inl (some 2), .inl (some 3), .inr 0, .inr 0]))) (h2 : Lb 2 = .inl (0, 120)) (h3 : Lb 3 = .inl (0, 2700)) (h4 : Lb 4 = .inr (.inl (2, LAYs))) (h5 : Lb 5 = .inr (.inr (3, [.inl (some 6), .inl (some 7), .inr 0, .inr 0]))) (h6 : Lb 6 = .inl (0, 30)) (h7 : Lb 7 = .inl (0, 30)) (h8 : Lb 8 = .inr (.inr (3, [.inl (some 9), .inl (some 10), .inr 0, .inr 0]))) (h9 : Lb 9 = .inl (0, 30)) (h10 : Lb 10 = .inl (0, 30)) (h11 : Lb 11 = .inr (.inr (5, [.inl (some 12), .inl (some 13), .inl (some 14), .inl (some 15), .inl (some 16), .inl (some 17), .inr 0]))) (h12 : Lb 12 = .inl (0, 30)) (h13 : Lb 13 = .inl (0, 30)) (h14 : Lb 14 = .inl (0, 6)) (h15 : Lb 15 = .inl (0, 24)) (h16 : Lb 16 = .inl (0, 6)) (h17 : Lb 17 = .inl (0, 30)) (h18 : Lb 18 = .inr (.inr (0, [.inl (some 19), .inl (some 20), .inl (some 21), .inl (some 22), .inr 0, .inr 0]))) (h19 : Lb 19 = .inl (0, 30)) (h20 : Lb 20 = .inl (0, 3)) (h21 : Lb 21 = .inl (0, 3)) (h22 : Lb 22 = .inl (0, 90)) (h23 : Lb 23 = .inr (.inr (1, [.inl (some 24), .inl (some 25), .inl (some 26)]))) (h24 : Lb 24 = .inl (0, 30)) (h25 : Lb 25 = .inl (2, 30)) (h26 : Lb 26 = .inl (0, 30)) (h27 : Lb 27 = .inr (.inr (4, [.inl (some 28), .inl (some 29), .inl (some 30), .inl (some 31), .inl (some 32), .inl (some 33), .inl (some 34), .inl (some 35), .inl (some 36), .inl (some 37), .inr 0, .inr 0]))) (h28 : Lb 28 = .inl (0, 30)) (h29 : Lb 29 = .inl (0, 30)) (h30 : Lb 30 = .inl (0, 30)) (h31 : Lb 31 = .inl (1, 30)) (h32 : Lb 32 = .inl (1, 30)) (h33 : Lb 33 = .inl (0, 30)) (h34 : Lb 34 = .inl (0, 30)) (h35 : Lb 35 = .inl (1, 120)) (h36 : Lb 36 = .inl (1, 900)) (h37 : Lb 37 = .inr (.inr (2, [.inr 1, .inr 1]))) (h38 : Lb 38 = .inr (.inr (2, [.inr 1, .inr 1]))) (hc : ∀ q, 1 ≤ q → ∀ j, c q j = 0) : qK X7_init (3, 38, 4558) [qP 0] (quL Lb 0 (.inr (.inr (7, [.inl none, .inl none, .inl none, .inl none, .inl none, .inl none, .inl none])))) 1 c (fun v L n c' => v = none ∧ L = Lb ∧ n = 39 ∧ c' = (qu (qu (qu (qu (qu (qu (qu (qu (qu (qu (qu (qu (qu (qu (qu c 1 2 (2)) 1 3 (0)) 5 2 (0)) 5 3 (-1)) 8 2 (0)) 8 3 (-1)) 11 6 (0)) 18 4 (0)) 18 5 (0)) 37 0 (0)) 37 1 (1)) 27 10 (0)) 27 11 (-1)) 38 0 (0)) 38 1 (1))) := by
  refine qK.of [some (qP 0), none] (by decide) rfl (fun _ => rfl) (fun _ => Nat.le_of_ble_eq_true rfl) ?_
  refine g_aload_n (i := 0) dX7_init_0 rfl rfl ?_
  refine g_oinit dX7_init_1 ob7 rfl rfl ?_
  refine g_aload_n (i := 0) dX7_init_4 rfl rfl ?_
  refine g_new (N := 4) (n' := 2) (k' := 1) (z' := 4) dX7_init_5 nw7_7 rfl (fun j => hc 1 (by decide) j) rfl rfl rfl rfl rfl ?_
  refine g_dup dX7_init_8 rfl ?_
  refine g_callD (r := (1, 2, 2820)) (k' := 3) (z' := 2824) (b_X6 c (quL Lb 0 (.inr (.inr (7, [.inl none, .inl none, .inl none, .inl none, .inl none, .inl none, .inl none])))) h1 h2 h3 (z_mono hc (by decide))) dX7_init_9 ld7_9 ii_X6_init rfl rfl rfl rfl rfl rfl rfl rfl rfl rfl (fun v La na c' hq => ?_)
  obtain ⟨rfl, rfl, rfl, rfl⟩ := hq
  refine g_putP (L' := (quL Lb 0 (.inr (.inr (7, [.inl (some 1), .inl none, .inl none, .inl none, .inl none, .inl none, .inl none]))))) (fs' := [.inl (some 1), .inl none, .inl none, .inl none, .inl none, .inl none, .inl none]) dX7_init_12 fd7_10 fw7_0 rfl (q_tyO _) rfl (by decide) (by decide) rfl rfl (fun q hq => by simp [quL, hq]) ?_
  refine g_aload_n (i := 0) dX7_init_15 rfl rfl ?_
  refine g_iconst dX7_init_16 ?_
  refine g_anew (n' := 5) (k' := 4) (z' := 2826) dX7_init_17 ca7_16 rfl rfl rfl rfl rfl ?_
  refine g_putP (L' := (quL (quL Lb 0 (.inr (.inr (7, [.inl (some 1), .inl (some 4), .inl none, .inl none, .inl none, .inl none, .inl none])))) 4 (.inr (.inl (2, fun _ => none))))) (fs' := [.inl (some 1), .inl (some 4), .inl none, .inl none, .inl none, .inl none, .inl none]) dX7_init_20 fd7_18 fw7_1 rfl (q_tyA _) rfl (by decide) (by decide) rfl rfl (fun q hq => by simp [quL, hq]) ?_
  refine g_iconst dX7_init_23 ?_
  refine g_istore_n1 dX7_init_24 rfl ?_
  refine g_iload_n (i := 1) dX7_init_25 rfl rfl ?_
  refine g_iconst dX7_init_26 ?_
  refine g_icmp_ge 49 dX7_init_27 (by decide) (fun b => absurd b (by decide)) (fun _ => ?_)
  refine g_aload_n (i := 0) dX7_init_30 rfl rfl ?_
  refine g_getP (b := 4) dX7_init_31 fl7_18 (by rfl) (by show 0 < 5; decide) rfl ?_
  refine g_iload_n (i := 1) dX7_init_34 rfl rfl ?_
  refine g_new (N := 4) (n' := 6) (k' := 5) (z' := 2830) dX7_init_35 nw7_16 rfl (fun j => hc 5 (by decide) j) rfl rfl rfl rfl rfl ?_
  refine g_dup dX7_init_38 rfl ?_
  refine g_callD (r := (1, 2, 60)) (k' := 7) (z' := 2890) (b_X3_5 (qu (qu c 1 2 (2)) 1 3 (0)) (quL (quL Lb 0 (.inr (.inr (7, [.inl (some 1), .inl (some 4), .inl none, .inl none, .inl none, .inl none, .inl none])))) 4 (.inr (.inl (2, fun _ => none)))) h5 h6 h7 (qu_z (qu_z (z_mono hc (by decide)) (by decide)) (by decide))) dX7_init_39 ld7_22 ii_X3_init rfl rfl rfl rfl rfl rfl rfl rfl rfl rfl (fun v La na c' hq => ?_)
  obtain ⟨rfl, rfl, rfl, rfl⟩ := hq
  refine g_aast (f' := LAYs1) (L' := (quL (quL Lb 0 (.inr (.inr (7, [.inl (some 1), .inl (some 4), .inl none, .inl none, .inl none, .inl none, .inl none])))) 4 (.inr (.inl (2, LAYs1))))) dX7_init_42 rfl (by decide) h5 (by decide) (by decide) (by decide) (by decide) rfl (by intro j; match j with | 0 => rfl | 1 => rfl | j + 2 => rfl) (fun q hq => by simp [quL, hq]) ?_
  refine g_iinc1 dX7_init_43 rfl ?_
  refine g_goto 25 dX7_init_46 (by decide) ?_
  refine g_iload_n (i := 1) dX7_init_25 rfl rfl ?_
  refine g_iconst dX7_init_26 ?_
  refine g_icmp_ge 49 dX7_init_27 (by decide) (fun b => absurd b (by decide)) (fun _ => ?_)
  refine g_aload_n (i := 0) dX7_init_30 rfl rfl ?_
  refine g_getP (b := 4) dX7_init_31 fl7_18 (by rfl) (by show 0 < 8; decide) rfl ?_
  refine g_iload_n (i := 1) dX7_init_34 rfl rfl ?_
  refine g_new (N := 4) (n' := 9) (k' := 8) (z' := 2894) dX7_init_35 nw7_16 rfl (fun j => hc 8 (by decide) j) rfl rfl rfl rfl rfl ?_
  refine g_dup dX7_init_38 rfl ?_
  refine g_callD (r := (1, 2, 60)) (k' := 10) (z' := 2954) (b_X3_8 (qu (qu (qu (qu c 1 2 (2)) 1 3 (0)) 5 2 (0)) 5 3 (-1)) (quL (quL Lb 0 (.inr (.inr (7, [.inl (some 1), .inl (some 4), .inl none, .inl none, .inl none, .inl none, .inl none])))) 4 (.inr (.inl (2, LAYs1)))) h8 h9 h10 (qu_z (qu_z (qu_z (qu_z (z_mono hc (by decide)) (by decide)) (by decide)) (by decide)) (by decide))) dX7_init_39 ld7_22 ii_X3_init rfl rfl rfl rfl rfl rfl rfl rfl rfl rfl (fun v La na c' hq => ?_)
  obtain ⟨rfl, rfl, rfl, rfl⟩ := hq
  refine g_aast (f' := LAYs) (L' := (quL (quL Lb 0 (.inr (.inr (7, [.inl (some 1), .inl (some 4), .inl none, .inl none, .inl none, .inl none, .inl none])))) 4 (.inr (.inl (2, LAYs))))) dX7_init_42 rfl (by decide) h8 (by decide) (by decide) (by decide) (by decide) rfl (by intro j; match j with | 0 => rfl | 1 => rfl | j + 2 => rfl) (fun q hq => by simp [quL, hq]) ?_
  refine g_iinc1 dX7_init_43 rfl ?_
  refine g_goto 25 dX7_init_46 (by decide) ?_
  refine g_iload_n (i := 1) dX7_init_25 rfl rfl ?_
  refine g_iconst dX7_init_26 ?_
  refine g_icmp_ge 49 dX7_init_27 (by decide) (fun _ => ?_) (fun b => absurd b (by decide))
  refine g_aload_n (i := 0) dX7_init_49 rfl rfl ?_
  refine g_new (N := 7) (n' := 12) (k' := 11) (z' := 2961) dX7_init_50 nw7_23 rfl (fun j => hc 11 (by decide) j) rfl rfl rfl rfl rfl ?_
  refine g_dup dX7_init_53 rfl ?_
  refine g_callD (r := (1, 6, 126)) (k' := 17) (z' := 3087) (b_X5 (qu (qu (qu (qu (qu (qu c 1 2 (2)) 1 3 (0)) 5 2 (0)) 5 3 (-1)) 8 2 (0)) 8 3 (-1)) (quL (quL Lb 0 (.inr (.inr (7, [.inl (some 1), .inl (some 4), .inl none, .inl none, .inl none, .inl none, .inl none])))) 4 (.inr (.inl (2, LAYs)))) h11 h12 h13 h14 h15 h16 h17 (qu_z (qu_z (qu_z (qu_z (qu_z (qu_z (z_mono hc (by decide)) (by decide)) (by decide)) (by decide)) (by decide)) (by decide)) (by decide))) dX7_init_54 ld7_25 ii_X5_init rfl rfl rfl rfl rfl rfl rfl rfl rfl rfl (fun v La na c' hq => ?_)
  obtain ⟨rfl, rfl, rfl, rfl⟩ := hq
  refine g_putP (L' := (quL (quL Lb 0 (.inr (.inr (7, [.inl (some 1), .inl (some 4), .inl (some 11), .inl none, .inl none, .inl none, .inl none])))) 4 (.inr (.inl (2, LAYs))))) (fs' := [.inl (some 1), .inl (some 4), .inl (some 11), .inl none, .inl none, .inl none, .inl none]) dX7_init_57 fd7_26 fw7_2 rfl (q_tyO _) rfl (by decide) (by decide) rfl rfl (fun q hq => by simp [quL, hq]) ?_
  refine g_aload_n (i := 0) dX7_init_60 rfl rfl ?_
  refine g_new (N := 6) (n' := 19) (k' := 18) (z' := 3093) dX7_init_61 nw7_30 rfl (fun j => hc 18 (by decide) j) rfl rfl rfl rfl rfl ?_
  refine g_dup dX7_init_64 rfl ?_
  refine g_callD (r := (1, 4, 126)) (k' := 22) (z' := 3219) (b_X0 (qu (qu (qu (qu (qu (qu (qu c 1 2 (2)) 1 3 (0)) 5 2 (0)) 5 3 (-1)) 8 2 (0)) 8 3 (-1)) 11 6 (0)) (quL (quL Lb 0 (.inr (.inr (7, [.inl (some 1), .inl (some 4), .inl (some 11), .inl none, .inl none, .inl none, .inl none])))) 4 (.inr (.inl (2, LAYs)))) h18 h19 h20 h21 h22 (qu_z (qu_z (qu_z (qu_z (qu_z (qu_z (qu_z (z_mono hc (by decide)) (by decide)) (by decide)) (by decide)) (by decide)) (by decide)) (by decide)) (by decide))) dX7_init_65 ld7_32 ii_X0_init rfl rfl rfl rfl rfl rfl rfl rfl rfl rfl (fun v La na c' hq => ?_)
  obtain ⟨rfl, rfl, rfl, rfl⟩ := hq
  refine g_putP (L' := (quL (quL Lb 0 (.inr (.inr (7, [.inl (some 1), .inl (some 4), .inl (some 11), .inl (some 18), .inl none, .inl none, .inl none])))) 4 (.inr (.inl (2, LAYs))))) (fs' := [.inl (some 1), .inl (some 4), .inl (some 11), .inl (some 18), .inl none, .inl none, .inl none]) dX7_init_68 fd7_33 fw7_3 rfl (q_tyO _) rfl (by decide) (by decide) rfl rfl (fun q hq => by simp [quL, hq]) ?_
  refine g_aload_n (i := 0) dX7_init_71 rfl rfl ?_
  refine g_new (N := 3) (n' := 24) (k' := 23) (z' := 3222) dX7_init_72 nw7_37 rfl (fun j => hc 23 (by decide) j) rfl rfl rfl rfl rfl ?_
  refine g_dup dX7_init_75 rfl ?_
  refine g_callD (r := (1, 3, 90)) (k' := 26) (z' := 3312) (b_X1 (qu (qu (qu (qu (qu (qu (qu (qu (qu c 1 2 (2)) 1 3 (0)) 5 2 (0)) 5 3 (-1)) 8 2 (0)) 8 3 (-1)) 11 6 (0)) 18 4 (0)) 18 5 (0)) (quL (quL Lb 0 (.inr (.inr (7, [.inl (some 1), .inl (some 4), .inl (some 11), .inl (some 18), .inl none, .inl none, .inl none])))) 4 (.inr (.inl (2, LAYs)))) h23 h24 h25 h26 (qu_z (qu_z (qu_z (qu_z (qu_z (qu_z (qu_z (qu_z (qu_z (z_mono hc (by decide)) (by decide)) (by decide)) (by decide)) (by decide)) (by decide)) (by decide)) (by decide)) (by decide)) (by decide))) dX7_init_76 ld7_39 ii_X1_init rfl rfl rfl rfl rfl rfl rfl rfl rfl rfl (fun v La na c' hq => ?_)
  obtain ⟨rfl, rfl, rfl, rfl⟩ := hq
  refine g_putP (L' := (quL (quL Lb 0 (.inr (.inr (7, [.inl (some 1), .inl (some 4), .inl (some 11), .inl (some 18), .inl (some 23), .inl none, .inl none])))) 4 (.inr (.inl (2, LAYs))))) (fs' := [.inl (some 1), .inl (some 4), .inl (some 11), .inl (some 18), .inl (some 23), .inl none, .inl none]) dX7_init_79 fd7_40 fw7_4 rfl (q_tyO _) rfl (by decide) (by decide) rfl rfl (fun q hq => by simp [quL, hq]) ?_
  refine g_aload_n (i := 0) dX7_init_82 rfl rfl ?_
  refine g_new (N := 12) (n' := 28) (k' := 27) (z' := 3324) dX7_init_83 nw7_44 rfl (fun j => hc 27 (by decide) j) rfl rfl rfl rfl rfl ?_
  refine g_dup dX7_init_86 rfl ?_
  refine g_callD (r := (2, 10, 1232)) (k' := 37) (z' := 4556) (b_X4 (qu (qu (qu (qu (qu (qu (qu (qu (qu c 1 2 (2)) 1 3 (0)) 5 2 (0)) 5 3 (-1)) 8 2 (0)) 8 3 (-1)) 11 6 (0)) 18 4 (0)) 18 5 (0)) (quL (quL Lb 0 (.inr (.inr (7, [.inl (some 1), .inl (some 4), .inl (some 11), .inl (some 18), .inl (some 23), .inl none, .inl none])))) 4 (.inr (.inl (2, LAYs)))) h27 h28 h29 h30 h31 h32 h33 h34 h35 h36 h37 (qu_z (qu_z (qu_z (qu_z (qu_z (qu_z (qu_z (qu_z (qu_z (z_mono hc (by decide)) (by decide)) (by decide)) (by decide)) (by decide)) (by decide)) (by decide)) (by decide)) (by decide)) (by decide))) dX7_init_87 ld7_46 ii_X4_init rfl rfl rfl rfl rfl rfl rfl rfl rfl rfl (fun v La na c' hq => ?_)
  obtain ⟨rfl, rfl, rfl, rfl⟩ := hq
  refine g_putP (L' := (quL (quL Lb 0 (.inr (.inr (7, [.inl (some 1), .inl (some 4), .inl (some 11), .inl (some 18), .inl (some 23), .inl (some 27), .inl none])))) 4 (.inr (.inl (2, LAYs))))) (fs' := [.inl (some 1), .inl (some 4), .inl (some 11), .inl (some 18), .inl (some 23), .inl (some 27), .inl none]) dX7_init_90 fd7_47 fw7_5 rfl (q_tyO _) rfl (by decide) (by decide) rfl rfl (fun q hq => by simp [quL, hq]) ?_
  refine g_aload_n (i := 0) dX7_init_93 rfl rfl ?_
  refine g_new (N := 2) (n' := 39) (k' := 38) (z' := 4558) dX7_init_94 nw7_51 rfl (fun j => hc 38 (by decide) j) rfl rfl rfl rfl rfl ?_
  refine g_dup dX7_init_97 rfl ?_
  refine g_callD (r := (1, 0, 0)) (k' := 38) (z' := 4558) (b_X2_38 (qu (qu (qu (qu (qu (qu (qu (qu (qu (qu (qu (qu (qu c 1 2 (2)) 1 3 (0)) 5 2 (0)) 5 3 (-1)) 8 2 (0)) 8 3 (-1)) 11 6 (0)) 18 4 (0)) 18 5 (0)) 37 0 (0)) 37 1 (1)) 27 10 (0)) 27 11 (-1)) (quL (quL Lb 0 (.inr (.inr (7, [.inl (some 1), .inl (some 4), .inl (some 11), .inl (some 18), .inl (some 23), .inl (some 27), .inl none])))) 4 (.inr (.inl (2, LAYs)))) h38 (qu_z (qu_z (qu_z (qu_z (qu_z (qu_z (qu_z (qu_z (qu_z (qu_z (qu_z (qu_z (qu_z (z_mono hc (by decide)) (by decide)) (by decide)) (by decide)) (by decide)) (by decide)) (by decide)) (by decide)) (by decide)) (by decide)) (by decide)) (by decide)) (by decide)) (by decide))) dX7_init_98 ld7_53 ii_X2_init rfl rfl rfl rfl rfl rfl rfl rfl rfl rfl (fun v La na c' hq => ?_)
  obtain ⟨rfl, rfl, rfl, rfl⟩ := hq
  refine g_putP (L' := (quL (quL Lb 0 (.inr (.inr (7, [.inl (some 1), .inl (some 4), .inl (some 11), .inl (some 18), .inl (some 23), .inl (some 27), .inl (some 38)])))) 4 (.inr (.inl (2, LAYs))))) (fs' := [.inl (some 1), .inl (some 4), .inl (some 11), .inl (some 18), .inl (some 23), .inl (some 27), .inl (some 38)]) dX7_init_101 fd7_54 fw7_6 rfl (q_tyO _) rfl (by decide) (by decide) rfl rfl (fun q hq => by simp [quL, hq]) ?_
  exact g_retV dX7_init_104 rfl rfl rfl ⟨rfl, ((congrArg (fun u => quL u 4 _) (quL_id h0)).trans (quL_id h4)), rfl, rfl⟩
set_option maxHeartbeats 4000000 in
set_option maxRecDepth 100000 in
theorem b_X8 (c : qC) (Lb : Nat → qL) (h39 : Lb 39 = .inr (.inr (8, [.inr 0, .inr 0, .inl (some 40), .inl (some 41), .inl (some 42), .inl (some 43), .inr 0, .inl (some 44), .inr 2, .inr 0, .inl (some 45), .inl (some 46), .inl (some 47), .inl (some 48), .inl (some 49), .inl (some 50), .inl (some 51), .inl (some 52), .inl (some 53), .inl (some 54), .inl (some 55), .inl (some 56), .inr 1, .inr 1, .inl (some 57), .inl (some 58), .inl (some 59), .inl (some 60), .inl (some 61)]))) (h40 : Lb 40 = .inl (0, 120)) (h41 : Lb 41 = .inl (2, 2)) (h42 : Lb 42 = .inl (0, 2)) (h43 : Lb 43 = .inl (0, 60)) (h44 : Lb 44 = .inl (0, 3)) (h45 : Lb 45 = .inl (0, 29)) (h46 : Lb 46 = .inl (0, 29)) (h47 : Lb 47 = .inl (0, 29)) (h48 : Lb 48 = .inl (1, 29)) (h49 : Lb 49 = .inl (1, 29)) (h50 : Lb 50 = .inl (0, 900)) (h51 : Lb 51 = .inl (1, 24)) (h52 : Lb 52 = .inl (0, 6)) (h53 : Lb 53 = .inl (0, 30)) (h54 : Lb 54 = .inl (2, 30)) (h55 : Lb 55 = .inl (2, 30)) (h56 : Lb 56 = .inl (0, 30)) (h57 : Lb 57 = .inl (1, 30)) (h58 : Lb 58 = .inl (1, 120)) (h59 : Lb 59 = .inl (1, 900)) (h60 : Lb 60 = .inl (1, 900)) (h61 : Lb 61 = .inl (1, 900)) (hc : ∀ q, 40 ≤ q → ∀ j, c q j = 0) : qK X8_init (1, 22, 4232) [qP 39] (quL Lb 39 (.inr (.inr (8, [.inr 0, .inr 0, .inl none, .inl none, .inl none, .inl none, .inr 0, .inl none, .inr 2, .inr 0, .inl none, .inl none, .inl none, .inl none, .inl none, .inl none, .inl none, .inl none, .inl none, .inl none, .inl none, .inl none, .inr 1, .inr 1, .inl none, .inl none, .inl none, .inl none, .inl none])))) 40 c (fun v L n c' => v = none ∧ L = Lb ∧ n = 62 ∧ c' = (qu c 39 1 (2))) := by
  refine qK.of [some (qP 39)] (by decide) rfl (fun _ => rfl) (fun _ => Nat.le_of_ble_eq_true rfl) ?_
  refine g_aload_n (i := 0) dX8_init_0 rfl rfl ?_
  refine g_oinit dX8_init_1 ob8 rfl rfl ?_
  refine g_aload_n (i := 0) dX8_init_4 rfl rfl ?_
  refine g_iconst dX8_init_5 ?_
  refine g_putI 1 dX8_init_6 fl8_7 fw8_1 rfl (by show 39 < 40; decide) rfl (by decide) rfl ?_
  refine g_aload_n (i := 0) dX8_init_9 rfl rfl ?_
  refine g_bipush dX8_init_10 (by decide) ?_
  refine g_newI (N := 120) (n' := 41) (k' := 1) (z' := 120) dX8_init_12 h40 rfl rfl (fun j => hc 40 (by decide) j) rfl rfl rfl rfl rfl ?_
  refine g_putP (L' := (quL Lb 39 (.inr (.inr (8, [.inr 0, .inr 0, .inl (some 40), .inl none, .inl none, .inl none, .inr 0, .inl none, .inr 2, .inr 0, .inl none, .inl none, .inl none, .inl none, .inl none, .inl none, .inl none, .inl none, .inl none, .inl none, .inl none, .inl none, .inr 1, .inr 1, .inl none, .inl none, .inl none, .inl none, .inl none]))))) (fs' := [.inr 0, .inr 0, .inl (some 40), .inl none, .inl none, .inl none, .inr 0, .inl none, .inr 2, .inr 0, .inl none, .inl none, .inl none, .inl none, .inl none, .inl none, .inl none, .inl none, .inl none, .inl none, .inl none, .inl none, .inr 1, .inr 1, .inl none, .inl none, .inl none, .inl none, .inl none]) dX8_init_14 fd8_13 fw8_2 rfl (q_tyA _) rfl (by decide) (by decide) rfl rfl (fun q hq => by simp [quL, hq]) ?_
  refine g_aload_n (i := 0) dX8_init_17 rfl rfl ?_
  refine g_iconst dX8_init_18 ?_
  refine g_newZ (N := 2) (n' := 42) (k' := 2) (z' := 122) dX8_init_19 h41 rfl rfl (fun j => hc 41 (by decide) j) rfl rfl rfl rfl rfl ?_
  refine g_putP (L' := (quL Lb 39 (.inr (.inr (8, [.inr 0, .inr 0, .inl (some 40), .inl (some 41), .inl none, .inl none, .inr 0, .inl none, .inr 2, .inr 0, .inl none, .inl none, .inl none, .inl none, .inl none, .inl none, .inl none, .inl none, .inl none, .inl none, .inl none, .inl none, .inr 1, .inr 1, .inl none, .inl none, .inl none, .inl none, .inl none]))))) (fs' := [.inr 0, .inr 0, .inl (some 40), .inl (some 41), .inl none, .inl none, .inr 0, .inl none, .inr 2, .inr 0, .inl none, .inl none, .inl none, .inl none, .inl none, .inl none, .inl none, .inl none, .inl none, .inl none, .inl none, .inl none, .inr 1, .inr 1, .inl none, .inl none, .inl none, .inl none, .inl none]) dX8_init_21 fd8_17 fw8_3 rfl (q_tyA _) rfl (by decide) (by decide) rfl rfl (fun q hq => by simp [quL, hq]) ?_
  refine g_aload_n (i := 0) dX8_init_24 rfl rfl ?_
  refine g_iconst dX8_init_25 ?_
  refine g_newI (N := 2) (n' := 43) (k' := 3) (z' := 124) dX8_init_26 h42 rfl rfl (fun j => hc 42 (by decide) j) rfl rfl rfl rfl rfl ?_
  refine g_putP (L' := (quL Lb 39 (.inr (.inr (8, [.inr 0, .inr 0, .inl (some 40), .inl (some 41), .inl (some 42), .inl none, .inr 0, .inl none, .inr 2, .inr 0, .inl none, .inl none, .inl none, .inl none, .inl none, .inl none, .inl none, .inl none, .inl none, .inl none, .inl none, .inl none, .inr 1, .inr 1, .inl none, .inl none, .inl none, .inl none, .inl none]))))) (fs' := [.inr 0, .inr 0, .inl (some 40), .inl (some 41), .inl (some 42), .inl none, .inr 0, .inl none, .inr 2, .inr 0, .inl none, .inl none, .inl none, .inl none, .inl none, .inl none, .inl none, .inl none, .inl none, .inl none, .inl none, .inl none, .inr 1, .inr 1, .inl none, .inl none, .inl none, .inl none, .inl none]) dX8_init_28 fd8_21 fw8_4 rfl (q_tyA _) rfl (by decide) (by decide) rfl rfl (fun q hq => by simp [quL, hq]) ?_
  refine g_aload_n (i := 0) dX8_init_31 rfl rfl ?_
  refine g_bipush dX8_init_32 (by decide) ?_
  refine g_newI (N := 60) (n' := 44) (k' := 4) (z' := 184) dX8_init_34 h43 rfl rfl (fun j => hc 43 (by decide) j) rfl rfl rfl rfl rfl ?_
  refine g_putP (L' := (quL Lb 39 (.inr (.inr (8, [.inr 0, .inr 0, .inl (some 40), .inl (some 41), .inl (some 42), .inl (some 43), .inr 0, .inl none, .inr 2, .inr 0, .inl none, .inl none, .inl none, .inl none, .inl none, .inl none, .inl none, .inl none, .inl none, .inl none, .inl none, .inl none, .inr 1, .inr 1, .inl none, .inl none, .inl none, .inl none, .inl none]))))) (fs' := [.inr 0, .inr 0, .inl (some 40), .inl (some 41), .inl (some 42), .inl (some 43), .inr 0, .inl none, .inr 2, .inr 0, .inl none, .inl none, .inl none, .inl none, .inl none, .inl none, .inl none, .inl none, .inl none, .inl none, .inl none, .inl none, .inr 1, .inr 1, .inl none, .inl none, .inl none, .inl none, .inl none]) dX8_init_36 fd8_24 fw8_5 rfl (q_tyA _) rfl (by decide) (by decide) rfl rfl (fun q hq => by simp [quL, hq]) ?_
  refine g_aload_n (i := 0) dX8_init_39 rfl rfl ?_
  refine g_iconst dX8_init_40 ?_
  refine g_newI (N := 3) (n' := 45) (k' := 5) (z' := 187) dX8_init_41 h44 rfl rfl (fun j => hc 44 (by decide) j) rfl rfl rfl rfl rfl ?_
  refine g_putP (L' := (quL Lb 39 (.inr (.inr (8, [.inr 0, .inr 0, .inl (some 40), .inl (some 41), .inl (some 42), .inl (some 43), .inr 0, .inl (some 44), .inr 2, .inr 0, .inl none, .inl none, .inl none, .inl none, .inl none, .inl none, .inl none, .inl none, .inl none, .inl none, .inl none, .inl none, .inr 1, .inr 1, .inl none, .inl none, .inl none, .inl none, .inl none]))))) (fs' := [.inr 0, .inr 0, .inl (some 40), .inl (some 41), .inl (some 42), .inl (some 43), .inr 0, .inl (some 44), .inr 2, .inr 0, .inl none, .inl none, .inl none, .inl none, .inl none, .inl none, .inl none, .inl none, .inl none, .inl none, .inl none, .inl none, .inr 1, .inr 1, .inl none, .inl none, .inl none, .inl none, .inl none]) dX8_init_43 fd8_27 fw8_7 rfl (q_tyA _) rfl (by decide) (by decide) rfl rfl (fun q hq => by simp [quL, hq]) ?_
  refine g_aload_n (i := 0) dX8_init_46 rfl rfl ?_
  refine g_bipush dX8_init_47 (by decide) ?_
  refine g_newI (N := 29) (n' := 46) (k' := 6) (z' := 216) dX8_init_49 h45 rfl rfl (fun j => hc 45 (by decide) j) rfl rfl rfl rfl rfl ?_
  refine g_putP (L' := (quL Lb 39 (.inr (.inr (8, [.inr 0, .inr 0, .inl (some 40), .inl (some 41), .inl (some 42), .inl (some 43), .inr 0, .inl (some 44), .inr 2, .inr 0, .inl (some 45), .inl none, .inl none, .inl none, .inl none, .inl none, .inl none, .inl none, .inl none, .inl none, .inl none, .inl none, .inr 1, .inr 1, .inl none, .inl none, .inl none, .inl none, .inl none]))))) (fs' := [.inr 0, .inr 0, .inl (some 40), .inl (some 41), .inl (some 42), .inl (some 43), .inr 0, .inl (some 44), .inr 2, .inr 0, .inl (some 45), .inl none, .inl none, .inl none, .inl none, .inl none, .inl none, .inl none, .inl none, .inl none, .inl none, .inl none, .inr 1, .inr 1, .inl none, .inl none, .inl none, .inl none, .inl none]) dX8_init_51 fd8_30 fw8_10 rfl (q_tyA _) rfl (by decide) (by decide) rfl rfl (fun q hq => by simp [quL, hq]) ?_
  refine g_aload_n (i := 0) dX8_init_54 rfl rfl ?_
  refine g_bipush dX8_init_55 (by decide) ?_
  refine g_newI (N := 29) (n' := 47) (k' := 7) (z' := 245) dX8_init_57 h46 rfl rfl (fun j => hc 46 (by decide) j) rfl rfl rfl rfl rfl ?_
  refine g_putP (L' := (quL Lb 39 (.inr (.inr (8, [.inr 0, .inr 0, .inl (some 40), .inl (some 41), .inl (some 42), .inl (some 43), .inr 0, .inl (some 44), .inr 2, .inr 0, .inl (some 45), .inl (some 46), .inl none, .inl none, .inl none, .inl none, .inl none, .inl none, .inl none, .inl none, .inl none, .inl none, .inr 1, .inr 1, .inl none, .inl none, .inl none, .inl none, .inl none]))))) (fs' := [.inr 0, .inr 0, .inl (some 40), .inl (some 41), .inl (some 42), .inl (some 43), .inr 0, .inl (some 44), .inr 2, .inr 0, .inl (some 45), .inl (some 46), .inl none, .inl none, .inl none, .inl none, .inl none, .inl none, .inl none, .inl none, .inl none, .inl none, .inr 1, .inr 1, .inl none, .inl none, .inl none, .inl none, .inl none]) dX8_init_59 fd8_33 fw8_11 rfl (q_tyA _) rfl (by decide) (by decide) rfl rfl (fun q hq => by simp [quL, hq]) ?_
  refine g_aload_n (i := 0) dX8_init_62 rfl rfl ?_
  refine g_bipush dX8_init_63 (by decide) ?_
  refine g_newI (N := 29) (n' := 48) (k' := 8) (z' := 274) dX8_init_65 h47 rfl rfl (fun j => hc 47 (by decide) j) rfl rfl rfl rfl rfl ?_
  refine g_putP (L' := (quL Lb 39 (.inr (.inr (8, [.inr 0, .inr 0, .inl (some 40), .inl (some 41), .inl (some 42), .inl (some 43), .inr 0, .inl (some 44), .inr 2, .inr 0, .inl (some 45), .inl (some 46), .inl (some 47), .inl none, .inl none, .inl none, .inl none, .inl none, .inl none, .inl none, .inl none, .inl none, .inr 1, .inr 1, .inl none, .inl none, .inl none, .inl none, .inl none]))))) (fs' := [.inr 0, .inr 0, .inl (some 40), .inl (some 41), .inl (some 42), .inl (some 43), .inr 0, .inl (some 44), .inr 2, .inr 0, .inl (some 45), .inl (some 46), .inl (some 47), .inl none, .inl none, .inl none, .inl none, .inl none, .inl none, .inl none, .inl none, .inl none, .inr 1, .inr 1, .inl none, .inl none, .inl none, .inl none, .inl none]) dX8_init_67 fd8_36 fw8_12 rfl (q_tyA _) rfl (by decide) (by decide) rfl rfl (fun q hq => by simp [quL, hq]) ?_
  refine g_aload_n (i := 0) dX8_init_70 rfl rfl ?_
  refine g_bipush dX8_init_71 (by decide) ?_
  refine g_newJ (N := 29) (n' := 49) (k' := 9) (z' := 303) dX8_init_73 h48 rfl rfl (fun j => hc 48 (by decide) j) rfl rfl rfl rfl rfl ?_
  refine g_putP (L' := (quL Lb 39 (.inr (.inr (8, [.inr 0, .inr 0, .inl (some 40), .inl (some 41), .inl (some 42), .inl (some 43), .inr 0, .inl (some 44), .inr 2, .inr 0, .inl (some 45), .inl (some 46), .inl (some 47), .inl (some 48), .inl none, .inl none, .inl none, .inl none, .inl none, .inl none, .inl none, .inl none, .inr 1, .inr 1, .inl none, .inl none, .inl none, .inl none, .inl none]))))) (fs' := [.inr 0, .inr 0, .inl (some 40), .inl (some 41), .inl (some 42), .inl (some 43), .inr 0, .inl (some 44), .inr 2, .inr 0, .inl (some 45), .inl (some 46), .inl (some 47), .inl (some 48), .inl none, .inl none, .inl none, .inl none, .inl none, .inl none, .inl none, .inl none, .inr 1, .inr 1, .inl none, .inl none, .inl none, .inl none, .inl none]) dX8_init_75 fd8_39 fw8_13 rfl (q_tyA _) rfl (by decide) (by decide) rfl rfl (fun q hq => by simp [quL, hq]) ?_
  refine g_aload_n (i := 0) dX8_init_78 rfl rfl ?_
  refine g_bipush dX8_init_79 (by decide) ?_
  refine g_newJ (N := 29) (n' := 50) (k' := 10) (z' := 332) dX8_init_81 h49 rfl rfl (fun j => hc 49 (by decide) j) rfl rfl rfl rfl rfl ?_
  refine g_putP (L' := (quL Lb 39 (.inr (.inr (8, [.inr 0, .inr 0, .inl (some 40), .inl (some 41), .inl (some 42), .inl (some 43), .inr 0, .inl (some 44), .inr 2, .inr 0, .inl (some 45), .inl (some 46), .inl (some 47), .inl (some 48), .inl (some 49), .inl none, .inl none, .inl none, .inl none, .inl none, .inl none, .inl none, .inr 1, .inr 1, .inl none, .inl none, .inl none, .inl none, .inl none]))))) (fs' := [.inr 0, .inr 0, .inl (some 40), .inl (some 41), .inl (some 42), .inl (some 43), .inr 0, .inl (some 44), .inr 2, .inr 0, .inl (some 45), .inl (some 46), .inl (some 47), .inl (some 48), .inl (some 49), .inl none, .inl none, .inl none, .inl none, .inl none, .inl none, .inl none, .inr 1, .inr 1, .inl none, .inl none, .inl none, .inl none, .inl none]) dX8_init_83 fd8_43 fw8_14 rfl (q_tyA _) rfl (by decide) (by decide) rfl rfl (fun q hq => by simp [quL, hq]) ?_
  refine g_aload_n (i := 0) dX8_init_86 rfl rfl ?_
  refine g_sipush dX8_init_87 (by decide) ?_
  refine g_newI (N := 900) (n' := 51) (k' := 11) (z' := 1232) dX8_init_90 h50 rfl rfl (fun j => hc 50 (by decide) j) rfl rfl rfl rfl rfl ?_
  refine g_putP (L' := (quL Lb 39 (.inr (.inr (8, [.inr 0, .inr 0, .inl (some 40), .inl (some 41), .inl (some 42), .inl (some 43), .inr 0, .inl (some 44), .inr 2, .inr 0, .inl (some 45), .inl (some 46), .inl (some 47), .inl (some 48), .inl (some 49), .inl (some 50), .inl none, .inl none, .inl none, .inl none, .inl none, .inl none, .inr 1, .inr 1, .inl none, .inl none, .inl none, .inl none, .inl none]))))) (fs' := [.inr 0, .inr 0, .inl (some 40), .inl (some 41), .inl (some 42), .inl (some 43), .inr 0, .inl (some 44), .inr 2, .inr 0, .inl (some 45), .inl (some 46), .inl (some 47), .inl (some 48), .inl (some 49), .inl (some 50), .inl none, .inl none, .inl none, .inl none, .inl none, .inl none, .inr 1, .inr 1, .inl none, .inl none, .inl none, .inl none, .inl none]) dX8_init_92 fd8_46 fw8_15 rfl (q_tyA _) rfl (by decide) (by decide) rfl rfl (fun q hq => by simp [quL, hq]) ?_
  refine g_aload_n (i := 0) dX8_init_95 rfl rfl ?_
  refine g_bipush dX8_init_96 (by decide) ?_
  refine g_newJ (N := 24) (n' := 52) (k' := 12) (z' := 1256) dX8_init_98 h51 rfl rfl (fun j => hc 51 (by decide) j) rfl rfl rfl rfl rfl ?_
  refine g_putP (L' := (quL Lb 39 (.inr (.inr (8, [.inr 0, .inr 0, .inl (some 40), .inl (some 41), .inl (some 42), .inl (some 43), .inr 0, .inl (some 44), .inr 2, .inr 0, .inl (some 45), .inl (some 46), .inl (some 47), .inl (some 48), .inl (some 49), .inl (some 50), .inl (some 51), .inl none, .inl none, .inl none, .inl none, .inl none, .inr 1, .inr 1, .inl none, .inl none, .inl none, .inl none, .inl none]))))) (fs' := [.inr 0, .inr 0, .inl (some 40), .inl (some 41), .inl (some 42), .inl (some 43), .inr 0, .inl (some 44), .inr 2, .inr 0, .inl (some 45), .inl (some 46), .inl (some 47), .inl (some 48), .inl (some 49), .inl (some 50), .inl (some 51), .inl none, .inl none, .inl none, .inl none, .inl none, .inr 1, .inr 1, .inl none, .inl none, .inl none, .inl none, .inl none]) dX8_init_100 fd8_49 fw8_16 rfl (q_tyA _) rfl (by decide) (by decide) rfl rfl (fun q hq => by simp [quL, hq]) ?_
  refine g_aload_n (i := 0) dX8_init_103 rfl rfl ?_
  refine g_bipush dX8_init_104 (by decide) ?_
  refine g_newI (N := 6) (n' := 53) (k' := 13) (z' := 1262) dX8_init_106 h52 rfl rfl (fun j => hc 52 (by decide) j) rfl rfl rfl rfl rfl ?_
  refine g_putP (L' := (quL Lb 39 (.inr (.inr (8, [.inr 0, .inr 0, .inl (some 40), .inl (some 41), .inl (some 42), .inl (some 43), .inr 0, .inl (some 44), .inr 2, .inr 0, .inl (some 45), .inl (some 46), .inl (some 47), .inl (some 48), .inl (some 49), .inl (some 50), .inl (some 51), .inl (some 52), .inl none, .inl none, .inl none, .inl none, .inr 1, .inr 1, .inl none, .inl none, .inl none, .inl none, .inl none]))))) (fs' := [.inr 0, .inr 0, .inl (some 40), .inl (some 41), .inl (some 42), .inl (some 43), .inr 0, .inl (some 44), .inr 2, .inr 0, .inl (some 45), .inl (some 46), .inl (some 47), .inl (some 48), .inl (some 49), .inl (some 50), .inl (some 51), .inl (some 52), .inl none, .inl none, .inl none, .inl none, .inr 1, .inr 1, .inl none, .inl none, .inl none, .inl none, .inl none]) dX8_init_108 fd8_52 fw8_17 rfl (q_tyA _) rfl (by decide) (by decide) rfl rfl (fun q hq => by simp [quL, hq]) ?_
  refine g_aload_n (i := 0) dX8_init_111 rfl rfl ?_
  refine g_bipush dX8_init_112 (by decide) ?_
  refine g_newI (N := 30) (n' := 54) (k' := 14) (z' := 1292) dX8_init_114 h53 rfl rfl (fun j => hc 53 (by decide) j) rfl rfl rfl rfl rfl ?_
  refine g_putP (L' := (quL Lb 39 (.inr (.inr (8, [.inr 0, .inr 0, .inl (some 40), .inl (some 41), .inl (some 42), .inl (some 43), .inr 0, .inl (some 44), .inr 2, .inr 0, .inl (some 45), .inl (some 46), .inl (some 47), .inl (some 48), .inl (some 49), .inl (some 50), .inl (some 51), .inl (some 52), .inl (some 53), .inl none, .inl none, .inl none, .inr 1, .inr 1, .inl none, .inl none, .inl none, .inl none, .inl none]))))) (fs' := [.inr 0, .inr 0, .inl (some 40), .inl (some 41), .inl (some 42), .inl (some 43), .inr 0, .inl (some 44), .inr 2, .inr 0, .inl (some 45), .inl (some 46), .inl (some 47), .inl (some 48), .inl (some 49), .inl (some 50), .inl (some 51), .inl (some 52), .inl (some 53), .inl none, .inl none, .inl none, .inr 1, .inr 1, .inl none, .inl none, .inl none, .inl none, .inl none]) dX8_init_116 fd8_55 fw8_18 rfl (q_tyA _) rfl (by decide) (by decide) rfl rfl (fun q hq => by simp [quL, hq]) ?_
  refine g_aload_n (i := 0) dX8_init_119 rfl rfl ?_
  refine g_bipush dX8_init_120 (by decide) ?_
  refine g_newZ (N := 30) (n' := 55) (k' := 15) (z' := 1322) dX8_init_122 h54 rfl rfl (fun j => hc 54 (by decide) j) rfl rfl rfl rfl rfl ?_
  refine g_putP (L' := (quL Lb 39 (.inr (.inr (8, [.inr 0, .inr 0, .inl (some 40), .inl (some 41), .inl (some 42), .inl (some 43), .inr 0, .inl (some 44), .inr 2, .inr 0, .inl (some 45), .inl (some 46), .inl (some 47), .inl (some 48), .inl (some 49), .inl (some 50), .inl (some 51), .inl (some 52), .inl (some 53), .inl (some 54), .inl none, .inl none, .inr 1, .inr 1, .inl none, .inl none, .inl none, .inl none, .inl none]))))) (fs' := [.inr 0, .inr 0, .inl (some 40), .inl (some 41), .inl (some 42), .inl (some 43), .inr 0, .inl (some 44), .inr 2, .inr 0, .inl (some 45), .inl (some 46), .inl (some 47), .inl (some 48), .inl (some 49), .inl (some 50), .inl (some 51), .inl (some 52), .inl (some 53), .inl (some 54), .inl none, .inl none, .inr 1, .inr 1, .inl none, .inl none, .inl none, .inl none, .inl none]) dX8_init_124 fd8_58 fw8_19 rfl (q_tyA _) rfl (by decide) (by decide) rfl rfl (fun q hq => by simp [quL, hq]) ?_
  refine g_aload_n (i := 0) dX8_init_127 rfl rfl ?_
  refine g_bipush dX8_init_128 (by decide) ?_
  refine g_newZ (N := 30) (n' := 56) (k' := 16) (z' := 1352) dX8_init_130 h55 rfl rfl (fun j => hc 55 (by decide) j) rfl rfl rfl rfl rfl ?_
  refine g_putP (L' := (quL Lb 39 (.inr (.inr (8, [.inr 0, .inr 0, .inl (some 40), .inl (some 41), .inl (some 42), .inl (some 43), .inr 0, .inl (some 44), .inr 2, .inr 0, .inl (some 45), .inl (some 46), .inl (some 47), .inl (some 48), .inl (some 49), .inl (some 50), .inl (some 51), .inl (some 52), .inl (some 53), .inl (some 54), .inl (some 55), .inl none, .inr 1, .inr 1, .inl none, .inl none, .inl none, .inl none, .inl none]))))) (fs' := [.inr 0, .inr 0, .inl (some 40), .inl (some 41), .inl (some 42), .inl (some 43), .inr 0, .inl (some 44), .inr 2, .inr 0, .inl (some 45), .inl (some 46), .inl (some 47), .inl (some 48), .inl (some 49), .inl (some 50), .inl (some 51), .inl (some 52), .inl (some 53), .inl (some 54), .inl (some 55), .inl none, .inr 1, .inr 1, .inl none, .inl none, .inl none, .inl none, .inl none]) dX8_init_132 fd8_61 fw8_20 rfl (q_tyA _) rfl (by decide) (by decide) rfl rfl (fun q hq => by simp [quL, hq]) ?_
  refine g_aload_n (i := 0) dX8_init_135 rfl rfl ?_
  refine g_bipush dX8_init_136 (by decide) ?_
  refine g_newI (N := 30) (n' := 57) (k' := 17) (z' := 1382) dX8_init_138 h56 rfl rfl (fun j => hc 56 (by decide) j) rfl rfl rfl rfl rfl ?_
  refine g_putP (L' := (quL Lb 39 (.inr (.inr (8, [.inr 0, .inr 0, .inl (some 40), .inl (some 41), .inl (some 42), .inl (some 43), .inr 0, .inl (some 44), .inr 2, .inr 0, .inl (some 45), .inl (some 46), .inl (some 47), .inl (some 48), .inl (some 49), .inl (some 50), .inl (some 51), .inl (some 52), .inl (some 53), .inl (some 54), .inl (some 55), .inl (some 56), .inr 1, .inr 1, .inl none, .inl none, .inl none, .inl none, .inl none]))))) (fs' := [.inr 0, .inr 0, .inl (some 40), .inl (some 41), .inl (some 42), .inl (some 43), .inr 0, .inl (some 44), .inr 2, .inr 0, .inl (some 45), .inl (some 46), .inl (some 47), .inl (some 48), .inl (some 49), .inl (some 50), .inl (some 51), .inl (some 52), .inl (some 53), .inl (some 54), .inl (some 55), .inl (some 56), .inr 1, .inr 1, .inl none, .inl none, .inl none, .inl none, .inl none]) dX8_init_140 fd8_64 fw8_21 rfl (q_tyA _) rfl (by decide) (by decide) rfl rfl (fun q hq => by simp [quL, hq]) ?_
  refine g_aload_n (i := 0) dX8_init_143 rfl rfl ?_
  refine g_bipush dX8_init_144 (by decide) ?_
  refine g_newJ (N := 30) (n' := 58) (k' := 18) (z' := 1412) dX8_init_146 h57 rfl rfl (fun j => hc 57 (by decide) j) rfl rfl rfl rfl rfl ?_
  refine g_putP (L' := (quL Lb 39 (.inr (.inr (8, [.inr 0, .inr 0, .inl (some 40), .inl (some 41), .inl (some 42), .inl (some 43), .inr 0, .inl (some 44), .inr 2, .inr 0, .inl (some 45), .inl (some 46), .inl (some 47), .inl (some 48), .inl (some 49), .inl (some 50), .inl (some 51), .inl (some 52), .inl (some 53), .inl (some 54), .inl (some 55), .inl (some 56), .inr 1, .inr 1, .inl (some 57), .inl none, .inl none, .inl none, .inl none]))))) (fs' := [.inr 0, .inr 0, .inl (some 40), .inl (some 41), .inl (some 42), .inl (some 43), .inr 0, .inl (some 44), .inr 2, .inr 0, .inl (some 45), .inl (some 46), .inl (some 47), .inl (some 48), .inl (some 49), .inl (some 50), .inl (some 51), .inl (some 52), .inl (some 53), .inl (some 54), .inl (some 55), .inl (some 56), .inr 1, .inr 1, .inl (some 57), .inl none, .inl none, .inl none, .inl none]) dX8_init_148 fd8_67 fw8_24 rfl (q_tyA _) rfl (by decide) (by decide) rfl rfl (fun q hq => by simp [quL, hq]) ?_
  refine g_aload_n (i := 0) dX8_init_151 rfl rfl ?_
  refine g_bipush dX8_init_152 (by decide) ?_
  refine g_newJ (N := 120) (n' := 59) (k' := 19) (z' := 1532) dX8_init_154 h58 rfl rfl (fun j => hc 58 (by decide) j) rfl rfl rfl rfl rfl ?_
  refine g_putP (L' := (quL Lb 39 (.inr (.inr (8, [.inr 0, .inr 0, .inl (some 40), .inl (some 41), .inl (some 42), .inl (some 43), .inr 0, .inl (some 44), .inr 2, .inr 0, .inl (some 45), .inl (some 46), .inl (some 47), .inl (some 48), .inl (some 49), .inl (some 50), .inl (some 51), .inl (some 52), .inl (some 53), .inl (some 54), .inl (some 55), .inl (some 56), .inr 1, .inr 1, .inl (some 57), .inl (some 58), .inl none, .inl none, .inl none]))))) (fs' := [.inr 0, .inr 0, .inl (some 40), .inl (some 41), .inl (some 42), .inl (some 43), .inr 0, .inl (some 44), .inr 2, .inr 0, .inl (some 45), .inl (some 46), .inl (some 47), .inl (some 48), .inl (some 49), .inl (some 50), .inl (some 51), .inl (some 52), .inl (some 53), .inl (some 54), .inl (some 55), .inl (some 56), .inr 1, .inr 1, .inl (some 57), .inl (some 58), .inl none, .inl none, .inl none]) dX8_init_156 fd8_70 fw8_25 rfl (q_tyA _) rfl (by decide) (by decide) rfl rfl (fun q hq => by simp [quL, hq]) ?_
  refine g_aload_n (i := 0) dX8_init_159 rfl rfl ?_
  refine g_sipush dX8_init_160 (by decide) ?_
  refine g_newJ (N := 900) (n' := 60) (k' := 20) (z' := 2432) dX8_init_163 h59 rfl rfl (fun j => hc 59 (by decide) j) rfl rfl rfl rfl rfl ?_
  refine g_putP (L' := (quL Lb 39 (.inr (.inr (8, [.inr 0, .inr 0, .inl (some 40), .inl (some 41), .inl (some 42), .inl (some 43), .inr 0, .inl (some 44), .inr 2, .inr 0, .inl (some 45), .inl (some 46), .inl (some 47), .inl (some 48), .inl (some 49), .inl (some 50), .inl (some 51), .inl (some 52), .inl (some 53), .inl (some 54), .inl (some 55), .inl (some 56), .inr 1, .inr 1, .inl (some 57), .inl (some 58), .inl (some 59), .inl none, .inl none]))))) (fs' := [.inr 0, .inr 0, .inl (some 40), .inl (some 41), .inl (some 42), .inl (some 43), .inr 0, .inl (some 44), .inr 2, .inr 0, .inl (some 45), .inl (some 46), .inl (some 47), .inl (some 48), .inl (some 49), .inl (some 50), .inl (some 51), .inl (some 52), .inl (some 53), .inl (some 54), .inl (some 55), .inl (some 56), .inr 1, .inr 1, .inl (some 57), .inl (some 58), .inl (some 59), .inl none, .inl none]) dX8_init_165 fd8_73 fw8_26 rfl (q_tyA _) rfl (by decide) (by decide) rfl rfl (fun q hq => by simp [quL, hq]) ?_
  refine g_aload_n (i := 0) dX8_init_168 rfl rfl ?_
  refine g_sipush dX8_init_169 (by decide) ?_
  refine g_newJ (N := 900) (n' := 61) (k' := 21) (z' := 3332) dX8_init_172 h60 rfl rfl (fun j => hc 60 (by decide) j) rfl rfl rfl rfl rfl ?_
  refine g_putP (L' := (quL Lb 39 (.inr (.inr (8, [.inr 0, .inr 0, .inl (some 40), .inl (some 41), .inl (some 42), .inl (some 43), .inr 0, .inl (some 44), .inr 2, .inr 0, .inl (some 45), .inl (some 46), .inl (some 47), .inl (some 48), .inl (some 49), .inl (some 50), .inl (some 51), .inl (some 52), .inl (some 53), .inl (some 54), .inl (some 55), .inl (some 56), .inr 1, .inr 1, .inl (some 57), .inl (some 58), .inl (some 59), .inl (some 60), .inl none]))))) (fs' := [.inr 0, .inr 0, .inl (some 40), .inl (some 41), .inl (some 42), .inl (some 43), .inr 0, .inl (some 44), .inr 2, .inr 0, .inl (some 45), .inl (some 46), .inl (some 47), .inl (some 48), .inl (some 49), .inl (some 50), .inl (some 51), .inl (some 52), .inl (some 53), .inl (some 54), .inl (some 55), .inl (some 56), .inr 1, .inr 1, .inl (some 57), .inl (some 58), .inl (some 59), .inl (some 60), .inl none]) dX8_init_174 fd8_76 fw8_27 rfl (q_tyA _) rfl (by decide) (by decide) rfl rfl (fun q hq => by simp [quL, hq]) ?_
  refine g_aload_n (i := 0) dX8_init_177 rfl rfl ?_
  refine g_sipush dX8_init_178 (by decide) ?_
  refine g_newJ (N := 900) (n' := 62) (k' := 22) (z' := 4232) dX8_init_181 h61 rfl rfl (fun j => hc 61 (by decide) j) rfl rfl rfl rfl rfl ?_
  refine g_putP (L' := (quL Lb 39 (.inr (.inr (8, [.inr 0, .inr 0, .inl (some 40), .inl (some 41), .inl (some 42), .inl (some 43), .inr 0, .inl (some 44), .inr 2, .inr 0, .inl (some 45), .inl (some 46), .inl (some 47), .inl (some 48), .inl (some 49), .inl (some 50), .inl (some 51), .inl (some 52), .inl (some 53), .inl (some 54), .inl (some 55), .inl (some 56), .inr 1, .inr 1, .inl (some 57), .inl (some 58), .inl (some 59), .inl (some 60), .inl (some 61)]))))) (fs' := [.inr 0, .inr 0, .inl (some 40), .inl (some 41), .inl (some 42), .inl (some 43), .inr 0, .inl (some 44), .inr 2, .inr 0, .inl (some 45), .inl (some 46), .inl (some 47), .inl (some 48), .inl (some 49), .inl (some 50), .inl (some 51), .inl (some 52), .inl (some 53), .inl (some 54), .inl (some 55), .inl (some 56), .inr 1, .inr 1, .inl (some 57), .inl (some 58), .inl (some 59), .inl (some 60), .inl (some 61)]) dX8_init_183 fd8_79 fw8_28 rfl (q_tyA _) rfl (by decide) (by decide) rfl rfl (fun q hq => by simp [quL, hq]) ?_
  exact g_retV dX8_init_186 rfl rfl rfl ⟨rfl, (quL_id h39), rfl, rfl⟩
