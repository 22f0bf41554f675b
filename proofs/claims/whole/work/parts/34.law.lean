theorem Iv0 : Iv (qu (qu (qu (qu (qu (qu (qu (qu (qu (qu (qu (qu (qu (qu (qu (qu (fun _ _ => 0) 1 2 (2)) 1 3 (0)) 5 2 (0)) 5 3 (-1)) 8 2 (0)) 8 3 (-1)) 11 6 (0)) 18 4 (0)) 18 5 (0)) 37 0 (0)) 37 1 (1)) 27 10 (0)) 27 11 (-1)) 38 0 (0)) 38 1 (1)) 39 1 (2)) := by
  refine ⟨0, 2, fun _ _ => 0, fun _ => none, 0, fun _ => 0, none, ⟨⟨rfl, rfl, by omega, by omega, fun i x h0 h1 => by omega, fun i h0 h1 => by omega, fun kd i j _ _ h0 h1 => by omega⟩, fun s s0 s1 => ?_, ⟨rfl, by omega, fun i h0 h1 => by omega⟩, rfl⟩, ⟨⟨rfl, rfl, by omega, by omega, fun i x h0 h1 => by omega, fun i h0 h1 => by omega⟩, fun s s0 s1 => rfl, ⟨rfl, by omega, fun i h0 h1 => by omega⟩, rfl⟩, trivial⟩
  rcases (show s = 0 ∨ s = 1 by omega) with rfl | rfl <;> rfl
set_option maxHeartbeats 4000000 in
set_option maxRecDepth 100000 in
theorem law_loop {nm : String} {b L : Nat} {xs : Nat → Int32} (hL : L ≤ 2560) : ∀ (fu : Nat) (i : Int) (c : qC), ((L : Int) - i).toNat < fu → 0 ≤ i → i ≤ (L : Int) + 5 → Iv c → qG (YL nm b L xs) wL 18 (lo4 b i) [] c := by
  intro fu
  induction fu with
  | zero => intro i c h; exact absurd h (Nat.not_lt_zero _)
  | succ fu ih =>
    intro i c hf i0 i1 hI
    refine g_iload_n (i := 3) dL_law_18 rfl rfl ?_
    refine g_aloadO_n (i := 0) dL_law_19 rfl rfl ?_
    refine g_slen dL_law_20 ?_
    refine g_iconst dL_law_21 ?_
    refine g_isub dL_law_22 ?_
    refine g_icmp_gt 810 dL_law_23 (by decide) (fun b23 => ?_) (fun b23 => ?_)
    · refine g_iconst dL_law_810 ?_
      exact g_lawret dL_law_811 (by decide) (by decide)
    · have hJ : ∀ c', Iv c' → qG (YL nm b L xs) wL 804 (lo4 b i) [] c' := by
        intro c' hI'
        refine g_iinc3 dL_law_804 rfl ?_
        refine g_goto 18 dL_law_807 (by decide) ?_
        exact ih (i + 5) c' (by omega) (by omega) (by omega) hI'
      refine g_aloadO_n (i := 0) dL_law_26 rfl rfl ?_
      refine g_iload_n (i := 3) dL_law_27 rfl rfl ?_
      refine g_sld dL_law_28 ?_ hL (by omega) (by omega)
      refine g_bipush dL_law_29 (by decide) ?_
      refine g_iandX dL_law_31 (fun v hv => ?_)
      rcases (show (v < 0 ∨ 18 < v) ∨ v = 0 ∨ v = 1 ∨ v = 2 ∨ v = 3 ∨ v = 4 ∨ v = 5 ∨ v = 6 ∨ v = 7 ∨ v = 8 ∨ v = 9 ∨ v = 10 ∨ v = 11 ∨ v = 12 ∨ v = 13 ∨ v = 14 ∨ v = 15 ∨ v = 16 ∨ v = 17 ∨ v = 18 by omega) with hsw | rfl | rfl | rfl | rfl | rfl | rfl | rfl | rfl | rfl | rfl | rfl | rfl | rfl | rfl | rfl | rfl | rfl | rfl | rfl
      · exact g_tableOut 804 dL_law_32 hsw (by decide) (hJ c hI)
      · exact g_tableIn (off := 92) 124 dL_law_32 (by decide) (by decide) rfl (by decide) (o_columns hL i i0 (by omega) c hI hJ)
      · exact g_tableIn (off := 115) 147 dL_law_32 (by decide) (by decide) rfl (by decide) (o_row hL i i0 (by omega) c hI hJ)
      · exact g_tableIn (off := 168) 200 dL_law_32 (by decide) (by decide) rfl (by decide) (o_clear hL i i0 (by omega) c hI hJ)
      · exact g_tableIn (off := 181) 213 dL_law_32 (by decide) (by decide) rfl (by decide) (o_count hL i i0 (by omega) c hI hJ)
      · exact g_tableIn (off := 204) 236 dL_law_32 (by decide) (by decide) rfl (by decide) (o_distance hL i i0 (by omega) c hI hJ)
      · exact g_tableIn (off := 247) 279 dL_law_32 (by decide) (by decide) rfl (by decide) (o_near hL i i0 (by omega) c hI hJ)
      · exact g_tableIn (off := 290) 322 dL_law_32 (by decide) (by decide) rfl (by decide) (o_means hL i i0 (by omega) c hI hJ)
      · exact g_tableIn (off := 323) 355 dL_law_32 (by decide) (by decide) rfl (by decide) (o_medoids hL i i0 (by omega) c hI hJ)
      · exact g_tableIn (off := 366) 398 dL_law_32 (by decide) (by decide) rfl (by decide) (o_medoid hL i i0 (by omega) c hI hJ)
      · exact g_tableIn (off := 389) 421 dL_law_32 (by decide) (by decide) rfl (by decide) (o_density hL i i0 (by omega) c hI hJ)
      · exact g_tableIn (off := 442) 474 dL_law_32 (by decide) (by decide) rfl (by decide) (o_tree hL i i0 (by omega) c hI hJ)
      · exact g_tableIn (off := 475) 507 dL_law_32 (by decide) (by decide) rfl (by decide) (o_join hL i i0 (by omega) c hI hJ)
      · exact g_tableIn (off := 509) 541 dL_law_32 (by decide) (by decide) rfl (by decide) (o_cut hL i i0 (by omega) c hI hJ)
      · exact g_tableIn (off := 542) 574 dL_law_32 (by decide) (by decide) rfl (by decide) (o_of hL i i0 (by omega) c hI hJ)
      · exact g_tableIn (off := 575) 607 dL_law_32 (by decide) (by decide) rfl (by decide) (o_size hL i i0 (by omega) c hI hJ)
      · exact g_tableIn (off := 608) 640 dL_law_32 (by decide) (by decide) rfl (by decide) (o_mean hL i i0 (by omega) c hI hJ)
      · exact g_tableIn (off := 661) 693 dL_law_32 (by decide) (by decide) rfl (by decide) (o_sum hL i i0 (by omega) c hI hJ)
      · exact g_tableIn (off := 695) 727 dL_law_32 (by decide) (by decide) rfl (by decide) (o_well hL i i0 (by omega) c hI hJ)
      · exact g_tableIn (off := 749) 781 dL_law_32 (by decide) (by decide) rfl (by decide) (o_agree hL i i0 (by omega) c hI hJ)
set_option maxHeartbeats 4000000 in
set_option maxRecDepth 100000 in
theorem law_all {nm : String} {b L : Nat} {xs : Nat → Int32} (hL : L ≤ 2560) : qG (YL nm b L xs) (LAY, 0, 0, 0) 0 [some (qO b), none, none, none] [] (fun _ _ => 0) := by
  have hz : ∀ q, 0 ≤ q → ∀ j, (fun _ _ => (0 : Int) : qC) q j = 0 := fun _ _ _ => rfl
  refine g_new (N := 7) (n' := 1) (k' := 1) (z' := 7) dL_law_0 nwL_7 rfl (fun j => rfl) rfl rfl rfl rfl rfl ?_
  refine g_dup dL_law_3 rfl ?_
  refine g_callD (r := (3, 38, 4558)) (k' := 39) (z' := 4565) (b_X7 (fun _ _ => 0) LAY rfl rfl rfl rfl rfl rfl rfl rfl rfl rfl rfl rfl rfl rfl rfl rfl rfl rfl rfl rfl rfl rfl rfl rfl rfl rfl rfl rfl rfl rfl rfl rfl rfl rfl rfl rfl rfl rfl rfl (z_mono hz (by decide))) dL_law_4 ldL_9 ii_X7_init rfl rfl rfl rfl rfl rfl rfl rfl rfl rfl (fun v La na c' hq => ?_)
  obtain ⟨rfl, rfl, rfl, rfl⟩ := hq
  refine g_astore_n1 dL_law_7 rfl ?_
  refine g_new (N := 29) (n' := 40) (k' := 40) (z' := 4594) dL_law_8 nwL_10 rfl (fun j => rfl) rfl rfl rfl rfl rfl ?_
  refine g_dup dL_law_11 rfl ?_
  refine g_callD (r := (1, 22, 4232)) (k' := 62) (z' := 8826) (b_X8 (qu (qu (qu (qu (qu (qu (qu (qu (qu (qu (qu (qu (qu (qu (qu (fun _ _ => 0) 1 2 (2)) 1 3 (0)) 5 2 (0)) 5 3 (-1)) 8 2 (0)) 8 3 (-1)) 11 6 (0)) 18 4 (0)) 18 5 (0)) 37 0 (0)) 37 1 (1)) 27 10 (0)) 27 11 (-1)) 38 0 (0)) 38 1 (1)) LAY rfl rfl rfl rfl rfl rfl rfl rfl rfl rfl rfl rfl rfl rfl rfl rfl rfl rfl rfl rfl rfl rfl rfl (qu_z (qu_z (qu_z (qu_z (qu_z (qu_z (qu_z (qu_z (qu_z (qu_z (qu_z (qu_z (qu_z (qu_z (qu_z (z_mono hz (by decide)) (by decide)) (by decide)) (by decide)) (by decide)) (by decide)) (by decide)) (by decide)) (by decide)) (by decide)) (by decide)) (by decide)) (by decide)) (by decide)) (by decide)) (by decide))) dL_law_12 ldL_12 ii_X8_init rfl rfl rfl rfl rfl rfl rfl rfl rfl rfl (fun v La na c' hq => ?_)
  obtain ⟨rfl, rfl, rfl, rfl⟩ := hq
  refine g_astore_n2 dL_law_15 rfl ?_
  refine g_iconst dL_law_16 ?_
  refine g_istore_n3 dL_law_17 rfl ?_
  exact law_loop hL _ 0 _ (Nat.lt_succ_self _) (by omega) (by omega) Iv0
