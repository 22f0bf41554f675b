theorem q_lkN2 {a o b p d x : Int} (h1 : ¬ a = x) (h2 : ¬ b = x) : Op.lookupswitch.offset [(a, o), (b, p)] d x = d := by
  rw [Op.lookupswitch.offset_cons, if_neg h1, Op.lookupswitch.offset_cons, if_neg h2]; rfl
/-- the CLUSTERS as Joins holds them -/
def SC (c : qC) (w n wd : Int) (N D : Int → Int → Int) (L : Int → Int) : Prop := (∀ a, 0 ≤ a → a < n → c 34 a = cn L n a) ∧ (∀ a x, 0 ≤ a → a < n → L a = a → 0 ≤ x → x < wd → c 35 (a * 4 + x) = sg L n a (fun r => N r x)) ∧ (∀ a b, 0 ≤ a → a < n → 0 ≤ b → b < n → L a = a → L b = b → ¬ a = b → IsG w n D L a b (c 36 (a * 30 + b)))
theorem SC.fr {c c' : qC} {w n wd : Int} {N D : Int → Int → Int} {L : Int → Int} (h : SC c w n wd N D L) (h1 : c' 34 = c 34) (h2 : c' 35 = c 35) (h3 : c' 36 = c 36) : SC c' w n wd N D L := by
  unfold SC at h ⊢
  rw [h1, h2, h3]
  exact h
set_option maxHeartbeats 4000000 in
set_option maxRecDepth 100000 in
theorem k_X4_gapAbove (c : qC) (n wd kd w : Int) (N : Int → Int → Int) (hT : Tb c n wd N) (d0 : 0 ≤ kd) (d1 : kd < 3) (w0 : 0 ≤ w ∧ w ≤ 3) (L : Int → Int) (hL : LK L) (hw : c 27 10 = w) (hC : SC c w n wd N (ds wd N kd) L) (a b : Int) (a0 : 0 ≤ a) (a1 : a < n) (b0 : 0 ≤ b) (b1 : b < n) (la : L a = a) (lb : L b = b) (hab : ¬ a = b) : qN X4_gapAbove 0 [qP 27, qP 1, qI a, qI b] c (pJ (fun z c' => z = (VA w n wd N (ds wd N kd) L a b) ∧ c' = c)) := by
  have hT0 := hT
  obtain ⟨t1, t2, t3, t4, t5, t6, t7⟩ := hT
  have hD : Db (ds wd N kd) n := fun i j i0 i1 j0 j1 => hT0.bd (kd := kd) i0 i1 j0 j1
  have hca := hC.1 a a0 a1
  have hcb := hC.1 b b0 b1
  have hba := cn_bd (g := L) (n := n) (k := a) t3.1
  have hbb := cn_bd (g := L) (n := n) (k := b) t3.1
  refine qN.of [some (qP 27), some (qP 1), some (qI a), some (qI b), none, none, none, none, none] (by decide) rfl (fun _ => rfl) (fun _ => Nat.le_of_ble_eq_true rfl) ?_
  refine g_aload_n (i := 0) dX4_gapAbove_0 rfl rfl ?_
  refine g_getI (ji := 10) dX4_gapAbove_1 fl4_47 (by first | rfl | assumption) (by first | decide | (show _ < 62; omega)) (by first | rfl | assumption) (by decide) rfl (by first | assumption | rfl) ?_
  refine g_iconst dX4_gapAbove_4 ?_
  refine g_icmp_eq 20 dX4_gapAbove_5 (by decide) (fun b5 => ?_) (fun b5 => ?_)
  · skip
    refine g_lconst (z := 0) dX4_gapAbove_20 (by decide) ?_
    refine g_lstore4 dX4_gapAbove_21 rfl ?_
    refine g_iconst dX4_gapAbove_23 ?_
    refine g_istore6 dX4_gapAbove_24 rfl ?_
    have L26 : ∀ (fu26 : Nat) (u x : Int), (wd - x).toNat < fu26 → (0 ≤ x) → (x ≤ wd) → (u = sI (fun x => (sg L n a (fun r => N r x) * cn L n b - sg L n b (fun r => N r x) * cn L n a) * (sg L n a (fun r => N r x) * cn L n b - sg L n b (fun r => N r x) * cn L n a)) x) → qG (qYn X4_gapAbove 0 (pJ (fun z c' => z = (VA w n wd N (ds wd N kd) L a b) ∧ c' = c))) wN 26 [some (qP 27), some (qP 1), some (qI a), some (qI b), some (qJ u), none, some (qI x), none, none] [] c := by
      intro fu26
      induction fu26 with
      | zero => intro u x hm; exact absurd hm (Nat.not_lt_zero _)
      | succ fu26 ih26 =>
        intro u x hm26 x0 x1 ha
        refine g_iload dX4_gapAbove_26 rfl ?_
        refine g_aload_n (i := 1) dX4_gapAbove_28 rfl rfl ?_
        refine g_getI (ji := 2) dX4_gapAbove_29 fl4_75 (by first | rfl | assumption) (by first | decide | (show _ < 62; omega)) (by first | rfl | assumption) (by decide) rfl (by first | assumption | rfl) ?_
        refine g_icmp_ge 92 dX4_gapAbove_32 (by decide) (fun b32 => ?_) (fun b32 => ?_)
        · skip
          refine g_lload dX4_gapAbove_92 rfl ?_
          exact n_retj dX4_gapAbove_94 rfl (⟨by unfold VA; rw [if_pos (by omega), ha, show x = wd by omega], rfl⟩)
        · skip
          have hta := hC.2.1 a x a0 a1 la x0 (by omega)
          have htb := hC.2.1 b x b0 b1 lb x0 (by omega)
          refine g_aload_n (i := 0) dX4_gapAbove_35 rfl rfl ?_
          refine g_getP dX4_gapAbove_36 fl4_34 (by first | rfl | assumption) (by first | decide | (show _ < 62; omega)) (by first | rfl | assumption) ?_
          refine g_iload_n (i := 2) dX4_gapAbove_39 rfl rfl ?_
          refine g_iconst dX4_gapAbove_40 ?_
          refine g_imul dX4_gapAbove_41 ?_
          refine g_iload dX4_gapAbove_42 rfl ?_
          refine g_iadd dX4_gapAbove_44 ?_
          refine g_laload dX4_gapAbove_45 rfl (by decide) ?_
          rw [hta]
          skip -- ?_
          refine g_aload_n (i := 0) dX4_gapAbove_46 rfl rfl ?_
          refine g_getP dX4_gapAbove_47 fl4_31 (by first | rfl | assumption) (by first | decide | (show _ < 62; omega)) (by first | rfl | assumption) ?_
          refine g_iload_n (i := 3) dX4_gapAbove_50 rfl rfl ?_
          refine g_iaload dX4_gapAbove_51 rfl (by decide) ?_
          rw [hcb]
          skip -- ?_
          refine g_i2lx dX4_gapAbove_52 ?_
          refine g_lmul dX4_gapAbove_53 ?_
          refine g_aload_n (i := 0) dX4_gapAbove_54 rfl rfl ?_
          refine g_getP dX4_gapAbove_55 fl4_34 (by first | rfl | assumption) (by first | decide | (show _ < 62; omega)) (by first | rfl | assumption) ?_
          refine g_iload_n (i := 3) dX4_gapAbove_58 rfl rfl ?_
          refine g_iconst dX4_gapAbove_59 ?_
          refine g_imul dX4_gapAbove_60 ?_
          refine g_iload dX4_gapAbove_61 rfl ?_
          refine g_iadd dX4_gapAbove_63 ?_
          refine g_laload dX4_gapAbove_64 rfl (by decide) ?_
          rw [htb]
          skip -- ?_
          refine g_aload_n (i := 0) dX4_gapAbove_65 rfl rfl ?_
          refine g_getP dX4_gapAbove_66 fl4_31 (by first | rfl | assumption) (by first | decide | (show _ < 62; omega)) (by first | rfl | assumption) ?_
          refine g_iload_n (i := 2) dX4_gapAbove_69 rfl rfl ?_
          refine g_iaload dX4_gapAbove_70 rfl (by decide) ?_
          rw [hca]
          skip -- ?_
          refine g_i2lx dX4_gapAbove_71 ?_
          refine g_lmul dX4_gapAbove_72 ?_
          refine g_lsub dX4_gapAbove_73 ?_
          refine g_lstore7 dX4_gapAbove_74 rfl ?_
          refine g_lload dX4_gapAbove_76 rfl ?_
          refine g_lload dX4_gapAbove_78 rfl ?_
          refine g_lload dX4_gapAbove_80 rfl ?_
          refine g_lmul dX4_gapAbove_82 ?_
          refine g_ladd dX4_gapAbove_83 ?_
          refine g_lstore4 dX4_gapAbove_84 rfl ?_
          refine g_iinc6 dX4_gapAbove_86 rfl ?_
          refine g_goto 26 dX4_gapAbove_89 (by decide) ?_
          refine g_fg7 ?_
          exact ih26 _ _ (by omega) (by first | assumption | omega) (by first | assumption | omega) (by rw [sI_s x0, ha])
    exact L26 _ _ _ (Nat.lt_succ_self _) (by first | assumption | omega) (by first | assumption | omega) rfl
  · skip
    refine g_aload_n (i := 0) dX4_gapAbove_8 rfl rfl ?_
    refine g_getP dX4_gapAbove_9 fl4_37 (by first | rfl | assumption) (by first | decide | (show _ < 62; omega)) (by first | rfl | assumption) ?_
    refine g_iload_n (i := 2) dX4_gapAbove_12 rfl rfl ?_
    refine g_bipush dX4_gapAbove_13 (by decide) ?_
    refine g_imul dX4_gapAbove_15 ?_
    refine g_iload_n (i := 3) dX4_gapAbove_16 rfl rfl ?_
    refine g_iadd dX4_gapAbove_17 ?_
    refine g_laload dX4_gapAbove_18 (by first | rfl | assumption) (by first | decide | (show _ < 62; omega)) ?_
    exact n_retj dX4_gapAbove_19 rfl (⟨by unfold VA; rw [if_neg (by omega), GV_eq (hC.2.2 a b a0 a1 b0 b1 la lb hab)], rfl⟩)
set_option maxHeartbeats 4000000 in
set_option maxRecDepth 100000 in
theorem k_X4_gapBelow (c : qC) (n wd kd w : Int) (N : Int → Int → Int) (hT : Tb c n wd N) (d0 : 0 ≤ kd) (d1 : kd < 3) (w0 : 0 ≤ w ∧ w ≤ 3) (L : Int → Int) (hL : LK L) (hw : c 27 10 = w) (hC : SC c w n wd N (ds wd N kd) L) (a b : Int) (a0 : 0 ≤ a) (a1 : a < n) (b0 : 0 ≤ b) (b1 : b < n) (la : L a = a) (lb : L b = b) (hab : ¬ a = b) : qN X4_gapBelow 0 [qP 27, qI a, qI b] c (pJ (fun z c' => z = VB w n L a b ∧ c' = c)) := by
  have hT0 := hT
  obtain ⟨t1, t2, t3, t4, t5, t6, t7⟩ := hT
  have hD : Db (ds wd N kd) n := fun i j i0 i1 j0 j1 => hT0.bd (kd := kd) i0 i1 j0 j1
  have hca := hC.1 a a0 a1
  have hcb := hC.1 b b0 b1
  have hba := cn_bd (g := L) (n := n) (k := a) t3.1
  have hbb := cn_bd (g := L) (n := n) (k := b) t3.1
  have hp1 := mul_le2 (a := cn L n a) (A := 30) (b := cn L n b) (B := 30) (by omega) (by omega) (by omega) (by omega)
  have hp2 := mul_le2 (a := cn L n a * cn L n b) (A := 900) (b := cn L n a + cn L n b) (B := 60) (by omega) (by omega) (by omega) (by omega)
  refine qN.of [some (qP 27), some (qI a), some (qI b)] (by decide) rfl (fun _ => rfl) (fun _ => Nat.le_of_ble_eq_true rfl) ?_
  refine g_aload_n (i := 0) dX4_gapBelow_0 rfl rfl ?_
  refine g_getI (ji := 10) dX4_gapBelow_1 fl4_47 (by first | rfl | assumption) (by first | decide | (show _ < 62; omega)) (by first | rfl | assumption) (by decide) rfl (by first | assumption | rfl) ?_
  rcases (show (¬ w = 2 ∧ ¬ w = 3) ∨ w = 2 ∨ w = 3 by omega) with hsw | hsw | hsw
  · refine g_lookup (off := 72) 76 dX4_gapBelow_4 (by decide) (q_lkN2 (by omega) (by omega)) (by decide) ?_
    refine g_lconst (z := 1) dX4_gapBelow_76 (by decide) ?_
    exact n_retj dX4_gapBelow_77 rfl (⟨by unfold VB; rw [if_neg hsw.1, if_neg hsw.2], rfl⟩)
  · refine g_lookup (off := 28) 32 dX4_gapBelow_4 (by decide) (by rw [hsw]; decide) (by decide) ?_
    refine g_aload_n (i := 0) dX4_gapBelow_32 rfl rfl ?_
    refine g_getP dX4_gapBelow_33 fl4_31 (by first | rfl | assumption) (by first | decide | (show _ < 62; omega)) (by first | rfl | assumption) ?_
    refine g_iload_n (i := 1) dX4_gapBelow_36 rfl rfl ?_
    refine g_iaload dX4_gapBelow_37 rfl (by decide) ?_
    rw [hca]
    skip -- ?_
    refine g_aload_n (i := 0) dX4_gapBelow_38 rfl rfl ?_
    refine g_getP dX4_gapBelow_39 fl4_31 (by first | rfl | assumption) (by first | decide | (show _ < 62; omega)) (by first | rfl | assumption) ?_
    refine g_iload_n (i := 2) dX4_gapBelow_42 rfl rfl ?_
    refine g_iaload dX4_gapBelow_43 rfl (by decide) ?_
    rw [hcb]
    skip -- ?_
    refine g_imul dX4_gapBelow_44 ?_
    refine g_i2lx dX4_gapBelow_45 ?_
    exact n_retj dX4_gapBelow_46 rfl (⟨by unfold VB; rw [if_pos hsw], rfl⟩)
  · refine g_lookup (off := 43) 47 dX4_gapBelow_4 (by decide) (by rw [hsw]; decide) (by decide) ?_
    refine g_aload_n (i := 0) dX4_gapBelow_47 rfl rfl ?_
    refine g_getP dX4_gapBelow_48 fl4_31 (by first | rfl | assumption) (by first | decide | (show _ < 62; omega)) (by first | rfl | assumption) ?_
    refine g_iload_n (i := 1) dX4_gapBelow_51 rfl rfl ?_
    refine g_iaload dX4_gapBelow_52 rfl (by decide) ?_
    rw [hca]
    skip -- ?_
    refine g_aload_n (i := 0) dX4_gapBelow_53 rfl rfl ?_
    refine g_getP dX4_gapBelow_54 fl4_31 (by first | rfl | assumption) (by first | decide | (show _ < 62; omega)) (by first | rfl | assumption) ?_
    refine g_iload_n (i := 2) dX4_gapBelow_57 rfl rfl ?_
    refine g_iaload dX4_gapBelow_58 rfl (by decide) ?_
    rw [hcb]
    skip -- ?_
    refine g_imul dX4_gapBelow_59 ?_
    refine g_aload_n (i := 0) dX4_gapBelow_60 rfl rfl ?_
    refine g_getP dX4_gapBelow_61 fl4_31 (by first | rfl | assumption) (by first | decide | (show _ < 62; omega)) (by first | rfl | assumption) ?_
    refine g_iload_n (i := 1) dX4_gapBelow_64 rfl rfl ?_
    refine g_iaload dX4_gapBelow_65 rfl (by decide) ?_
    rw [hca]
    skip -- ?_
    refine g_aload_n (i := 0) dX4_gapBelow_66 rfl rfl ?_
    refine g_getP dX4_gapBelow_67 fl4_31 (by first | rfl | assumption) (by first | decide | (show _ < 62; omega)) (by first | rfl | assumption) ?_
    refine g_iload_n (i := 2) dX4_gapBelow_70 rfl rfl ?_
    refine g_iaload dX4_gapBelow_71 rfl (by decide) ?_
    rw [hcb]
    skip -- ?_
    refine g_iadd dX4_gapBelow_72 ?_
    refine g_imul dX4_gapBelow_73 ?_
    refine g_i2lx dX4_gapBelow_74 ?_
    exact n_retj dX4_gapBelow_75 rfl (⟨by unfold VB; rw [if_neg (by omega), if_pos hsw], rfl⟩)
set_option maxHeartbeats 4000000 in
set_option maxRecDepth 100000 in
theorem k_X4_gapToBoth (c : qC) (w x y : Int) (w0 : 0 ≤ w ∧ w ≤ 3) (hw : c 27 10 = w) (x0 : lR x) (y0 : lR y) : qN X4_gapToBoth 1 [qP 27, qJ x, qJ y] c (pJ (fun z c' => z = cmb w x y ∧ c' = c)) := by
  refine qN.of [some (qP 27), some (qJ x), none, some (qJ y), none] (by decide) rfl (fun _ => rfl) (fun _ => Nat.le_of_ble_eq_true rfl) ?_
  refine g_aload_n (i := 0) dX4_gapToBoth_0 rfl rfl ?_
  refine g_getI (ji := 10) dX4_gapToBoth_1 fl4_47 (by first | rfl | assumption) (by first | decide | (show _ < 62; omega)) (by first | rfl | assumption) (by decide) rfl (by first | assumption | rfl) ?_
  rcases (show (¬ w = 0 ∧ ¬ w = 1) ∨ w = 0 ∨ w = 1 by omega) with hsw | hsw | hsw
  · refine g_lookup (off := 40) 44 dX4_gapToBoth_4 (by decide) (q_lkN2 (by omega) (by omega)) (by decide) ?_
    refine g_lload_n (i := 1) dX4_gapToBoth_44 rfl rfl ?_
    refine g_lload_n (i := 3) dX4_gapToBoth_45 rfl rfl ?_
    refine g_ladd dX4_gapToBoth_46 ?_
    exact n_retj dX4_gapToBoth_47 rfl (⟨by unfold cmb; rw [if_neg hsw.1, if_neg hsw.2], rfl⟩)
  · refine g_lookup (off := 28) 32 dX4_gapToBoth_4 (by decide) (by rw [hsw]; decide) (by decide) ?_
    refine g_lload_n (i := 1) dX4_gapToBoth_32 rfl rfl ?_
    refine g_lload_n (i := 3) dX4_gapToBoth_33 rfl rfl ?_
    refine g_mminJ dX4_gapToBoth_34 mw4_113 ?_ (Nat.le_refl 0) (Nat.le_refl 0) rfl (Nat.le_of_ble_eq_true rfl)
    exact n_retj dX4_gapToBoth_37 rfl (⟨by unfold cmb; rw [if_pos hsw], rfl⟩)
  · refine g_lookup (off := 34) 38 dX4_gapToBoth_4 (by decide) (by rw [hsw]; decide) (by decide) ?_
    refine g_lload_n (i := 1) dX4_gapToBoth_38 rfl rfl ?_
    refine g_lload_n (i := 3) dX4_gapToBoth_39 rfl rfl ?_
    refine g_mmaxJ dX4_gapToBoth_40 mw4_118 ?_ (Nat.le_refl 0) (Nat.le_refl 0) rfl (Nat.le_of_ble_eq_true rfl)
    exact n_retj dX4_gapToBoth_43 rfl (⟨by unfold cmb; rw [if_neg (by omega), if_pos hsw], rfl⟩)
set_option maxHeartbeats 4000000 in
set_option maxRecDepth 100000 in
theorem k_X4_placeRows (c : qC) (n wd kd w : Int) (N : Int → Int → Int) (hT : Tb c n wd N) (d0 : 0 ≤ kd) (d1 : kd < 3) (w0 : 0 ≤ w ∧ w ≤ 3)  : qN X4_placeRows 2 [qP 27, qP 1, qI kd] c (pV (fun c' => (∀ q, q ≠ 34 → q ≠ 35 → q ≠ 36 → c' q = c q) ∧ SC c' w n wd N (ds wd N kd) idL)) := by
  have hT0 := hT
  obtain ⟨t1, t2, t3, t4, t5, t6, t7⟩ := hT
  have hD : Db (ds wd N kd) n := fun i j i0 i1 j0 j1 => hT0.bd (kd := kd) i0 i1 j0 j1
  refine qN.of [some (qP 27), some (qP 1), some (qI kd), none, none] (by decide) rfl (fun _ => rfl) (fun _ => Nat.le_of_ble_eq_true rfl) ?_
  refine g_iconst dX4_placeRows_0 ?_
  refine g_istore_n3 dX4_placeRows_1 rfl ?_
  have L2 : ∀ (fu2 : Nat) (r : Int) (c1 : qC), (n - r).toNat < fu2 → (0 ≤ r) → (r ≤ n) → (∀ q, q ≠ 34 → q ≠ 35 → q ≠ 36 → c1 q = c q) → (∀ a, 0 ≤ a → a < r → c1 34 a = 1) → (∀ a x, 0 ≤ a → a < r → 0 ≤ x → x < wd → c1 35 (a * 4 + x) = N a x) → (∀ a b, 0 ≤ a → a < r → 0 ≤ b → b < n → c1 36 (a * 30 + b) = (ds wd N kd) a b) → qG (qYn X4_placeRows 2 (pV (fun c' => (∀ q, q ≠ 34 → q ≠ 35 → q ≠ 36 → c' q = c q) ∧ SC c' w n wd N (ds wd N kd) idL))) wN 2 [some (qP 27), some (qP 1), some (qI kd), some (qI r), none] [] c1 := by
    intro fu2
    induction fu2 with
    | zero => intro r c1 hm; exact absurd hm (Nat.not_lt_zero _)
    | succ fu2 ih2 =>
      intro r c1 hm2 r0 r1 ff h1 h2 h3
      have e1 : c1 1 3 = n := by rw [ff 1 (by decide) (by decide) (by decide)]; exact t1
      refine g_iload_n (i := 3) dX4_placeRows_2 rfl rfl ?_
      refine g_aload_n (i := 1) dX4_placeRows_3 rfl rfl ?_
      refine g_getI (ji := 3) dX4_placeRows_4 fl4_58 (by first | rfl | assumption) (by first | decide | (show _ < 62; omega)) (by first | rfl | assumption) (by decide) rfl (by first | assumption | rfl) ?_
      refine g_icmp_ge 99 dX4_placeRows_7 (by decide) (fun b7 => ?_) (fun b7 => ?_)
      · skip
        exact n_retv dX4_placeRows_99 rfl (⟨ff, fun a q0 q1 => by rw [h1 a q0 (by omega)]; exact (sg_id (f := fun _ => 1) q0 q1).symm, fun a x q0 q1 _ x0 x1 => by rw [h2 a x q0 (by omega) x0 x1, sg_id q0 q1], fun a b q0 q1 b0 b1 _ _ _ => by rw [h3 a b q0 (by omega) b0 b1]; exact IsG.ini w0 q0 q1 b0 b1⟩)
      · skip
        refine g_aload_n (i := 0) dX4_placeRows_10 rfl rfl ?_
        refine g_getP dX4_placeRows_11 fl4_31 (by first | rfl | assumption) (by first | decide | (show _ < 62; omega)) (by first | rfl | assumption) ?_
        refine g_iload_n (i := 3) dX4_placeRows_14 rfl rfl ?_
        refine g_iconst dX4_placeRows_15 ?_
        refine g_iastore dX4_placeRows_16 (by first | rfl | assumption) (by first | decide | (show _ < 62; omega)) ?_
        refine g_iconst dX4_placeRows_17 ?_
        refine g_istore4 dX4_placeRows_18 rfl ?_
        have L20 : ∀ (fu20 : Nat) (x : Int) (c2 : qC), (wd - x).toNat < fu20 → (0 ≤ x) → (x ≤ wd) → (∀ q, q ≠ 34 → q ≠ 35 → q ≠ 36 → c2 q = c q) → (∀ a, 0 ≤ a → a < r + 1 → c2 34 a = 1) → (∀ a x1, 0 ≤ a → a < r + 1 → 0 ≤ x1 → x1 < wd → (a < r ∨ x1 < x) → c2 35 (a * 4 + x1) = N a x1) → (∀ a b, 0 ≤ a → a < r → 0 ≤ b → b < n → c2 36 (a * 30 + b) = (ds wd N kd) a b) → qG (qYn X4_placeRows 2 (pV (fun c' => (∀ q, q ≠ 34 → q ≠ 35 → q ≠ 36 → c' q = c q) ∧ SC c' w n wd N (ds wd N kd) idL))) wN 20 [some (qP 27), some (qP 1), some (qI kd), some (qI r), some (qI x)] [] c2 := by
          intro fu20
          induction fu20 with
          | zero => intro x c2 hm; exact absurd hm (Nat.not_lt_zero _)
          | succ fu20 ih20 =>
            intro x c2 hm20 x0 x1 ff2 h12 h22 h32
            have e2 : c2 1 2 = wd := by rw [ff2 1 (by decide) (by decide) (by decide)]; exact t2
            refine g_iload dX4_placeRows_20 rfl ?_
            refine g_aload_n (i := 1) dX4_placeRows_22 rfl rfl ?_
            refine g_getI (ji := 2) dX4_placeRows_23 fl4_75 (by first | rfl | assumption) (by first | decide | (show _ < 62; omega)) (by first | rfl | assumption) (by decide) rfl (by first | assumption | rfl) ?_
            refine g_icmp_ge 54 dX4_placeRows_26 (by decide) (fun b26 => ?_) (fun b26 => ?_)
            · skip
              refine g_iconst dX4_placeRows_54 ?_
              refine g_istore4 dX4_placeRows_55 rfl ?_
              have L57 : ∀ (fu57 : Nat) (o : Int) (c3 : qC), (n - o).toNat < fu57 → (0 ≤ o) → (o ≤ n) → (∀ q, q ≠ 34 → q ≠ 35 → q ≠ 36 → c3 q = c q) → (∀ a, 0 ≤ a → a < r + 1 → c3 34 a = 1) → (∀ a x, 0 ≤ a → a < r + 1 → 0 ≤ x → x < wd → c3 35 (a * 4 + x) = N a x) → (∀ a b, 0 ≤ a → a < r + 1 → 0 ≤ b → b < n → (a < r ∨ b < o) → c3 36 (a * 30 + b) = (ds wd N kd) a b) → qG (qYn X4_placeRows 2 (pV (fun c' => (∀ q, q ≠ 34 → q ≠ 35 → q ≠ 36 → c' q = c q) ∧ SC c' w n wd N (ds wd N kd) idL))) wN 57 [some (qP 27), some (qP 1), some (qI kd), some (qI r), some (qI o)] [] c3 := by
                intro fu57
                induction fu57 with
                | zero => intro o c3 hm; exact absurd hm (Nat.not_lt_zero _)
                | succ fu57 ih57 =>
                  intro o c3 hm57 o0 o1 ff3 h13 h23 h33
                  have e3 : c3 1 3 = n := by rw [ff3 1 (by decide) (by decide) (by decide)]; exact t1
                  refine g_iload dX4_placeRows_57 rfl ?_
                  refine g_aload_n (i := 1) dX4_placeRows_59 rfl rfl ?_
                  refine g_getI (ji := 3) dX4_placeRows_60 fl4_58 (by first | rfl | assumption) (by first | decide | (show _ < 62; omega)) (by first | rfl | assumption) (by decide) rfl (by first | assumption | rfl) ?_
                  refine g_icmp_ge 93 dX4_placeRows_63 (by decide) (fun b63 => ?_) (fun b63 => ?_)
                  · skip
                    refine g_iinc3 dX4_placeRows_93 rfl ?_
                    refine g_goto 2 dX4_placeRows_96 (by decide) ?_
                    refine g_fg4 ?_
                    exact ih2 _ _ (by omega) (by first | assumption | omega) (by first | assumption | omega) ff3 h13 h23 (fun a b q0 q1 b0 b1 => h33 a b q0 q1 b0 b1 (by omega))
                  · skip
                    refine g_aload_n (i := 0) dX4_placeRows_66 rfl rfl ?_
                    refine g_getP dX4_placeRows_67 fl4_37 (by first | rfl | assumption) (by first | decide | (show _ < 62; omega)) (by first | rfl | assumption) ?_
                    refine g_iload_n (i := 3) dX4_placeRows_70 rfl rfl ?_
                    refine g_bipush dX4_placeRows_71 (by decide) ?_
                    refine g_imul dX4_placeRows_73 ?_
                    refine g_iload dX4_placeRows_74 rfl ?_
                    refine g_iadd dX4_placeRows_76 ?_
                    refine g_aload_n (i := 1) dX4_placeRows_77 rfl rfl ?_
                    refine g_iload_n (i := 2) dX4_placeRows_78 rfl rfl ?_
                    refine g_iload_n (i := 3) dX4_placeRows_79 rfl rfl ?_
                    refine g_iload dX4_placeRows_80 rfl ?_
                    refine n_callVi (k_X6_apart _ _ _ _ (by omega) (by omega) (by omega) (by omega) (by omega) (by omega)) dX4_placeRows_82 lk4_82 im_X6_apart (by first | rfl | assumption) (by first | decide | (show _ < 62; omega)) rfl rfl rfl rfl (Nat.le_of_ble_eq_true rfl) (fun z c' hz => ?_)
                    obtain ⟨rfl, hz2⟩ := hz
                    have hz2 := hz2.symm
                    subst hz2
                    rw [show c3 3 ((kd * 30 + r) * 30 + o) = (ds wd N kd) r o by rw [ff3 3 (by decide) (by decide) (by decide)]; exact t7 kd r o d0 d1 r0 (by omega) o0 (by omega)]
                    have hdb := hD r o r0 (by omega) o0 (by omega)
                    refine g_i2lx dX4_placeRows_85 ?_
                    refine g_lastore dX4_placeRows_86 (by first | rfl | assumption) (by first | decide | (show _ < 62; omega)) ?_
                    refine g_iinc4 dX4_placeRows_87 rfl ?_
                    refine g_goto 57 dX4_placeRows_90 (by decide) ?_
                    exact ih57 _ _ (by omega) (by first | assumption | omega) (by first | assumption | omega) (fun q q1 q2 q3 => by rw [qu_ne q3]; exact ff3 q q1 q2 q3) h13 h23 (fun a b q0 q1 b0 b1 h => by
                            rw [qu_at]; split
                            · rw [show a = r by omega, show b = o by omega]
                            · exact h33 a b q0 q1 b0 b1 (by omega))
              exact L57 _ _ _ (Nat.lt_succ_self _) (by first | assumption | omega) (by first | assumption | omega) ff2 h12 (fun a y q0 q1 y0 y1 => h22 a y q0 q1 y0 y1 (by omega)) (fun a b q0 q1 b0 b1 h => h32 a b q0 (by omega) b0 b1)
            · skip
              refine g_aload_n (i := 0) dX4_placeRows_29 rfl rfl ?_
              refine g_getP dX4_placeRows_30 fl4_34 (by first | rfl | assumption) (by first | decide | (show _ < 62; omega)) (by first | rfl | assumption) ?_
              refine g_iload_n (i := 3) dX4_placeRows_33 rfl rfl ?_
              refine g_iconst dX4_placeRows_34 ?_
              refine g_imul dX4_placeRows_35 ?_
              refine g_iload dX4_placeRows_36 rfl ?_
              refine g_iadd dX4_placeRows_38 ?_
              refine g_aload_n (i := 1) dX4_placeRows_39 rfl rfl ?_
              refine g_iload_n (i := 3) dX4_placeRows_40 rfl rfl ?_
              refine g_iload dX4_placeRows_41 rfl ?_
              refine n_callVi (k_X6_cell _ _ _ (by omega) (by omega) (by omega) (by omega)) dX4_placeRows_43 lk4_78 im_X6_cell (by first | rfl | assumption) (by first | decide | (show _ < 62; omega)) rfl rfl rfl rfl (Nat.le_of_ble_eq_true rfl) (fun z c' hz => ?_)
              obtain ⟨rfl, hz2⟩ := hz
              have hz2 := hz2.symm
              subst hz2
              rw [show c2 2 (r * 4 + x) = N r x by rw [ff2 2 (by decide) (by decide) (by decide)]; exact t5 r x r0 (by omega) x0 (by omega)]
              have hNx := t6 r r0 (by omega) x x0 (by omega)
              refine g_i2lx dX4_placeRows_46 ?_
              refine g_lastore dX4_placeRows_47 (by first | rfl | assumption) (by first | decide | (show _ < 62; omega)) ?_
              refine g_iinc4 dX4_placeRows_48 rfl ?_
              refine g_goto 20 dX4_placeRows_51 (by decide) ?_
              exact ih20 _ _ (by omega) (by first | assumption | omega) (by first | assumption | omega) (fun q q1 q2 q3 => by rw [qu_ne q2]; exact ff2 q q1 q2 q3) h12 (fun a y q0 q1 y0 y1 h => by
                      rw [qu_at]; split
                      · rw [show a = r by omega, show y = x by omega]
                      · exact h22 a y q0 q1 y0 y1 (by omega)) h32
        exact L20 _ _ _ (Nat.lt_succ_self _) (by first | assumption | omega) (by first | assumption | omega) (fun q q1 q2 q3 => by rw [qu_ne q1]; exact ff q q1 q2 q3) (fun a q0 q1 => by
                rw [qu_at]; split
                · rfl
                · exact h1 a q0 (by omega)) (fun a x q0 q1 x0 x1 h => h2 a x q0 (by omega) x0 x1) h3
  exact L2 _ _ _ (Nat.lt_succ_self _) (by first | assumption | omega) (by first | assumption | omega) (fun q _ _ _ => rfl) (fun a q0 q1 => by omega) (fun a x q0 q1 => by omega) (fun a b q0 q1 => by omega)
set_option maxHeartbeats 4000000 in
set_option maxRecDepth 100000 in
theorem k_X4_findNearest (c : qC) (n wd kd w : Int) (N : Int → Int → Int) (hT : Tb c n wd N) (d0 : 0 ≤ kd) (d1 : kd < 3) (w0 : 0 ≤ w ∧ w ≤ 3) (L : Int → Int) (hL : LK L) (hw : c 27 10 = w) (hC : SC c w n wd N (ds wd N kd) L) (mk : Int) (m0 : 0 ≤ mk ∧ mk < 30) (hmk : c 27 11 = mk) (hpr : Vp L n (pr w n wd N (ds wd N kd) L)) : qN X4_findNearest 2 [qP 27, qP 1] c (pV (fun c' => (∀ q, q ≠ 28 → q ≠ 29 → q ≠ 31 → q ≠ 32 → q ≠ 37 → c' q = c q) ∧ (∀ i, ¬ i = mk → c' 28 i = c 28 i ∧ c' 29 i = c 29 i ∧ c' 31 i = c 31 i ∧ c' 32 i = c 32 i) ∧ c' 28 mk = jv w n wd N (ds wd N kd) L (pr w n wd N (ds wd N kd) L) 0 ∧ c' 29 mk = jv w n wd N (ds wd N kd) L (pr w n wd N (ds wd N kd) L) 1 ∧ c' 31 mk = jv w n wd N (ds wd N kd) L (pr w n wd N (ds wd N kd) L) 3 ∧ c' 32 mk = jv w n wd N (ds wd N kd) L (pr w n wd N (ds wd N kd) L) 4)) := by
  have hT0 := hT
  obtain ⟨t1, t2, t3, t4, t5, t6, t7⟩ := hT
  have hD : Db (ds wd N kd) n := fun i j i0 i1 j0 j1 => hT0.bd (kd := kd) i0 i1 j0 j1
  refine qN.of [some (qP 27), some (qP 1), none, none, none, none, none, none, none, none, none, none, none] (by decide) rfl (fun _ => rfl) (fun _ => Nat.le_of_ble_eq_true rfl) ?_
  refine g_iconst dX4_findNearest_0 ?_
  refine g_istore_n2 dX4_findNearest_1 rfl ?_
  refine g_lconst (z := 0) dX4_findNearest_2 (by decide) ?_
  refine g_lstore_n3 dX4_findNearest_3 rfl ?_
  refine g_lconst (z := 1) dX4_findNearest_4 (by decide) ?_
  refine g_lstore5 dX4_findNearest_5 rfl ?_
  refine g_iconst dX4_findNearest_7 ?_
  refine g_istore7 dX4_findNearest_8 rfl ?_
  have L10 : ∀ (fu10 : Nat) (fo ab1 be a : Int) (c1 : qC), (n - a).toNat < fu10 → (0 ≤ a) → (a ≤ n) → ((∀ q, q ≠ 28 → q ≠ 29 → c1 q = c q) ∧ (∀ i, ¬ i = mk → c1 28 i = c 28 i ∧ c1 29 i = c 29 i)) → ((fo = 0 ∧ (outp (VA w n wd N (ds wd N kd) L) (VB w n L) L n a.toNat).1 = -1 ∧ ab1 = 0 ∧ be = 1) ∨ (fo = 1 ∧ ¬ (outp (VA w n wd N (ds wd N kd) L) (VB w n L) L n a.toNat).1 = -1 ∧ Vp L n (outp (VA w n wd N (ds wd N kd) L) (VB w n L) L n a.toNat) ∧ ab1 = VA w n wd N (ds wd N kd) L (outp (VA w n wd N (ds wd N kd) L) (VB w n L) L n a.toNat).1 (outp (VA w n wd N (ds wd N kd) L) (VB w n L) L n a.toNat).2 ∧ be = VB w n L (outp (VA w n wd N (ds wd N kd) L) (VB w n L) L n a.toNat).1 (outp (VA w n wd N (ds wd N kd) L) (VB w n L) L n a.toNat).2 ∧ c1 28 mk = (outp (VA w n wd N (ds wd N kd) L) (VB w n L) L n a.toNat).1 ∧ c1 29 mk = (outp (VA w n wd N (ds wd N kd) L) (VB w n L) L n a.toNat).2)) → qG (qYn X4_findNearest 2 (pV (fun c' => (∀ q, q ≠ 28 → q ≠ 29 → q ≠ 31 → q ≠ 32 → q ≠ 37 → c' q = c q) ∧ (∀ i, ¬ i = mk → c' 28 i = c 28 i ∧ c' 29 i = c 29 i ∧ c' 31 i = c 31 i ∧ c' 32 i = c 32 i) ∧ c' 28 mk = jv w n wd N (ds wd N kd) L (pr w n wd N (ds wd N kd) L) 0 ∧ c' 29 mk = jv w n wd N (ds wd N kd) L (pr w n wd N (ds wd N kd) L) 1 ∧ c' 31 mk = jv w n wd N (ds wd N kd) L (pr w n wd N (ds wd N kd) L) 3 ∧ c' 32 mk = jv w n wd N (ds wd N kd) L (pr w n wd N (ds wd N kd) L) 4))) wN 10 [some (qP 27), some (qP 1), some (qI fo), some (qJ ab1), none, some (qJ be), none, some (qI a), none, none, none, none, none] [] c1 := by
    intro fu10
    induction fu10 with
    | zero => intro fo ab1 be a c1 hm; exact absurd hm (Nat.not_lt_zero _)
    | succ fu10 ih10 =>
      intro fo ab1 be a c1 hm10 a0 a1 ff hs
      have e1 : c1 1 3 = n := by rw [ff.1 1 (by decide) (by decide)]; exact t1
      refine g_iload dX4_findNearest_10 rfl ?_
      refine g_aload_n (i := 1) dX4_findNearest_12 rfl rfl ?_
      refine g_getI (ji := 3) dX4_findNearest_13 fl4_58 (by first | rfl | assumption) (by first | decide | (show _ < 62; omega)) (by first | rfl | assumption) (by decide) rfl (by first | assumption | rfl) ?_
      refine g_icmp_ge 135 dX4_findNearest_16 (by decide) (fun b16 => ?_) (fun b16 => ?_)
      · skip
        have hpe : outp (VA w n wd N (ds wd N kd) L) (VB w n L) L n a.toNat = (pr w n wd N (ds wd N kd) L) := by rw [show a = n by omega]; rfl
        rw [hpe] at hs
        have hpr1 := hpr.1
        have hs3 := hs.resolve_left (fun h => by have := h.2.1; omega)
        have hC3 := hC.2.2 (pr w n wd N (ds wd N kd) L).1 (pr w n wd N (ds wd N kd) L).2 hpr1.1 (by omega) (by omega) hpr1.2.2 hpr.2.1 hpr.2.2 (by omega)
        have hva3 := VA_bd hD t3 t4 t6 hC3
        have hvb3 := VB_bd (w := w) (L := L) (a := (pr w n wd N (ds wd N kd) L).1) (b := (pr w n wd N (ds wd N kd) L).2) t3 (live_cn hpr1.1 (by omega) hpr.2.1) (live_cn (by omega) hpr1.2.2 hpr.2.2)
        rw [← hs3.2.2.2.1] at hva3
        rw [← hs3.2.2.2.2.1] at hvb3
        have hmk1 : c1 27 11 = mk := by rw [ff.1 27 (by decide) (by decide)]; exact hmk
        refine g_aload_n (i := 0) dX4_findNearest_135 rfl rfl ?_
        refine g_getP dX4_findNearest_136 fl4_43 (by first | rfl | assumption) (by first | decide | (show _ < 62; omega)) (by first | rfl | assumption) ?_
        refine g_lload_n (i := 3) dX4_findNearest_139 rfl rfl ?_
        refine g_lload dX4_findNearest_140 rfl ?_
        refine n_callVv (k_X2_put_37 _ _ _ (by omega) (by omega) (by omega)) dX4_findNearest_142 lk4_98 im_X2_put (by first | rfl | assumption) (by first | decide | (show _ < 62; omega)) rfl rfl rfl rfl (Nat.le_of_ble_eq_true rfl) (fun c3 hz => ?_)
        subst hz
        refine g_aload_n (i := 0) dX4_findNearest_145 rfl rfl ?_
        refine g_getP dX4_findNearest_146 fl4_21 (by first | rfl | assumption) (by first | decide | (show _ < 62; omega)) (by first | rfl | assumption) ?_
        refine g_aload_n (i := 0) dX4_findNearest_149 rfl rfl ?_
        refine g_getI (ji := 11) dX4_findNearest_150 fl4_51 (by first | rfl | assumption) (by first | decide | (show _ < 62; omega)) (by first | rfl | assumption) (by decide) rfl (by first | assumption | rfl) ?_
        refine g_aload_n (i := 0) dX4_findNearest_153 rfl rfl ?_
        refine g_getP dX4_findNearest_154 fl4_43 (by first | rfl | assumption) (by first | decide | (show _ < 62; omega)) (by first | rfl | assumption) ?_
        refine g_getJ (ji := 0) dX4_findNearest_157 fl4_102 (by first | rfl | assumption) (by first | decide | (show _ < 62; omega)) (by first | rfl | assumption) rfl (by first | assumption | rfl) ?_
        refine g_lastore dX4_findNearest_160 (by first | rfl | assumption) (by first | decide | (show _ < 62; omega)) ?_
        refine g_aload_n (i := 0) dX4_findNearest_161 rfl rfl ?_
        refine g_getP dX4_findNearest_162 fl4_25 (by first | rfl | assumption) (by first | decide | (show _ < 62; omega)) (by first | rfl | assumption) ?_
        refine g_aload_n (i := 0) dX4_findNearest_165 rfl rfl ?_
        refine g_getI (ji := 11) dX4_findNearest_166 fl4_51 (by first | rfl | assumption) (by first | decide | (show _ < 62; omega)) (by first | rfl | assumption) (by decide) rfl (by first | assumption | rfl) ?_
        refine g_aload_n (i := 0) dX4_findNearest_169 rfl rfl ?_
        refine g_getP dX4_findNearest_170 fl4_43 (by first | rfl | assumption) (by first | decide | (show _ < 62; omega)) (by first | rfl | assumption) ?_
        refine g_getJ (ji := 1) dX4_findNearest_173 fl4_106 (by first | rfl | assumption) (by first | decide | (show _ < 62; omega)) (by first | rfl | assumption) rfl (by first | assumption | rfl) ?_
        refine g_lastore dX4_findNearest_176 (by first | rfl | assumption) (by first | decide | (show _ < 62; omega)) ?_
        exact n_retv dX4_findNearest_177 rfl (by
                have e28 := hs3.2.2.2.2.2.1
                have e29 := hs3.2.2.2.2.2.2
                have eA := hs3.2.2.2.1
                have eB := hs3.2.2.2.2.1
                refine ⟨fun q q1 q2 q3 q4 q5 => ?_, fun i hi => ⟨(ff.2 i hi).1, (ff.2 i hi).2, ?_, ?_⟩, ?_, ?_, ?_, ?_⟩
                · rw [qu_ne q4, qu_ne q3, qu_ne q5, qu_ne q5]; exact ff.1 q q1 q2
                · show qu (qu (qu c1 37 0 _) 37 1 _) 31 mk _ 31 i = _
                  rw [qu_off hi]
                  show c1 31 i = _
                  rw [ff.1 31 (by decide) (by decide)]
                · rw [qu_off hi]
                  show c1 32 i = _
                  rw [ff.1 32 (by decide) (by decide)]
                · exact e28
                · exact e29
                · show qu (qu (qu c1 37 0 _) 37 1 _) 31 mk _ 31 mk = _
                  rw [qu_eq]
                  show ab1.tdiv (gc ab1 be) = _
                  rw [eA, eB]; rfl
                · rw [qu_eq]
                  show be.tdiv (gc ab1 be) = _
                  rw [eA, eB]; rfl)
      · skip
        refine g_iload dX4_findNearest_19 rfl ?_
        refine g_iconst dX4_findNearest_21 ?_
        refine g_iadd dX4_findNearest_22 ?_
        refine g_istore8 dX4_findNearest_23 rfl ?_
        have L25 : ∀ (fu25 : Nat) (fo ab1 be b : Int) (c2 : qC), (n - b).toNat < fu25 → (a + 1 ≤ b) → (b ≤ n) → ((∀ q, q ≠ 28 → q ≠ 29 → c2 q = c q) ∧ (∀ i, ¬ i = mk → c2 28 i = c 28 i ∧ c2 29 i = c 29 i)) → ((fo = 0 ∧ (inn (VA w n wd N (ds wd N kd) L) (VB w n L) L a (outp (VA w n wd N (ds wd N kd) L) (VB w n L) L n a.toNat) (b - (a + 1)).toNat).1 = -1 ∧ ab1 = 0 ∧ be = 1) ∨ (fo = 1 ∧ ¬ (inn (VA w n wd N (ds wd N kd) L) (VB w n L) L a (outp (VA w n wd N (ds wd N kd) L) (VB w n L) L n a.toNat) (b - (a + 1)).toNat).1 = -1 ∧ Vp L n (inn (VA w n wd N (ds wd N kd) L) (VB w n L) L a (outp (VA w n wd N (ds wd N kd) L) (VB w n L) L n a.toNat) (b - (a + 1)).toNat) ∧ ab1 = VA w n wd N (ds wd N kd) L (inn (VA w n wd N (ds wd N kd) L) (VB w n L) L a (outp (VA w n wd N (ds wd N kd) L) (VB w n L) L n a.toNat) (b - (a + 1)).toNat).1 (inn (VA w n wd N (ds wd N kd) L) (VB w n L) L a (outp (VA w n wd N (ds wd N kd) L) (VB w n L) L n a.toNat) (b - (a + 1)).toNat).2 ∧ be = VB w n L (inn (VA w n wd N (ds wd N kd) L) (VB w n L) L a (outp (VA w n wd N (ds wd N kd) L) (VB w n L) L n a.toNat) (b - (a + 1)).toNat).1 (inn (VA w n wd N (ds wd N kd) L) (VB w n L) L a (outp (VA w n wd N (ds wd N kd) L) (VB w n L) L n a.toNat) (b - (a + 1)).toNat).2 ∧ c2 28 mk = (inn (VA w n wd N (ds wd N kd) L) (VB w n L) L a (outp (VA w n wd N (ds wd N kd) L) (VB w n L) L n a.toNat) (b - (a + 1)).toNat).1 ∧ c2 29 mk = (inn (VA w n wd N (ds wd N kd) L) (VB w n L) L a (outp (VA w n wd N (ds wd N kd) L) (VB w n L) L n a.toNat) (b - (a + 1)).toNat).2)) → qG (qYn X4_findNearest 2 (pV (fun c' => (∀ q, q ≠ 28 → q ≠ 29 → q ≠ 31 → q ≠ 32 → q ≠ 37 → c' q = c q) ∧ (∀ i, ¬ i = mk → c' 28 i = c 28 i ∧ c' 29 i = c 29 i ∧ c' 31 i = c 31 i ∧ c' 32 i = c 32 i) ∧ c' 28 mk = jv w n wd N (ds wd N kd) L (pr w n wd N (ds wd N kd) L) 0 ∧ c' 29 mk = jv w n wd N (ds wd N kd) L (pr w n wd N (ds wd N kd) L) 1 ∧ c' 31 mk = jv w n wd N (ds wd N kd) L (pr w n wd N (ds wd N kd) L) 3 ∧ c' 32 mk = jv w n wd N (ds wd N kd) L (pr w n wd N (ds wd N kd) L) 4))) wN 25 [some (qP 27), some (qP 1), some (qI fo), some (qJ ab1), none, some (qJ be), none, some (qI a), some (qI b), none, none, none, none] [] c2 := by
          intro fu25
          induction fu25 with
          | zero => intro fo ab1 be b c2 hm; exact absurd hm (Nat.not_lt_zero _)
          | succ fu25 ih25 =>
            intro fo ab1 be b c2 hm25 b0 b1 ff2 hs2
            have e2 : c2 1 3 = n := by rw [ff2.1 1 (by decide) (by decide)]; exact t1
            have h34 : c2 34 = c 34 := ff2.1 34 (by decide) (by decide)
            have hC2 : SC c2 w n wd N (ds wd N kd) L := hC.fr h34 (ff2.1 35 (by decide) (by decide)) (ff2.1 36 (by decide) (by decide))
            have hT2 : Tb c2 n wd N := hT0.fr (ff2.1 1 (by decide) (by decide)) (ff2.1 2 (by decide) (by decide)) (ff2.1 3 (by decide) (by decide))
            have hw2 : c2 27 10 = w := by rw [ff2.1 27 (by decide) (by decide)]; exact hw
            have hmk2 : c2 27 11 = mk := by rw [ff2.1 27 (by decide) (by decide)]; exact hmk
            generalize hgi : inn (VA w n wd N (ds wd N kd) L) (VB w n L) L a (outp (VA w n wd N (ds wd N kd) L) (VB w n L) L n a.toNat) (b - (a + 1)).toNat = s at hs2
            have hinn := inn_s (V := VA w n wd N (ds wd N kd) L) (U := VB w n L) (L := L) (s := outp (VA w n wd N (ds wd N kd) L) (VB w n L) L n a.toNat) b0
            rw [hgi] at hinn
            refine g_iload dX4_findNearest_25 rfl ?_
            refine g_aload_n (i := 1) dX4_findNearest_27 rfl rfl ?_
            refine g_getI (ji := 3) dX4_findNearest_28 fl4_58 (by first | rfl | assumption) (by first | decide | (show _ < 62; omega)) (by first | rfl | assumption) (by decide) rfl (by first | assumption | rfl) ?_
            refine g_icmp_ge 129 dX4_findNearest_31 (by decide) (fun b31 => ?_) (fun b31 => ?_)
            · skip
              refine g_iinc7 dX4_findNearest_129 rfl ?_
              refine g_goto 10 dX4_findNearest_132 (by decide) ?_
              refine g_fg8 ?_
              exact ih10 _ _ _ _ _ (by omega) (by first | assumption | omega) (by first | assumption | omega) ff2 (by rw [outp_s a0, show n - (a + 1) = b - (a + 1) by omega, hgi]; exact hs2)
            · skip
              have hca := hC2.1 a a0 (by omega)
              have hcb := hC2.1 b (by omega) (by omega)
              have hba := cn_bd (g := L) (n := n) (k := a) t3.1
              have hbb := cn_bd (g := L) (n := n) (k := b) t3.1
              refine g_aload_n (i := 0) dX4_findNearest_34 rfl rfl ?_
              refine g_getP dX4_findNearest_35 fl4_31 (by first | rfl | assumption) (by first | decide | (show _ < 62; omega)) (by first | rfl | assumption) ?_
              refine g_iload dX4_findNearest_38 rfl ?_
              refine g_iaload dX4_findNearest_40 rfl (by decide) ?_
              rw [hca]
              skip -- ?_
              refine g_if_le 123 dX4_findNearest_41 (by decide) (fun b41 => ?_) (fun b41 => ?_)
              · skip
                first
                  | (have hst2 := hst
                     have ffN : (∀ q, q ≠ 28 → q ≠ 29 → (qu (qu c2 28 mk a) 29 mk b) q = c q) ∧ (∀ i, ¬ i = mk → (qu (qu c2 28 mk a) 29 mk b) 28 i = c 28 i ∧ (qu (qu c2 28 mk a) 29 mk b) 29 i = c 29 i) := ⟨fun q q1 q2 => by rw [qu_ne q2, qu_ne q1]; exact ff2.1 q q1 q2, fun i hi => ⟨by show qu c2 28 mk a 28 i = _; rw [qu_off hi]; exact (ff2.2 i hi).1, by rw [qu_off hi]; exact (ff2.2 i hi).2⟩⟩
                     have hsN : ((1 : Int) = 0 ∧ (stp (VA w n wd N (ds wd N kd) L) (VB w n L) L s a b).1 = -1 ∧ (VA w n wd N (ds wd N kd) L a b) = 0 ∧ VB w n L a b = 1) ∨ ((1 : Int) = 1 ∧ ¬ (stp (VA w n wd N (ds wd N kd) L) (VB w n L) L s a b).1 = -1 ∧ Vp L n (stp (VA w n wd N (ds wd N kd) L) (VB w n L) L s a b) ∧ (VA w n wd N (ds wd N kd) L a b) = VA w n wd N (ds wd N kd) L (stp (VA w n wd N (ds wd N kd) L) (VB w n L) L s a b).1 (stp (VA w n wd N (ds wd N kd) L) (VB w n L) L s a b).2 ∧ VB w n L a b = VB w n L (stp (VA w n wd N (ds wd N kd) L) (VB w n L) L s a b).1 (stp (VA w n wd N (ds wd N kd) L) (VB w n L) L s a b).2 ∧ (qu (qu c2 28 mk a) 29 mk b) 28 mk = (stp (VA w n wd N (ds wd N kd) L) (VB w n L) L s a b).1 ∧ (qu (qu c2 28 mk a) 29 mk b) 29 mk = (stp (VA w n wd N (ds wd N kd) L) (VB w n L) L s a b).2) := by
                       rw [hst]
                       exact Or.inr ⟨rfl, by show ¬ a = -1; omega, ⟨⟨a0, by show a < b; omega, by show b < n; omega⟩, la, lb⟩, rfl, rfl, by show qu c2 28 mk a 28 mk = a; rw [qu_eq], by rw [qu_eq]⟩)
                  | (have ffN := ff2
                     have hsN : (fo = 0 ∧ (stp (VA w n wd N (ds wd N kd) L) (VB w n L) L s a b).1 = -1 ∧ ab1 = 0 ∧ be = 1) ∨ (fo = 1 ∧ ¬ (stp (VA w n wd N (ds wd N kd) L) (VB w n L) L s a b).1 = -1 ∧ Vp L n (stp (VA w n wd N (ds wd N kd) L) (VB w n L) L s a b) ∧ ab1 = VA w n wd N (ds wd N kd) L (stp (VA w n wd N (ds wd N kd) L) (VB w n L) L s a b).1 (stp (VA w n wd N (ds wd N kd) L) (VB w n L) L s a b).2 ∧ be = VB w n L (stp (VA w n wd N (ds wd N kd) L) (VB w n L) L s a b).1 (stp (VA w n wd N (ds wd N kd) L) (VB w n L) L s a b).2 ∧ c2 28 mk = (stp (VA w n wd N (ds wd N kd) L) (VB w n L) L s a b).1 ∧ c2 29 mk = (stp (VA w n wd N (ds wd N kd) L) (VB w n L) L s a b).2) := by
                       have hst3 : stp (VA w n wd N (ds wd N kd) L) (VB w n L) L s a b = s := by
                         unfold stp
                         refine if_neg (fun h => ?_)
                         first
                           | (have := live_cn a0 (show a < n by omega) h.1; omega)
                           | (have := live_cn (show 0 ≤ b by omega) (show b < n by omega) h.2.1; omega)
                           | (rcases h.2.2 with h4 | h4
                              · exact hs3.2.1 h4
                              · rw [← hs3.2.2.2.1, ← hs3.2.2.2.2.1] at h4; omega)
                       rw [hst3]
                       exact hs2)
                refine g_iinc8 dX4_findNearest_123 rfl ?_
                refine g_goto 25 dX4_findNearest_126 (by decide) ?_
                exact ih25 _ _ _ _ _ (by omega) (by first | assumption | omega) (by first | assumption | omega) ffN (by rw [hinn]; exact hsN)
              · skip
                refine g_aload_n (i := 0) dX4_findNearest_44 rfl rfl ?_
                refine g_getP dX4_findNearest_45 fl4_31 (by first | rfl | assumption) (by first | decide | (show _ < 62; omega)) (by first | rfl | assumption) ?_
                refine g_iload dX4_findNearest_48 rfl ?_
                refine g_iaload dX4_findNearest_50 rfl (by decide) ?_
                rw [hcb]
                skip -- ?_
                refine g_if_le 123 dX4_findNearest_51 (by decide) (fun b51 => ?_) (fun b51 => ?_)
                · skip
                  first
                    | (have hst2 := hst
                       have ffN : (∀ q, q ≠ 28 → q ≠ 29 → (qu (qu c2 28 mk a) 29 mk b) q = c q) ∧ (∀ i, ¬ i = mk → (qu (qu c2 28 mk a) 29 mk b) 28 i = c 28 i ∧ (qu (qu c2 28 mk a) 29 mk b) 29 i = c 29 i) := ⟨fun q q1 q2 => by rw [qu_ne q2, qu_ne q1]; exact ff2.1 q q1 q2, fun i hi => ⟨by show qu c2 28 mk a 28 i = _; rw [qu_off hi]; exact (ff2.2 i hi).1, by rw [qu_off hi]; exact (ff2.2 i hi).2⟩⟩
                       have hsN : ((1 : Int) = 0 ∧ (stp (VA w n wd N (ds wd N kd) L) (VB w n L) L s a b).1 = -1 ∧ (VA w n wd N (ds wd N kd) L a b) = 0 ∧ VB w n L a b = 1) ∨ ((1 : Int) = 1 ∧ ¬ (stp (VA w n wd N (ds wd N kd) L) (VB w n L) L s a b).1 = -1 ∧ Vp L n (stp (VA w n wd N (ds wd N kd) L) (VB w n L) L s a b) ∧ (VA w n wd N (ds wd N kd) L a b) = VA w n wd N (ds wd N kd) L (stp (VA w n wd N (ds wd N kd) L) (VB w n L) L s a b).1 (stp (VA w n wd N (ds wd N kd) L) (VB w n L) L s a b).2 ∧ VB w n L a b = VB w n L (stp (VA w n wd N (ds wd N kd) L) (VB w n L) L s a b).1 (stp (VA w n wd N (ds wd N kd) L) (VB w n L) L s a b).2 ∧ (qu (qu c2 28 mk a) 29 mk b) 28 mk = (stp (VA w n wd N (ds wd N kd) L) (VB w n L) L s a b).1 ∧ (qu (qu c2 28 mk a) 29 mk b) 29 mk = (stp (VA w n wd N (ds wd N kd) L) (VB w n L) L s a b).2) := by
                         rw [hst]
                         exact Or.inr ⟨rfl, by show ¬ a = -1; omega, ⟨⟨a0, by show a < b; omega, by show b < n; omega⟩, la, lb⟩, rfl, rfl, by show qu c2 28 mk a 28 mk = a; rw [qu_eq], by rw [qu_eq]⟩)
                    | (have ffN := ff2
                       have hsN : (fo = 0 ∧ (stp (VA w n wd N (ds wd N kd) L) (VB w n L) L s a b).1 = -1 ∧ ab1 = 0 ∧ be = 1) ∨ (fo = 1 ∧ ¬ (stp (VA w n wd N (ds wd N kd) L) (VB w n L) L s a b).1 = -1 ∧ Vp L n (stp (VA w n wd N (ds wd N kd) L) (VB w n L) L s a b) ∧ ab1 = VA w n wd N (ds wd N kd) L (stp (VA w n wd N (ds wd N kd) L) (VB w n L) L s a b).1 (stp (VA w n wd N (ds wd N kd) L) (VB w n L) L s a b).2 ∧ be = VB w n L (stp (VA w n wd N (ds wd N kd) L) (VB w n L) L s a b).1 (stp (VA w n wd N (ds wd N kd) L) (VB w n L) L s a b).2 ∧ c2 28 mk = (stp (VA w n wd N (ds wd N kd) L) (VB w n L) L s a b).1 ∧ c2 29 mk = (stp (VA w n wd N (ds wd N kd) L) (VB w n L) L s a b).2) := by
                         have hst3 : stp (VA w n wd N (ds wd N kd) L) (VB w n L) L s a b = s := by
                           unfold stp
                           refine if_neg (fun h => ?_)
                           first
                             | (have := live_cn a0 (show a < n by omega) h.1; omega)
                             | (have := live_cn (show 0 ≤ b by omega) (show b < n by omega) h.2.1; omega)
                             | (rcases h.2.2 with h4 | h4
                                · exact hs3.2.1 h4
                                · rw [← hs3.2.2.2.1, ← hs3.2.2.2.2.1] at h4; omega)
                         rw [hst3]
                         exact hs2)
                  refine g_iinc8 dX4_findNearest_123 rfl ?_
                  refine g_goto 25 dX4_findNearest_126 (by decide) ?_
                  exact ih25 _ _ _ _ _ (by omega) (by first | assumption | omega) (by first | assumption | omega) ffN (by rw [hinn]; exact hsN)
                · skip
                  have la : L a = a := Classical.byContradiction (fun h => by have := dead_cn hL t3.1 h; omega)
                  have lb : L b = b := Classical.byContradiction (fun h => by have := dead_cn hL t3.1 h; omega)
                  have hva := VA_bd hD t3 t4 t6 (hC2.2.2 a b a0 (by omega) (by omega) (by omega) la lb (by omega))
                  have hvb := VB_bd (w := w) (L := L) (a := a) (b := b) t3 (by omega) (by omega)
                  refine g_aload_n (i := 0) dX4_findNearest_54 rfl rfl ?_
                  refine g_aload_n (i := 1) dX4_findNearest_55 rfl rfl ?_
                  refine g_iload dX4_findNearest_56 rfl ?_
                  refine g_iload dX4_findNearest_58 rfl ?_
                  refine n_callVj (k_X4_gapAbove _ n wd kd w N hT2 d0 d1 w0 L hL hw2 hC2 _ _ (by omega) (by omega) (by omega) (by omega) la lb (by omega)) dX4_findNearest_60 lk4_86 im_X4_gapAbove (by first | rfl | assumption) (by first | decide | (show _ < 62; omega)) rfl rfl rfl rfl (Nat.le_of_ble_eq_true rfl) (fun z c' hz => ?_)
                  obtain ⟨rfl, hz2⟩ := hz
                  have hz2 := hz2.symm
                  subst hz2
                  refine g_lstore9 dX4_findNearest_63 rfl ?_
                  refine g_aload_n (i := 0) dX4_findNearest_65 rfl rfl ?_
                  refine g_iload dX4_findNearest_66 rfl ?_
                  refine g_iload dX4_findNearest_68 rfl ?_
                  refine n_callVj (k_X4_gapBelow _ n wd kd w N hT2 d0 d1 w0 L hL hw2 hC2 _ _ (by omega) (by omega) (by omega) (by omega) la lb (by omega)) dX4_findNearest_70 lk4_90 im_X4_gapBelow (by first | rfl | assumption) (by first | decide | (show _ < 62; omega)) rfl rfl rfl rfl (Nat.le_of_ble_eq_true rfl) (fun z c' hz => ?_)
                  obtain ⟨rfl, hz2⟩ := hz
                  have hz2 := hz2.symm
                  subst hz2
                  refine g_lstore11 dX4_findNearest_73 rfl ?_
                  refine g_iload_n (i := 2) dX4_findNearest_75 rfl rfl ?_
                  refine g_if_eq 92 dX4_findNearest_76 (by decide) (fun b76 => ?_) (fun b76 => ?_)
                  · skip
                    have hst : stp (VA w n wd N (ds wd N kd) L) (VB w n L) L s a b = (a, b) := by
                      unfold stp
                      refine if_pos ⟨la, lb, ?_⟩
                      first
                        | exact Or.inl (hs2.elim (fun h => h.2.1) (fun h => absurd h.1 (by omega)))
                        | exact Or.inr (by rw [← hs3.2.2.2.1, ← hs3.2.2.2.2.1]; omega)
                    refine g_iconst dX4_findNearest_92 ?_
                    refine g_istore_n2 dX4_findNearest_93 rfl ?_
                    refine g_lload dX4_findNearest_94 rfl ?_
                    refine g_lstore_n3 dX4_findNearest_96 rfl ?_
                    refine g_lload dX4_findNearest_97 rfl ?_
                    refine g_lstore5 dX4_findNearest_99 rfl ?_
                    refine g_aload_n (i := 0) dX4_findNearest_101 rfl rfl ?_
                    refine g_getP dX4_findNearest_102 fl4_9 (by first | rfl | assumption) (by first | decide | (show _ < 62; omega)) (by first | rfl | assumption) ?_
                    refine g_aload_n (i := 0) dX4_findNearest_105 rfl rfl ?_
                    refine g_getI (ji := 11) dX4_findNearest_106 fl4_51 (by first | rfl | assumption) (by first | decide | (show _ < 62; omega)) (by first | rfl | assumption) (by decide) rfl (by first | assumption | rfl) ?_
                    refine g_iload dX4_findNearest_109 rfl ?_
                    refine g_iastore dX4_findNearest_111 (by first | rfl | assumption) (by first | decide | (show _ < 62; omega)) ?_
                    refine g_aload_n (i := 0) dX4_findNearest_112 rfl rfl ?_
                    refine g_getP dX4_findNearest_113 fl4_15 (by first | rfl | assumption) (by first | decide | (show _ < 62; omega)) (by first | rfl | assumption) ?_
                    refine g_aload_n (i := 0) dX4_findNearest_116 rfl rfl ?_
                    refine g_getI (ji := 11) dX4_findNearest_117 fl4_51 (by first | rfl | assumption) (by first | decide | (show _ < 62; omega)) (by first | rfl | assumption) (by decide) rfl (by first | assumption | rfl) ?_
                    refine g_iload dX4_findNearest_120 rfl ?_
                    refine g_iastore dX4_findNearest_122 (by first | rfl | assumption) (by first | decide | (show _ < 62; omega)) ?_
                    first
                      | (have hst2 := hst
                         have ffN : (∀ q, q ≠ 28 → q ≠ 29 → (qu (qu c2 28 mk a) 29 mk b) q = c q) ∧ (∀ i, ¬ i = mk → (qu (qu c2 28 mk a) 29 mk b) 28 i = c 28 i ∧ (qu (qu c2 28 mk a) 29 mk b) 29 i = c 29 i) := ⟨fun q q1 q2 => by rw [qu_ne q2, qu_ne q1]; exact ff2.1 q q1 q2, fun i hi => ⟨by show qu c2 28 mk a 28 i = _; rw [qu_off hi]; exact (ff2.2 i hi).1, by rw [qu_off hi]; exact (ff2.2 i hi).2⟩⟩
                         have hsN : ((1 : Int) = 0 ∧ (stp (VA w n wd N (ds wd N kd) L) (VB w n L) L s a b).1 = -1 ∧ (VA w n wd N (ds wd N kd) L a b) = 0 ∧ VB w n L a b = 1) ∨ ((1 : Int) = 1 ∧ ¬ (stp (VA w n wd N (ds wd N kd) L) (VB w n L) L s a b).1 = -1 ∧ Vp L n (stp (VA w n wd N (ds wd N kd) L) (VB w n L) L s a b) ∧ (VA w n wd N (ds wd N kd) L a b) = VA w n wd N (ds wd N kd) L (stp (VA w n wd N (ds wd N kd) L) (VB w n L) L s a b).1 (stp (VA w n wd N (ds wd N kd) L) (VB w n L) L s a b).2 ∧ VB w n L a b = VB w n L (stp (VA w n wd N (ds wd N kd) L) (VB w n L) L s a b).1 (stp (VA w n wd N (ds wd N kd) L) (VB w n L) L s a b).2 ∧ (qu (qu c2 28 mk a) 29 mk b) 28 mk = (stp (VA w n wd N (ds wd N kd) L) (VB w n L) L s a b).1 ∧ (qu (qu c2 28 mk a) 29 mk b) 29 mk = (stp (VA w n wd N (ds wd N kd) L) (VB w n L) L s a b).2) := by
                           rw [hst]
                           exact Or.inr ⟨rfl, by show ¬ a = -1; omega, ⟨⟨a0, by show a < b; omega, by show b < n; omega⟩, la, lb⟩, rfl, rfl, by show qu c2 28 mk a 28 mk = a; rw [qu_eq], by rw [qu_eq]⟩)
                      | (have ffN := ff2
                         have hsN : (fo = 0 ∧ (stp (VA w n wd N (ds wd N kd) L) (VB w n L) L s a b).1 = -1 ∧ ab1 = 0 ∧ be = 1) ∨ (fo = 1 ∧ ¬ (stp (VA w n wd N (ds wd N kd) L) (VB w n L) L s a b).1 = -1 ∧ Vp L n (stp (VA w n wd N (ds wd N kd) L) (VB w n L) L s a b) ∧ ab1 = VA w n wd N (ds wd N kd) L (stp (VA w n wd N (ds wd N kd) L) (VB w n L) L s a b).1 (stp (VA w n wd N (ds wd N kd) L) (VB w n L) L s a b).2 ∧ be = VB w n L (stp (VA w n wd N (ds wd N kd) L) (VB w n L) L s a b).1 (stp (VA w n wd N (ds wd N kd) L) (VB w n L) L s a b).2 ∧ c2 28 mk = (stp (VA w n wd N (ds wd N kd) L) (VB w n L) L s a b).1 ∧ c2 29 mk = (stp (VA w n wd N (ds wd N kd) L) (VB w n L) L s a b).2) := by
                           have hst3 : stp (VA w n wd N (ds wd N kd) L) (VB w n L) L s a b = s := by
                             unfold stp
                             refine if_neg (fun h => ?_)
                             first
                               | (have := live_cn a0 (show a < n by omega) h.1; omega)
                               | (have := live_cn (show 0 ≤ b by omega) (show b < n by omega) h.2.1; omega)
                               | (rcases h.2.2 with h4 | h4
                                  · exact hs3.2.1 h4
                                  · rw [← hs3.2.2.2.1, ← hs3.2.2.2.2.1] at h4; omega)
                           rw [hst3]
                           exact hs2)
                    refine g_iinc8 dX4_findNearest_123 rfl ?_
                    refine g_goto 25 dX4_findNearest_126 (by decide) ?_
                    refine g_fg9 ?_
                    refine g_fg11 ?_
                    exact ih25 _ _ _ _ _ (by omega) (by first | assumption | omega) (by first | assumption | omega) ffN (by rw [hinn]; exact hsN)
                  · skip
                    have hs3 := hs2.resolve_left (by omega)
                    have hV3 := hs3.2.2.1
                    have hC3 := hC2.2.2 s.1 s.2 hV3.1.1 (by have := hV3.1; omega) (by have := hV3.1; omega) hV3.1.2.2 hV3.2.1 hV3.2.2 (by have := hV3.1; omega)
                    have hva3 := VA_bd hD t3 t4 t6 hC3
                    have hvb3 := VB_bd (w := w) (L := L) (a := s.1) (b := s.2) t3 (live_cn hV3.1.1 (by have := hV3.1; omega) hV3.2.1) (live_cn (by have := hV3.1; omega) hV3.1.2.2 hV3.2.2)
                    rw [← hs3.2.2.2.1] at hva3
                    rw [← hs3.2.2.2.2.1] at hvb3
                    have hq1 := mul_le2 hva.1 hva.2 (show 0 ≤ be by omega) hvb3.2
                    have hq2 := mul_le2 hva3.1 hva3.2 (show 0 ≤ VB w n L a b by omega) hvb.2
                    refine g_lload dX4_findNearest_79 rfl ?_
                    refine g_lload dX4_findNearest_81 rfl ?_
                    refine g_lload_n (i := 3) dX4_findNearest_83 rfl rfl ?_
                    refine g_lload dX4_findNearest_84 rfl ?_
                    refine n_callSi (k_X7_isLess _ _ _ _ _ (by omega) (by omega)) dX4_findNearest_86 lk4_94 sm_X7_isLess rfl rfl rfl (Nat.le_of_ble_eq_true rfl) (fun z c' hz => ?_)
                    obtain ⟨hz2, hz⟩ := hz
                    have hz2 := hz2.symm
                    subst hz2
                    refine g_if_eq 123 dX4_findNearest_89 (by decide) (fun b89 => ?_) (fun b89 => ?_)
                    · skip
                      first
                        | (have hst2 := hst
                           have ffN : (∀ q, q ≠ 28 → q ≠ 29 → (qu (qu c2 28 mk a) 29 mk b) q = c q) ∧ (∀ i, ¬ i = mk → (qu (qu c2 28 mk a) 29 mk b) 28 i = c 28 i ∧ (qu (qu c2 28 mk a) 29 mk b) 29 i = c 29 i) := ⟨fun q q1 q2 => by rw [qu_ne q2, qu_ne q1]; exact ff2.1 q q1 q2, fun i hi => ⟨by show qu c2 28 mk a 28 i = _; rw [qu_off hi]; exact (ff2.2 i hi).1, by rw [qu_off hi]; exact (ff2.2 i hi).2⟩⟩
                           have hsN : ((1 : Int) = 0 ∧ (stp (VA w n wd N (ds wd N kd) L) (VB w n L) L s a b).1 = -1 ∧ (VA w n wd N (ds wd N kd) L a b) = 0 ∧ VB w n L a b = 1) ∨ ((1 : Int) = 1 ∧ ¬ (stp (VA w n wd N (ds wd N kd) L) (VB w n L) L s a b).1 = -1 ∧ Vp L n (stp (VA w n wd N (ds wd N kd) L) (VB w n L) L s a b) ∧ (VA w n wd N (ds wd N kd) L a b) = VA w n wd N (ds wd N kd) L (stp (VA w n wd N (ds wd N kd) L) (VB w n L) L s a b).1 (stp (VA w n wd N (ds wd N kd) L) (VB w n L) L s a b).2 ∧ VB w n L a b = VB w n L (stp (VA w n wd N (ds wd N kd) L) (VB w n L) L s a b).1 (stp (VA w n wd N (ds wd N kd) L) (VB w n L) L s a b).2 ∧ (qu (qu c2 28 mk a) 29 mk b) 28 mk = (stp (VA w n wd N (ds wd N kd) L) (VB w n L) L s a b).1 ∧ (qu (qu c2 28 mk a) 29 mk b) 29 mk = (stp (VA w n wd N (ds wd N kd) L) (VB w n L) L s a b).2) := by
                             rw [hst]
                             exact Or.inr ⟨rfl, by show ¬ a = -1; omega, ⟨⟨a0, by show a < b; omega, by show b < n; omega⟩, la, lb⟩, rfl, rfl, by show qu c2 28 mk a 28 mk = a; rw [qu_eq], by rw [qu_eq]⟩)
                        | (have ffN := ff2
                           have hsN : (fo = 0 ∧ (stp (VA w n wd N (ds wd N kd) L) (VB w n L) L s a b).1 = -1 ∧ ab1 = 0 ∧ be = 1) ∨ (fo = 1 ∧ ¬ (stp (VA w n wd N (ds wd N kd) L) (VB w n L) L s a b).1 = -1 ∧ Vp L n (stp (VA w n wd N (ds wd N kd) L) (VB w n L) L s a b) ∧ ab1 = VA w n wd N (ds wd N kd) L (stp (VA w n wd N (ds wd N kd) L) (VB w n L) L s a b).1 (stp (VA w n wd N (ds wd N kd) L) (VB w n L) L s a b).2 ∧ be = VB w n L (stp (VA w n wd N (ds wd N kd) L) (VB w n L) L s a b).1 (stp (VA w n wd N (ds wd N kd) L) (VB w n L) L s a b).2 ∧ c2 28 mk = (stp (VA w n wd N (ds wd N kd) L) (VB w n L) L s a b).1 ∧ c2 29 mk = (stp (VA w n wd N (ds wd N kd) L) (VB w n L) L s a b).2) := by
                             have hst3 : stp (VA w n wd N (ds wd N kd) L) (VB w n L) L s a b = s := by
                               unfold stp
                               refine if_neg (fun h => ?_)
                               first
                                 | (have := live_cn a0 (show a < n by omega) h.1; omega)
                                 | (have := live_cn (show 0 ≤ b by omega) (show b < n by omega) h.2.1; omega)
                                 | (rcases h.2.2 with h4 | h4
                                    · exact hs3.2.1 h4
                                    · rw [← hs3.2.2.2.1, ← hs3.2.2.2.2.1] at h4; omega)
                             rw [hst3]
                             exact hs2)
                      refine g_iinc8 dX4_findNearest_123 rfl ?_
                      refine g_goto 25 dX4_findNearest_126 (by decide) ?_
                      refine g_fg9 ?_
                      refine g_fg11 ?_
                      exact ih25 _ _ _ _ _ (by omega) (by first | assumption | omega) (by first | assumption | omega) ffN (by rw [hinn]; exact hsN)
                    · skip
                      have hst : stp (VA w n wd N (ds wd N kd) L) (VB w n L) L s a b = (a, b) := by
                        unfold stp
                        refine if_pos ⟨la, lb, ?_⟩
                        first
                          | exact Or.inl (hs2.elim (fun h => h.2.1) (fun h => absurd h.1 (by omega)))
                          | exact Or.inr (by rw [← hs3.2.2.2.1, ← hs3.2.2.2.2.1]; omega)
                      refine g_iconst dX4_findNearest_92 ?_
                      refine g_istore_n2 dX4_findNearest_93 rfl ?_
                      refine g_lload dX4_findNearest_94 rfl ?_
                      refine g_lstore_n3 dX4_findNearest_96 rfl ?_
                      refine g_lload dX4_findNearest_97 rfl ?_
                      refine g_lstore5 dX4_findNearest_99 rfl ?_
                      refine g_aload_n (i := 0) dX4_findNearest_101 rfl rfl ?_
                      refine g_getP dX4_findNearest_102 fl4_9 (by first | rfl | assumption) (by first | decide | (show _ < 62; omega)) (by first | rfl | assumption) ?_
                      refine g_aload_n (i := 0) dX4_findNearest_105 rfl rfl ?_
                      refine g_getI (ji := 11) dX4_findNearest_106 fl4_51 (by first | rfl | assumption) (by first | decide | (show _ < 62; omega)) (by first | rfl | assumption) (by decide) rfl (by first | assumption | rfl) ?_
                      refine g_iload dX4_findNearest_109 rfl ?_
                      refine g_iastore dX4_findNearest_111 (by first | rfl | assumption) (by first | decide | (show _ < 62; omega)) ?_
                      refine g_aload_n (i := 0) dX4_findNearest_112 rfl rfl ?_
                      refine g_getP dX4_findNearest_113 fl4_15 (by first | rfl | assumption) (by first | decide | (show _ < 62; omega)) (by first | rfl | assumption) ?_
                      refine g_aload_n (i := 0) dX4_findNearest_116 rfl rfl ?_
                      refine g_getI (ji := 11) dX4_findNearest_117 fl4_51 (by first | rfl | assumption) (by first | decide | (show _ < 62; omega)) (by first | rfl | assumption) (by decide) rfl (by first | assumption | rfl) ?_
                      refine g_iload dX4_findNearest_120 rfl ?_
                      refine g_iastore dX4_findNearest_122 (by first | rfl | assumption) (by first | decide | (show _ < 62; omega)) ?_
                      first
                        | (have hst2 := hst
                           have ffN : (∀ q, q ≠ 28 → q ≠ 29 → (qu (qu c2 28 mk a) 29 mk b) q = c q) ∧ (∀ i, ¬ i = mk → (qu (qu c2 28 mk a) 29 mk b) 28 i = c 28 i ∧ (qu (qu c2 28 mk a) 29 mk b) 29 i = c 29 i) := ⟨fun q q1 q2 => by rw [qu_ne q2, qu_ne q1]; exact ff2.1 q q1 q2, fun i hi => ⟨by show qu c2 28 mk a 28 i = _; rw [qu_off hi]; exact (ff2.2 i hi).1, by rw [qu_off hi]; exact (ff2.2 i hi).2⟩⟩
                           have hsN : ((1 : Int) = 0 ∧ (stp (VA w n wd N (ds wd N kd) L) (VB w n L) L s a b).1 = -1 ∧ (VA w n wd N (ds wd N kd) L a b) = 0 ∧ VB w n L a b = 1) ∨ ((1 : Int) = 1 ∧ ¬ (stp (VA w n wd N (ds wd N kd) L) (VB w n L) L s a b).1 = -1 ∧ Vp L n (stp (VA w n wd N (ds wd N kd) L) (VB w n L) L s a b) ∧ (VA w n wd N (ds wd N kd) L a b) = VA w n wd N (ds wd N kd) L (stp (VA w n wd N (ds wd N kd) L) (VB w n L) L s a b).1 (stp (VA w n wd N (ds wd N kd) L) (VB w n L) L s a b).2 ∧ VB w n L a b = VB w n L (stp (VA w n wd N (ds wd N kd) L) (VB w n L) L s a b).1 (stp (VA w n wd N (ds wd N kd) L) (VB w n L) L s a b).2 ∧ (qu (qu c2 28 mk a) 29 mk b) 28 mk = (stp (VA w n wd N (ds wd N kd) L) (VB w n L) L s a b).1 ∧ (qu (qu c2 28 mk a) 29 mk b) 29 mk = (stp (VA w n wd N (ds wd N kd) L) (VB w n L) L s a b).2) := by
                             rw [hst]
                             exact Or.inr ⟨rfl, by show ¬ a = -1; omega, ⟨⟨a0, by show a < b; omega, by show b < n; omega⟩, la, lb⟩, rfl, rfl, by show qu c2 28 mk a 28 mk = a; rw [qu_eq], by rw [qu_eq]⟩)
                        | (have ffN := ff2
                           have hsN : (fo = 0 ∧ (stp (VA w n wd N (ds wd N kd) L) (VB w n L) L s a b).1 = -1 ∧ ab1 = 0 ∧ be = 1) ∨ (fo = 1 ∧ ¬ (stp (VA w n wd N (ds wd N kd) L) (VB w n L) L s a b).1 = -1 ∧ Vp L n (stp (VA w n wd N (ds wd N kd) L) (VB w n L) L s a b) ∧ ab1 = VA w n wd N (ds wd N kd) L (stp (VA w n wd N (ds wd N kd) L) (VB w n L) L s a b).1 (stp (VA w n wd N (ds wd N kd) L) (VB w n L) L s a b).2 ∧ be = VB w n L (stp (VA w n wd N (ds wd N kd) L) (VB w n L) L s a b).1 (stp (VA w n wd N (ds wd N kd) L) (VB w n L) L s a b).2 ∧ c2 28 mk = (stp (VA w n wd N (ds wd N kd) L) (VB w n L) L s a b).1 ∧ c2 29 mk = (stp (VA w n wd N (ds wd N kd) L) (VB w n L) L s a b).2) := by
                             have hst3 : stp (VA w n wd N (ds wd N kd) L) (VB w n L) L s a b = s := by
                               unfold stp
                               refine if_neg (fun h => ?_)
                               first
                                 | (have := live_cn a0 (show a < n by omega) h.1; omega)
                                 | (have := live_cn (show 0 ≤ b by omega) (show b < n by omega) h.2.1; omega)
                                 | (rcases h.2.2 with h4 | h4
                                    · exact hs3.2.1 h4
                                    · rw [← hs3.2.2.2.1, ← hs3.2.2.2.2.1] at h4; omega)
                             rw [hst3]
                             exact hs2)
                      refine g_iinc8 dX4_findNearest_123 rfl ?_
                      refine g_goto 25 dX4_findNearest_126 (by decide) ?_
                      refine g_fg9 ?_
                      refine g_fg11 ?_
                      exact ih25 _ _ _ _ _ (by omega) (by first | assumption | omega) (by first | assumption | omega) ffN (by rw [hinn]; exact hsN)
        exact L25 _ _ _ _ _ _ (Nat.lt_succ_self _) (by first | assumption | omega) (by first | assumption | omega) ff (by rw [show (a + 1 - (a + 1)).toNat = 0 by omega]; exact hs)
  exact L10 _ _ _ _ _ _ (Nat.lt_succ_self _) (by first | assumption | omega) (by first | assumption | omega) ⟨fun q _ _ => rfl, fun i _ => ⟨rfl, rfl⟩⟩ (Or.inl ⟨rfl, rfl, rfl, rfl⟩)
set_option maxHeartbeats 4000000 in
set_option maxRecDepth 100000 in
theorem k_X4_merge (c : qC) (n wd kd w : Int) (N : Int → Int → Int) (hT : Tb c n wd N) (d0 : 0 ≤ kd) (d1 : kd < 3) (w0 : 0 ≤ w ∧ w ≤ 3) (L : Int → Int) (hL : LK L) (hw : c 27 10 = w) (hC : SC c w n wd N (ds wd N kd) L) (a b : Int) (a0 : 0 ≤ a) (a1 : a < n) (b0 : 0 ≤ b) (b1 : b < n) (la : L a = a) (lb : L b = b) (hab : ¬ a = b) : qN X4_merge 2 [qP 27, qP 1, qI a, qI b] c (pV (fun c' => (∀ q, q ≠ 34 → q ≠ 35 → q ≠ 36 → c' q = c q) ∧ SC c' w n wd N (ds wd N kd) (mgL L a b))) := by
  have hT0 := hT
  obtain ⟨t1, t2, t3, t4, t5, t6, t7⟩ := hT
  have hD : Db (ds wd N kd) n := fun i j i0 i1 j0 j1 => hT0.bd (kd := kd) i0 i1 j0 j1
  have hca := hC.1 a a0 a1
  have hcb := hC.1 b b0 b1
  have hba := cn_bd (g := L) (n := n) (k := a) t3.1
  have hbb := cn_bd (g := L) (n := n) (k := b) t3.1
  have hsy : ∀ i j, (ds wd N kd) i j = (ds wd N kd) j i := fun i j => ds_comm wd N kd i j
  have h1a := live_cn a0 a1 la
  have h1b := live_cn b0 b1 lb
  refine qN.of [some (qP 27), some (qP 1), some (qI a), some (qI b), none, none, none] (by decide) rfl (fun _ => rfl) (fun _ => Nat.le_of_ble_eq_true rfl) ?_
  refine g_iconst dX4_merge_0 ?_
  refine g_istore4 dX4_merge_1 rfl ?_
  have L3 : ∀ (fu3 : Nat) (o : Int) (c1 : qC), (n - o).toNat < fu3 → (0 ≤ o) → (o ≤ n) → (∀ q, q ≠ 36 → c1 q = c q) → (∀ x, 0 ≤ x → x < o → L x = x → ¬ x = a → ¬ x = b → c1 36 (a * 30 + x) = cmb w (c 36 (a * 30 + x)) (c 36 (b * 30 + x)) ∧ c1 36 (x * 30 + a) = cmb w (c 36 (a * 30 + x)) (c 36 (b * 30 + x))) → (∀ x y, 0 ≤ x → x < n → 0 ≤ y → y < n → (¬ x = a ∨ o ≤ y) → (¬ y = a ∨ o ≤ x) → c1 36 (x * 30 + y) = c 36 (x * 30 + y)) → qG (qYn X4_merge 2 (pV (fun c' => (∀ q, q ≠ 34 → q ≠ 35 → q ≠ 36 → c' q = c q) ∧ SC c' w n wd N (ds wd N kd) (mgL L a b)))) wN 3 [some (qP 27), some (qP 1), some (qI a), some (qI b), some (qI o), none, none] [] c1 := by
    intro fu3
    induction fu3 with
    | zero => intro o c1 hm; exact absurd hm (Nat.not_lt_zero _)
    | succ fu3 ih3 =>
      intro o c1 hm3 o0 o1 ff h1 h2
      have e1 : c1 1 3 = n := by rw [ff 1 (by decide)]; exact t1
      have hw1 : c1 27 10 = w := by rw [ff 27 (by decide)]; exact hw
      refine g_iload dX4_merge_3 rfl ?_
      refine g_aload_n (i := 1) dX4_merge_5 rfl rfl ?_
      refine g_getI (ji := 3) dX4_merge_6 fl4_58 (by first | rfl | assumption) (by first | decide | (show _ < 62; omega)) (by first | rfl | assumption) (by decide) rfl (by first | assumption | rfl) ?_
      refine g_icmp_ge 98 dX4_merge_9 (by decide) (fun b9 => ?_) (fun b9 => ?_)
      · skip
        have ffG := ff
        have hG : ∀ x y, 0 ≤ x → x < n → 0 ≤ y → y < n → mgL L a b x = x → mgL L a b y = y → ¬ x = y → IsG w n (ds wd N kd) (mgL L a b) x y (c1 36 (x * 30 + y)) := fun x y x0 x1 y0 y1 lx ly hxy => by
          obtain ⟨lx1, lx2⟩ := (mg_live la lb hab).mp lx
          obtain ⟨ly1, ly2⟩ := (mg_live la lb hab).mp ly
          by_cases ex : x = a
          · subst ex
            rw [(h1 y y0 (by omega) ly1 (by omega) ly2).1]
            exact IsG.mg hab (by omega) ly2 (hC.2.2 x y x0 x1 y0 y1 la ly1 hxy) (hC.2.2 b y b0 b1 y0 y1 lb ly1 (by omega))
          · by_cases ey : y = a
            · subst ey
              rw [(h1 x x0 (by omega) lx1 ex lx2).2]
              exact (IsG.mg hab ex lx2 (hC.2.2 y x y0 y1 x0 x1 la lx1 (by omega)) (hC.2.2 b x b0 b1 x0 x1 lb lx1 (by omega))).sy hsy
            · rw [h2 x y x0 x1 y0 y1 (by omega) (by omega)]
              exact (hC.2.2 x y x0 x1 y0 y1 lx1 ly1 hxy).mo ex lx2 ey ly2
        generalize hcG : c1 = cG at *
        refine g_iconst dX4_merge_98 ?_
        refine g_istore4 dX4_merge_99 rfl ?_
        have L101 : ∀ (fu101 : Nat) (x : Int) (c1 : qC), (wd - x).toNat < fu101 → (0 ≤ x) → (x ≤ wd) → (∀ q, q ≠ 35 → q ≠ 36 → c1 q = c q) → (c1 36 = cG 36) → (∀ y, 0 ≤ y → y < x → c1 35 (a * 4 + y) = sg L n a (fun r => N r y) + sg L n b (fun r => N r y)) → (∀ q y, 0 ≤ q → q < n → 0 ≤ y → y < wd → (¬ q = a ∨ x ≤ y) → c1 35 (q * 4 + y) = c 35 (q * 4 + y)) → qG (qYn X4_merge 2 (pV (fun c' => (∀ q, q ≠ 34 → q ≠ 35 → q ≠ 36 → c' q = c q) ∧ SC c' w n wd N (ds wd N kd) (mgL L a b)))) wN 101 [some (qP 27), some (qP 1), some (qI a), some (qI b), some (qI x), none, none] [] c1 := by
          intro fu101
          induction fu101 with
          | zero => intro x c1 hm; exact absurd hm (Nat.not_lt_zero _)
          | succ fu101 ih101 =>
            intro x c1 hm101 x0 x1 ff h36 h1 h2
            have e2 : c1 1 2 = wd := by rw [ff 1 (by decide) (by decide)]; exact t2
            refine g_iload dX4_merge_101 rfl ?_
            refine g_aload_n (i := 1) dX4_merge_103 rfl rfl ?_
            refine g_getI (ji := 2) dX4_merge_104 fl4_75 (by first | rfl | assumption) (by first | decide | (show _ < 62; omega)) (by first | rfl | assumption) (by decide) rfl (by first | assumption | rfl) ?_
            refine g_icmp_ge 141 dX4_merge_107 (by decide) (fun b107 => ?_) (fun b107 => ?_)
            · skip
              have hca1 : c1 34 a = cn L n a := by rw [ff 34 (by decide) (by decide)]; exact hca
              have hcb1 : c1 34 b = cn L n b := by rw [ff 34 (by decide) (by decide)]; exact hcb
              refine g_aload_n (i := 0) dX4_merge_141 rfl rfl ?_
              refine g_getP dX4_merge_142 fl4_31 (by first | rfl | assumption) (by first | decide | (show _ < 62; omega)) (by first | rfl | assumption) ?_
              refine g_iload_n (i := 2) dX4_merge_145 rfl rfl ?_
              first | refine g_dup2 dX4_merge_146 rfl rfl ?_ | refine g_dup2l dX4_merge_146 rfl ?_
              refine g_iaload dX4_merge_147 rfl (by decide) ?_
              rw [hca1]
              skip -- ?_
              refine g_aload_n (i := 0) dX4_merge_148 rfl rfl ?_
              refine g_getP dX4_merge_149 fl4_31 (by first | rfl | assumption) (by first | decide | (show _ < 62; omega)) (by first | rfl | assumption) ?_
              refine g_iload_n (i := 3) dX4_merge_152 rfl rfl ?_
              refine g_iaload dX4_merge_153 rfl (by decide) ?_
              rw [hcb1]
              skip -- ?_
              refine g_iadd dX4_merge_154 ?_
              refine g_iastore dX4_merge_155 (by first | rfl | assumption) (by first | decide | (show _ < 62; omega)) ?_
              refine g_aload_n (i := 0) dX4_merge_156 rfl rfl ?_
              refine g_getP dX4_merge_157 fl4_31 (by first | rfl | assumption) (by first | decide | (show _ < 62; omega)) (by first | rfl | assumption) ?_
              refine g_iload_n (i := 3) dX4_merge_160 rfl rfl ?_
              refine g_iconst dX4_merge_161 ?_
              refine g_iastore dX4_merge_162 (by first | rfl | assumption) (by first | decide | (show _ < 62; omega)) ?_
              exact n_retv dX4_merge_163 rfl (by
                      refine ⟨fun q q1 q2 q3 => by rw [qu_ne q1, qu_ne q1]; exact ff q q2 q3, fun x x0 x1 => ?_, fun q x q0 q1 lq x0 x1 => ?_, fun x y x0 x1 y0 y1 lx ly hxy => ?_⟩
                      · rw [qu_at]
                        by_cases e : x = b
                        · rw [if_pos e, e, cn_mb t3.1 hab]
                        · rw [if_neg e, qu_at]
                          by_cases e2 : x = a
                          · rw [if_pos e2, e2, cn_mg hab]
                          · rw [if_neg e2, cn_mo e2 e, ff 34 (by decide) (by decide)]; exact hC.1 x x0 x1
                      · show c1 35 (q * 4 + x) = _
                        obtain ⟨lq1, lq2⟩ := (mg_live la lb hab).mp lq
                        by_cases e : q = a
                        · rw [e, sg_mg hab]; exact h1 x x0 (by omega)
                        · rw [sg_mo e lq2, h2 q x q0 q1 x0 x1 (by omega)]; exact hC.2.1 q x q0 q1 lq1 x0 x1
                      · show IsG w n _ _ x y (c1 36 (x * 30 + y))
                        rw [h36]
                        exact hG x y x0 x1 y0 y1 lx ly hxy)
            · skip
              have hta : c1 35 (a * 4 + x) = sg L n a (fun r => N r x) := by rw [h2 a x a0 a1 x0 (by omega) (by omega)]; exact hC.2.1 a x a0 a1 la x0 (by omega)
              have htb : c1 35 (b * 4 + x) = sg L n b (fun r => N r x) := by rw [h2 b x b0 b1 x0 (by omega) (by omega)]; exact hC.2.1 b x b0 b1 lb x0 (by omega)
              refine g_aload_n (i := 0) dX4_merge_110 rfl rfl ?_
              refine g_getP dX4_merge_111 fl4_34 (by first | rfl | assumption) (by first | decide | (show _ < 62; omega)) (by first | rfl | assumption) ?_
              refine g_iload_n (i := 2) dX4_merge_114 rfl rfl ?_
              refine g_iconst dX4_merge_115 ?_
              refine g_imul dX4_merge_116 ?_
              refine g_iload dX4_merge_117 rfl ?_
              refine g_iadd dX4_merge_119 ?_
              first | refine g_dup2 dX4_merge_120 rfl rfl ?_ | refine g_dup2l dX4_merge_120 rfl ?_
              refine g_laload dX4_merge_121 rfl (by decide) ?_
              rw [hta]
              skip -- ?_
              refine g_aload_n (i := 0) dX4_merge_122 rfl rfl ?_
              refine g_getP dX4_merge_123 fl4_34 (by first | rfl | assumption) (by first | decide | (show _ < 62; omega)) (by first | rfl | assumption) ?_
              refine g_iload_n (i := 3) dX4_merge_126 rfl rfl ?_
              refine g_iconst dX4_merge_127 ?_
              refine g_imul dX4_merge_128 ?_
              refine g_iload dX4_merge_129 rfl ?_
              refine g_iadd dX4_merge_131 ?_
              refine g_laload dX4_merge_132 rfl (by decide) ?_
              rw [htb]
              skip -- ?_
              refine g_ladd dX4_merge_133 ?_
              refine g_lastore dX4_merge_134 (by first | rfl | assumption) (by first | decide | (show _ < 62; omega)) ?_
              refine g_iinc4 dX4_merge_135 rfl ?_
              refine g_goto 101 dX4_merge_138 (by decide) ?_
              exact ih101 _ _ (by omega) (by first | assumption | omega) (by first | assumption | omega) (fun q q1 q2 => by rw [qu_ne q1]; exact ff q q1 q2) h36 (fun y y0 y1 => by
                      rw [qu_at]; split
                      · rw [show y = x by omega]
                      · exact h1 y y0 (by omega)) (fun q y q0 q1 y0 y1 h => by rw [qu_off (by omega)]; exact h2 q y q0 q1 y0 y1 (by omega))
        exact L101 _ _ _ (Nat.lt_succ_self _) (by first | assumption | omega) (by first | assumption | omega) (fun q _ q2 => ffG q q2) rfl (fun y y0 y1 => by omega) (fun q y _ _ _ _ _ => by rw [ffG 35 (by decide)])
      · skip
        have hco : c1 34 o = cn L n o := by rw [ff 34 (by decide)]; exact hC.1 o o0 (by omega)
        have hbo := cn_bd (g := L) (n := n) (k := o) t3.1
        refine g_aload_n (i := 0) dX4_merge_12 rfl rfl ?_
        refine g_getP dX4_merge_13 fl4_31 (by first | rfl | assumption) (by first | decide | (show _ < 62; omega)) (by first | rfl | assumption) ?_
        refine g_iload dX4_merge_16 rfl ?_
        refine g_iaload dX4_merge_18 rfl (by decide) ?_
        rw [hco]
        skip -- ?_
        refine g_if_le 92 dX4_merge_19 (by decide) (fun b19 => ?_) (fun b19 => ?_)
        · skip
          first
            | (have h1NN := h1N)
            | (have h1O : ∀ x, 0 ≤ x → x < o + 1 → L x = x → ¬ x = a → ¬ x = b → c1 36 (a * 30 + x) = cmb w (c 36 (a * 30 + x)) (c 36 (b * 30 + x)) ∧ c1 36 (x * 30 + a) = cmb w (c 36 (a * 30 + x)) (c 36 (b * 30 + x)) := fun x x0 x1 lx xa xb => by
                by_cases e : x = o
                · subst e
                  first
                    | (exfalso; have := live_cn x0 (show x < n by omega) lx; omega)
                    | (exfalso; omega)
                · exact h1 x x0 (by omega) lx xa xb)
          refine g_iinc4 dX4_merge_92 rfl ?_
          refine g_goto 3 dX4_merge_95 (by decide) ?_
          exact ih3 _ _ (by omega) (by first | assumption | omega) (by first | assumption | omega) (by first | exact ff | exact fun q hq => by rw [qu_ne hq, qu_ne hq]; exact ff q hq) (by first | exact h1N | exact h1O) (by first | exact h2N | exact fun x y x0 x1 y0 y1 e1 e2 => h2 x y x0 x1 y0 y1 (by omega) (by omega))
        · skip
          refine g_iload dX4_merge_22 rfl ?_
          refine g_iload_n (i := 2) dX4_merge_24 rfl rfl ?_
          refine g_icmp_eq 92 dX4_merge_25 (by decide) (fun b25 => ?_) (fun b25 => ?_)
          · skip
            first
              | (have h1NN := h1N)
              | (have h1O : ∀ x, 0 ≤ x → x < o + 1 → L x = x → ¬ x = a → ¬ x = b → c1 36 (a * 30 + x) = cmb w (c 36 (a * 30 + x)) (c 36 (b * 30 + x)) ∧ c1 36 (x * 30 + a) = cmb w (c 36 (a * 30 + x)) (c 36 (b * 30 + x)) := fun x x0 x1 lx xa xb => by
                  by_cases e : x = o
                  · subst e
                    first
                      | (exfalso; have := live_cn x0 (show x < n by omega) lx; omega)
                      | (exfalso; omega)
                  · exact h1 x x0 (by omega) lx xa xb)
            refine g_iinc4 dX4_merge_92 rfl ?_
            refine g_goto 3 dX4_merge_95 (by decide) ?_
            exact ih3 _ _ (by omega) (by first | assumption | omega) (by first | assumption | omega) (by first | exact ff | exact fun q hq => by rw [qu_ne hq, qu_ne hq]; exact ff q hq) (by first | exact h1N | exact h1O) (by first | exact h2N | exact fun x y x0 x1 y0 y1 e1 e2 => h2 x y x0 x1 y0 y1 (by omega) (by omega))
          · skip
            refine g_iload dX4_merge_28 rfl ?_
            refine g_iload_n (i := 3) dX4_merge_30 rfl rfl ?_
            refine g_icmp_eq 92 dX4_merge_31 (by decide) (fun b31 => ?_) (fun b31 => ?_)
            · skip
              first
                | (have h1NN := h1N)
                | (have h1O : ∀ x, 0 ≤ x → x < o + 1 → L x = x → ¬ x = a → ¬ x = b → c1 36 (a * 30 + x) = cmb w (c 36 (a * 30 + x)) (c 36 (b * 30 + x)) ∧ c1 36 (x * 30 + a) = cmb w (c 36 (a * 30 + x)) (c 36 (b * 30 + x)) := fun x x0 x1 lx xa xb => by
                    by_cases e : x = o
                    · subst e
                      first
                        | (exfalso; have := live_cn x0 (show x < n by omega) lx; omega)
                        | (exfalso; omega)
                    · exact h1 x x0 (by omega) lx xa xb)
              refine g_iinc4 dX4_merge_92 rfl ?_
              refine g_goto 3 dX4_merge_95 (by decide) ?_
              exact ih3 _ _ (by omega) (by first | assumption | omega) (by first | assumption | omega) (by first | exact ff | exact fun q hq => by rw [qu_ne hq, qu_ne hq]; exact ff q hq) (by first | exact h1N | exact h1O) (by first | exact h2N | exact fun x y x0 x1 y0 y1 e1 e2 => h2 x y x0 x1 y0 y1 (by omega) (by omega))
            · skip
              have lo : L o = o := Classical.byContradiction (fun h => by have := dead_cn hL t3.1 h; omega)
              have hr1 := h2 a o a0 a1 o0 (by omega) (by omega) (by omega)
              have hr2 := h2 b o b0 b1 o0 (by omega) (by omega) (by omega)
              have hg1 := (hC.2.2 a o a0 a1 o0 (by omega) la lo (by omega)).bd hD t3
              have hg2 := (hC.2.2 b o b0 b1 o0 (by omega) lb lo (by omega)).bd hD t3
              refine g_aload_n (i := 0) dX4_merge_34 rfl rfl ?_
              refine g_aload_n (i := 0) dX4_merge_35 rfl rfl ?_
              refine g_getP dX4_merge_36 fl4_37 (by first | rfl | assumption) (by first | decide | (show _ < 62; omega)) (by first | rfl | assumption) ?_
              refine g_iload_n (i := 2) dX4_merge_39 rfl rfl ?_
              refine g_bipush dX4_merge_40 (by decide) ?_
              refine g_imul dX4_merge_42 ?_
              refine g_iload dX4_merge_43 rfl ?_
              refine g_iadd dX4_merge_45 ?_
              refine g_laload dX4_merge_46 rfl (by decide) ?_
              rw [hr1]
              skip -- ?_
              refine g_aload_n (i := 0) dX4_merge_47 rfl rfl ?_
              refine g_getP dX4_merge_48 fl4_37 (by first | rfl | assumption) (by first | decide | (show _ < 62; omega)) (by first | rfl | assumption) ?_
              refine g_iload_n (i := 3) dX4_merge_51 rfl rfl ?_
              refine g_bipush dX4_merge_52 (by decide) ?_
              refine g_imul dX4_merge_54 ?_
              refine g_iload dX4_merge_55 rfl ?_
              refine g_iadd dX4_merge_57 ?_
              refine g_laload dX4_merge_58 rfl (by decide) ?_
              rw [hr2]
              skip -- ?_
              refine n_callVj (k_X4_gapToBoth _ w _ _ w0 hw1 (by omega) (by omega)) dX4_merge_59 lk4_109 im_X4_gapToBoth (by first | rfl | assumption) (by first | decide | (show _ < 62; omega)) rfl rfl rfl rfl (Nat.le_of_ble_eq_true rfl) (fun z c' hz => ?_)
              obtain ⟨rfl, hz2⟩ := hz
              have hz2 := hz2.symm
              subst hz2
              refine g_lstore5 dX4_merge_62 rfl ?_
              refine g_aload_n (i := 0) dX4_merge_64 rfl rfl ?_
              refine g_getP dX4_merge_65 fl4_37 (by first | rfl | assumption) (by first | decide | (show _ < 62; omega)) (by first | rfl | assumption) ?_
              refine g_iload_n (i := 2) dX4_merge_68 rfl rfl ?_
              refine g_bipush dX4_merge_69 (by decide) ?_
              refine g_imul dX4_merge_71 ?_
              refine g_iload dX4_merge_72 rfl ?_
              refine g_iadd dX4_merge_74 ?_
              refine g_lload dX4_merge_75 rfl ?_
              refine g_lastore dX4_merge_77 (by first | rfl | assumption) (by first | decide | (show _ < 62; omega)) ?_
              have h1N : ∀ x, 0 ≤ x → x < o + 1 → L x = x → ¬ x = a → ¬ x = b → qu (qu c1 36 (a * 30 + o) (cmb w (c 36 (a * 30 + o)) (c 36 (b * 30 + o)))) 36 (o * 30 + a) (cmb w (c 36 (a * 30 + o)) (c 36 (b * 30 + o))) 36 (a * 30 + x) = cmb w (c 36 (a * 30 + x)) (c 36 (b * 30 + x)) ∧ qu (qu c1 36 (a * 30 + o) (cmb w (c 36 (a * 30 + o)) (c 36 (b * 30 + o)))) 36 (o * 30 + a) (cmb w (c 36 (a * 30 + o)) (c 36 (b * 30 + o))) 36 (x * 30 + a) = cmb w (c 36 (a * 30 + x)) (c 36 (b * 30 + x)) := fun x x0 x1 lx xa xb => by
                by_cases e : x = o
                · subst e
                  exact ⟨by rw [qu_off (by omega), qu_eq], by rw [qu_eq]⟩
                · have h5 := h1 x x0 (by omega) lx xa xb
                  exact ⟨by rw [qu_off (by omega), qu_off (by omega)]; exact h5.1, by rw [qu_off (by omega), qu_off (by omega)]; exact h5.2⟩
              have h2N : ∀ x y, 0 ≤ x → x < n → 0 ≤ y → y < n → (¬ x = a ∨ o + 1 ≤ y) → (¬ y = a ∨ o + 1 ≤ x) → qu (qu c1 36 (a * 30 + o) (cmb w (c 36 (a * 30 + o)) (c 36 (b * 30 + o)))) 36 (o * 30 + a) (cmb w (c 36 (a * 30 + o)) (c 36 (b * 30 + o))) 36 (x * 30 + y) = c 36 (x * 30 + y) := fun x y x0 x1 y0 y1 e1 e2 => by
                rw [qu_off (by omega), qu_off (by omega)]
                exact h2 x y x0 x1 y0 y1 (by omega) (by omega)
              refine g_aload_n (i := 0) dX4_merge_78 rfl rfl ?_
              refine g_getP dX4_merge_79 fl4_37 (by first | rfl | assumption) (by first | decide | (show _ < 62; omega)) (by first | rfl | assumption) ?_
              refine g_iload dX4_merge_82 rfl ?_
              refine g_bipush dX4_merge_84 (by decide) ?_
              refine g_imul dX4_merge_86 ?_
              refine g_iload_n (i := 2) dX4_merge_87 rfl rfl ?_
              refine g_iadd dX4_merge_88 ?_
              refine g_lload dX4_merge_89 rfl ?_
              refine g_lastore dX4_merge_91 (by first | rfl | assumption) (by first | decide | (show _ < 62; omega)) ?_
              first
                | (have h1NN := h1N)
                | (have h1O : ∀ x, 0 ≤ x → x < o + 1 → L x = x → ¬ x = a → ¬ x = b → c1 36 (a * 30 + x) = cmb w (c 36 (a * 30 + x)) (c 36 (b * 30 + x)) ∧ c1 36 (x * 30 + a) = cmb w (c 36 (a * 30 + x)) (c 36 (b * 30 + x)) := fun x x0 x1 lx xa xb => by
                    by_cases e : x = o
                    · subst e
                      first
                        | (exfalso; have := live_cn x0 (show x < n by omega) lx; omega)
                        | (exfalso; omega)
                    · exact h1 x x0 (by omega) lx xa xb)
              refine g_iinc4 dX4_merge_92 rfl ?_
              refine g_goto 3 dX4_merge_95 (by decide) ?_
              refine g_fg5 ?_
              exact ih3 _ _ (by omega) (by first | assumption | omega) (by first | assumption | omega) (by first | exact ff | exact fun q hq => by rw [qu_ne hq, qu_ne hq]; exact ff q hq) (by first | exact h1N | exact h1O) (by first | exact h2N | exact fun x y x0 x1 y0 y1 e1 e2 => h2 x y x0 x1 y0 y1 (by omega) (by omega))
  exact L3 _ _ _ (Nat.lt_succ_self _) (by first | assumption | omega) (by first | assumption | omega) (fun q _ => rfl) (fun x q0 q1 => by omega) (fun x y _ _ _ _ _ _ => rfl)
set_option maxHeartbeats 4000000 in
set_option maxRecDepth 100000 in
theorem k_X4_build (c : qC) (n wd kd w : Int) (N : Int → Int → Int) (hT : Tb c n wd N) (d0 : 0 ≤ kd) (d1 : kd < 3) (w0 : 0 ≤ w ∧ w ≤ 3) (n1 : 1 ≤ n) : qN X4_build 3 [qP 27, qP 1, qI w, qI kd] c (pI (fun z c' => z = n - 1 ∧ (∀ q, (q < 27 ∨ 37 < q) → c' q = c q) ∧ CTr c' n (some (n - 1, (JT w n wd N (ds wd N kd)))))) := by
  have hT0 := hT
  obtain ⟨t1, t2, t3, t4, t5, t6, t7⟩ := hT
  have hD : Db (ds wd N kd) n := fun i j i0 i1 j0 j1 => hT0.bd (kd := kd) i0 i1 j0 j1
  have hTq : Tb (qu c 27 10 w) n wd N := hT0.fr (qu_ne (by decide)) (qu_ne (by decide)) (qu_ne (by decide))
  refine qN.of [some (qP 27), some (qP 1), some (qI w), some (qI kd), none] (by decide) rfl (fun _ => rfl) (fun _ => Nat.le_of_ble_eq_true rfl) ?_
  refine g_aload_n (i := 0) dX4_build_0 rfl rfl ?_
  refine g_iload_n (i := 2) dX4_build_1 rfl rfl ?_
  refine g_putI 10 dX4_build_2 fl4_47 fw4_10 (by first | rfl | assumption) (by first | decide | (show _ < 62; omega)) (by first | rfl | assumption) (by decide) rfl ?_
  refine g_aload_n (i := 0) dX4_build_5 rfl rfl ?_
  refine g_aload_n (i := 1) dX4_build_6 rfl rfl ?_
  refine g_iload_n (i := 3) dX4_build_7 rfl rfl ?_
  refine n_callVv (k_X4_placeRows _ n wd kd w N hTq d0 d1 w0) dX4_build_8 lk4_54 im_X4_placeRows (by first | rfl | assumption) (by first | decide | (show _ < 62; omega)) rfl rfl rfl rfl (Nat.le_of_ble_eq_true rfl) (fun c0 hz => ?_)
  obtain ⟨v1, v2⟩ := hz
  refine g_aload_n (i := 0) dX4_build_11 rfl rfl ?_
  refine g_iconst dX4_build_12 ?_
  refine g_putI 11 dX4_build_13 fl4_51 fw4_11 (by first | rfl | assumption) (by first | decide | (show _ < 62; omega)) (by first | rfl | assumption) (by decide) rfl ?_
  refine g_iconst dX4_build_16 ?_
  refine g_istore4 dX4_build_17 rfl ?_
  have L19 : ∀ (fu19 : Nat) (j : Int) (c1 : qC), (n - j).toNat < fu19 → (0 ≤ j) → (j ≤ n - 1) → (∀ q, (q < 27 ∨ 37 < q) → c1 q = c q) → (c1 27 10 = w) → (c1 27 11 = j) → (SC c1 w n wd N (ds wd N kd) (TL w n wd N (ds wd N kd) j.toNat)) → (∀ i, 0 ≤ i → i < j → c1 28 i = (JT w n wd N (ds wd N kd)) 0 i ∧ c1 29 i = (JT w n wd N (ds wd N kd)) 1 i ∧ c1 30 i = (JT w n wd N (ds wd N kd)) 2 i ∧ c1 31 i = (JT w n wd N (ds wd N kd)) 3 i ∧ c1 32 i = (JT w n wd N (ds wd N kd)) 4 i) → qG (qYn X4_build 3 (pI (fun z c' => z = n - 1 ∧ (∀ q, (q < 27 ∨ 37 < q) → c' q = c q) ∧ CTr c' n (some (n - 1, (JT w n wd N (ds wd N kd))))))) wN 19 [some (qP 27), some (qP 1), some (qI w), some (qI kd), some (qI (j + 1))] [] c1 := by
    intro fu19
    induction fu19 with
    | zero => intro j c1 hm; exact absurd hm (Nat.not_lt_zero _)
    | succ fu19 ih19 =>
      intro j c1 hm19 j0 j1 ff hw hmk hC hJ
      have hT1 : Tb c1 n wd N := hT0.fr (ff 1 (by decide)) (ff 2 (by decide)) (ff 3 (by decide))
      have e1 : c1 1 3 = n := hT1.1
      have hL := TL_ok (w := w) (n := n) (wd := wd) (N := N) (D := (ds wd N kd)) j0 j1
      refine g_iload dX4_build_19 rfl ?_
      refine g_aload_n (i := 1) dX4_build_21 rfl rfl ?_
      refine g_getI (ji := 3) dX4_build_22 fl4_58 (by first | rfl | assumption) (by first | decide | (show _ < 62; omega)) (by first | rfl | assumption) (by decide) rfl (by first | assumption | rfl) ?_
      refine g_icmp_ge 95 dX4_build_25 (by decide) (fun b25 => ?_) (fun b25 => ?_)
      · skip
        refine g_aload_n (i := 0) dX4_build_95 rfl rfl ?_
        refine g_getI (ji := 11) dX4_build_96 fl4_51 (by first | rfl | assumption) (by first | decide | (show _ < 62; omega)) (by first | rfl | assumption) (by decide) rfl (by first | assumption | rfl) ?_
        exact n_reti dX4_build_99 rfl (by
                have hjn : j = n - 1 := by omega
                have hok := JT_ok (w := w) (n := n) (wd := wd) (N := N) (D := (ds wd N kd)) (n - 1).toNat (by omega)
                refine ⟨by omega, ff, ⟨by rw [hmk]; exact hjn, rfl, n1, fun i i0 i1 => ?_⟩⟩
                have i2 : i < n - 1 := i1
                have h5 := hok i i0 (by omega)
                refine ⟨hJ i i0 (by omega), h5.1.1, h5.1.2.1, h5.1.2.2, ?_⟩
                show iR (cn (TL w n wd N (ds wd N kd) i.toNat) n (pr w n wd N (ds wd N kd) (TL w n wd N (ds wd N kd) i.toNat)).1 + cn (TL w n wd N (ds wd N kd) i.toNat) n (pr w n wd N (ds wd N kd) (TL w n wd N (ds wd N kd) i.toNat)).2)
                have h6 := cn_bd (g := TL w n wd N (ds wd N kd) i.toNat) (n := n) (k := (pr w n wd N (ds wd N kd) (TL w n wd N (ds wd N kd) i.toNat)).1) t3.1
                have h7 := cn_bd (g := TL w n wd N (ds wd N kd) i.toNat) (n := n) (k := (pr w n wd N (ds wd N kd) (TL w n wd N (ds wd N kd) i.toNat)).2) t3.1
                omega)
      · skip
        have hprV := TL_pr (w := w) (n := n) (wd := wd) (N := N) (D := (ds wd N kd)) j0 (by omega)
        refine g_aload_n (i := 0) dX4_build_28 rfl rfl ?_
        refine g_aload_n (i := 1) dX4_build_29 rfl rfl ?_
        refine n_callVv (k_X4_findNearest _ n wd kd w N hT1 d0 d1 w0 (TL w n wd N (ds wd N kd) j.toNat) hL hw hC j (by omega) hmk hprV) dX4_build_30 lk4_63 im_X4_findNearest (by first | rfl | assumption) (by first | decide | (show _ < 62; omega)) rfl rfl rfl rfl (Nat.le_of_ble_eq_true rfl) (fun c2 hz => ?_)
        obtain ⟨y1, y2, y3, y4, y5, y6⟩ := hz
        have y3' : c2 28 j = (pr w n wd N (ds wd N kd) (TL w n wd N (ds wd N kd) j.toNat)).1 := y3
        have y4' : c2 29 j = (pr w n wd N (ds wd N kd) (TL w n wd N (ds wd N kd) j.toNat)).2 := y4
        have hT2 : Tb c2 n wd N := hT1.fr (y1 1 (by decide) (by decide) (by decide) (by decide) (by decide)) (y1 2 (by decide) (by decide) (by decide) (by decide) (by decide)) (y1 3 (by decide) (by decide) (by decide) (by decide) (by decide))
        have hw2 : c2 27 10 = w := by rw [y1 27 (by decide) (by decide) (by decide) (by decide) (by decide)]; exact hw
        have hmk2 : c2 27 11 = j := by rw [y1 27 (by decide) (by decide) (by decide) (by decide) (by decide)]; exact hmk
        have hC2 : SC c2 w n wd N (ds wd N kd) (TL w n wd N (ds wd N kd) j.toNat) := hC.fr (y1 34 (by decide) (by decide) (by decide) (by decide) (by decide)) (y1 35 (by decide) (by decide) (by decide) (by decide) (by decide)) (y1 36 (by decide) (by decide) (by decide) (by decide) (by decide))
        have hpb := hprV.1
        refine g_aload_n (i := 0) dX4_build_33 rfl rfl ?_
        refine g_aload_n (i := 1) dX4_build_34 rfl rfl ?_
        refine g_aload_n (i := 0) dX4_build_35 rfl rfl ?_
        refine g_getP dX4_build_36 fl4_9 (by first | rfl | assumption) (by first | decide | (show _ < 62; omega)) (by first | rfl | assumption) ?_
        refine g_aload_n (i := 0) dX4_build_39 rfl rfl ?_
        refine g_getI (ji := 11) dX4_build_40 fl4_51 (by first | rfl | assumption) (by first | decide | (show _ < 62; omega)) (by first | rfl | assumption) (by decide) rfl (by first | assumption | rfl) ?_
        refine g_iaload dX4_build_43 rfl (by decide) ?_
        rw [y3']
        skip -- ?_
        refine g_aload_n (i := 0) dX4_build_44 rfl rfl ?_
        refine g_getP dX4_build_45 fl4_15 (by first | rfl | assumption) (by first | decide | (show _ < 62; omega)) (by first | rfl | assumption) ?_
        refine g_aload_n (i := 0) dX4_build_48 rfl rfl ?_
        refine g_getI (ji := 11) dX4_build_49 fl4_51 (by first | rfl | assumption) (by first | decide | (show _ < 62; omega)) (by first | rfl | assumption) (by decide) rfl (by first | assumption | rfl) ?_
        refine g_iaload dX4_build_52 rfl (by decide) ?_
        rw [y4']
        skip -- ?_
        refine n_callVv (k_X4_merge _ n wd kd w N hT2 d0 d1 w0 (TL w n wd N (ds wd N kd) j.toNat) hL hw2 hC2 _ _ (by omega) (by omega) (by omega) (by omega) hprV.2.1 hprV.2.2 (by omega)) dX4_build_53 lk4_67 im_X4_merge (by first | rfl | assumption) (by first | decide | (show _ < 62; omega)) rfl rfl rfl rfl (Nat.le_of_ble_eq_true rfl) (fun c3 hz => ?_)
        obtain ⟨x1, x2⟩ := hz
        have hmk3 : c3 27 11 = j := by rw [x1 27 (by decide) (by decide) (by decide)]; exact hmk2
        have y3'' : c3 28 j = (pr w n wd N (ds wd N kd) (TL w n wd N (ds wd N kd) j.toNat)).1 := by rw [x1 28 (by decide) (by decide) (by decide)]; exact y3'
        have hsz : c3 34 (pr w n wd N (ds wd N kd) (TL w n wd N (ds wd N kd) j.toNat)).1 = cn (TL w n wd N (ds wd N kd) j.toNat) n (pr w n wd N (ds wd N kd) (TL w n wd N (ds wd N kd) j.toNat)).1 + cn (TL w n wd N (ds wd N kd) j.toNat) n (pr w n wd N (ds wd N kd) (TL w n wd N (ds wd N kd) j.toNat)).2 := by rw [x2.1 _ hpb.1 (by omega), cn_mg (by omega)]
        refine g_aload_n (i := 0) dX4_build_56 rfl rfl ?_
        refine g_getP dX4_build_57 fl4_18 (by first | rfl | assumption) (by first | decide | (show _ < 62; omega)) (by first | rfl | assumption) ?_
        refine g_aload_n (i := 0) dX4_build_60 rfl rfl ?_
        refine g_getI (ji := 11) dX4_build_61 fl4_51 (by first | rfl | assumption) (by first | decide | (show _ < 62; omega)) (by first | rfl | assumption) (by decide) rfl (by first | assumption | rfl) ?_
        refine g_aload_n (i := 0) dX4_build_64 rfl rfl ?_
        refine g_getP dX4_build_65 fl4_31 (by first | rfl | assumption) (by first | decide | (show _ < 62; omega)) (by first | rfl | assumption) ?_
        refine g_aload_n (i := 0) dX4_build_68 rfl rfl ?_
        refine g_getP dX4_build_69 fl4_9 (by first | rfl | assumption) (by first | decide | (show _ < 62; omega)) (by first | rfl | assumption) ?_
        refine g_aload_n (i := 0) dX4_build_72 rfl rfl ?_
        refine g_getI (ji := 11) dX4_build_73 fl4_51 (by first | rfl | assumption) (by first | decide | (show _ < 62; omega)) (by first | rfl | assumption) (by decide) rfl (by first | assumption | rfl) ?_
        refine g_iaload dX4_build_76 rfl (by decide) ?_
        rw [y3'']
        skip -- ?_
        refine g_iaload dX4_build_77 rfl (by decide) ?_
        rw [hsz]
        skip -- ?_
        refine g_iastore dX4_build_78 (by first | rfl | assumption) (by first | decide | (show _ < 62; omega)) ?_
        refine g_aload_n (i := 0) dX4_build_79 rfl rfl ?_
        refine g_dup dX4_build_80 rfl ?_
        refine g_getI (ji := 11) dX4_build_81 fl4_51 (by first | rfl | assumption) (by first | decide | (show _ < 62; omega)) (by first | rfl | assumption) (by decide) rfl (by first | assumption | rfl) ?_
        refine g_iconst dX4_build_84 ?_
        refine g_iadd dX4_build_85 ?_
        refine g_putI 11 dX4_build_86 fl4_51 fw4_11 (by first | rfl | assumption) (by first | decide | (show _ < 62; omega)) (by first | rfl | assumption) (by decide) rfl ?_
        have hJN : ∀ i, 0 ≤ i → i < j + 1 → qu (qu c3 30 j (cn (TL w n wd N (ds wd N kd) j.toNat) n (pr w n wd N (ds wd N kd) (TL w n wd N (ds wd N kd) j.toNat)).1 + cn (TL w n wd N (ds wd N kd) j.toNat) n (pr w n wd N (ds wd N kd) (TL w n wd N (ds wd N kd) j.toNat)).2)) 27 11 (j + 1) 28 i = (JT w n wd N (ds wd N kd)) 0 i ∧ qu (qu c3 30 j (cn (TL w n wd N (ds wd N kd) j.toNat) n (pr w n wd N (ds wd N kd) (TL w n wd N (ds wd N kd) j.toNat)).1 + cn (TL w n wd N (ds wd N kd) j.toNat) n (pr w n wd N (ds wd N kd) (TL w n wd N (ds wd N kd) j.toNat)).2)) 27 11 (j + 1) 29 i = (JT w n wd N (ds wd N kd)) 1 i ∧ qu (qu c3 30 j (cn (TL w n wd N (ds wd N kd) j.toNat) n (pr w n wd N (ds wd N kd) (TL w n wd N (ds wd N kd) j.toNat)).1 + cn (TL w n wd N (ds wd N kd) j.toNat) n (pr w n wd N (ds wd N kd) (TL w n wd N (ds wd N kd) j.toNat)).2)) 27 11 (j + 1) 30 i = (JT w n wd N (ds wd N kd)) 2 i ∧ qu (qu c3 30 j (cn (TL w n wd N (ds wd N kd) j.toNat) n (pr w n wd N (ds wd N kd) (TL w n wd N (ds wd N kd) j.toNat)).1 + cn (TL w n wd N (ds wd N kd) j.toNat) n (pr w n wd N (ds wd N kd) (TL w n wd N (ds wd N kd) j.toNat)).2)) 27 11 (j + 1) 31 i = (JT w n wd N (ds wd N kd)) 3 i ∧ qu (qu c3 30 j (cn (TL w n wd N (ds wd N kd) j.toNat) n (pr w n wd N (ds wd N kd) (TL w n wd N (ds wd N kd) j.toNat)).1 + cn (TL w n wd N (ds wd N kd) j.toNat) n (pr w n wd N (ds wd N kd) (TL w n wd N (ds wd N kd) j.toNat)).2)) 27 11 (j + 1) 32 i = (JT w n wd N (ds wd N kd)) 4 i := fun i i0 i1 => by
          have f28 := x1 28 (by decide) (by decide) (by decide)
          have f29 := x1 29 (by decide) (by decide) (by decide)
          have f30 := x1 30 (by decide) (by decide) (by decide)
          have f31 := x1 31 (by decide) (by decide) (by decide)
          have f32 := x1 32 (by decide) (by decide) (by decide)
          show c3 28 i = _ ∧ c3 29 i = _ ∧ qu c3 30 j _ 30 i = _ ∧ c3 31 i = _ ∧ c3 32 i = _
          rw [f28, f29, f31, f32]
          by_cases e : i = j
          · subst e
            exact ⟨y3, y4, by rw [qu_eq]; rfl, y5, y6⟩
          · have h5 := hJ i i0 (by omega)
            have h6 := y2 i e
            rw [qu_off e, f30, y1 30 (by decide) (by decide) (by decide) (by decide) (by decide), h6.1, h6.2.1, h6.2.2.1, h6.2.2.2]
            exact h5
        refine g_iinc4 dX4_build_89 rfl ?_
        refine g_goto 19 dX4_build_92 (by decide) ?_
        exact ih19 (j + 1) _ (by omega) (by first | assumption | omega) (by first | assumption | omega) (fun q hq => by rw [qu_ne (by omega), qu_ne (by omega), x1 q (by omega) (by omega) (by omega), y1 q (by omega) (by omega) (by omega) (by omega) (by omega)]; exact ff q hq) (by show c3 27 10 = w; rw [x1 27 (by decide) (by decide) (by decide), y1 27 (by decide) (by decide) (by decide) (by decide) (by decide)]; exact hw) (by rw [qu_eq]) (by rw [TL_s j0]; exact x2.fr rfl rfl rfl) hJN
  exact L19 _ 0 _ (Nat.lt_succ_self _) (by first | assumption | omega) (by first | assumption | omega) (fun q hq => by rw [qu_ne (by omega), v1 q (by omega) (by omega) (by omega), qu_ne (by omega)]) (by rw [qu_off (by decide), v1 27 (by decide) (by decide) (by decide)]; exact qu_eq _ _ _ _) (qu_eq _ _ _ _) (v2.fr rfl rfl rfl) (fun i i0 i1 => by omega)
set_option maxHeartbeats 4000000 in
set_option maxRecDepth 100000 in
theorem k_X7_tree (c : qC) (n wd : Int) (N : Int → Int → Int) (S : Sl) (mm : Int) (md : Int → Int) (T : Tr) (hS : CS c n wd N S mm md T) (w kd : Int) (w0 : iR w) (d0 : iR kd) : qN X7_tree 4 [qP 0, qI w, qI kd] c (pI (fun z c' => z = a_tre n w kd ∧ CS c' n wd N S mm md (t_tre n wd N T w kd) ∧ FrC c c')) := by
  have hS0 := hS
  obtain ⟨hT, hSl, hMd, hTr⟩ := hS
  have hT0 := hT
  obtain ⟨t1, t2, t3, t4, t5, t6, t7⟩ := hT
  refine qN.of [some (qP 0), some (qI w), some (qI kd)] (by decide) rfl (fun _ => rfl) (fun _ => Nat.le_of_ble_eq_true rfl) ?_
  refine g_iload_n (i := 1) dX7_tree_0 rfl rfl ?_
  refine g_if_lt 16 dX7_tree_1 (by decide) (fun b1 => ?_) (fun b1 => ?_)
  · skip
    refine g_ldc (z := -2000000002) dX7_tree_16 cw7_58 ?_
    exact n_reti dX7_tree_18 rfl (by unfold a_tre t_tre; rw [if_neg (show ¬ ((0 ≤ w ∧ w ≤ 3) ∧ 0 ≤ kd ∧ kd ≤ 2) by omega), if_neg (show ¬ ((0 ≤ w ∧ w ≤ 3) ∧ 0 ≤ kd ∧ kd ≤ 2) by omega)]; exact ⟨rfl, hS0, FrC.rf c⟩)
  · skip
    refine g_iload_n (i := 1) dX7_tree_4 rfl rfl ?_
    refine g_iconst dX7_tree_5 ?_
    refine g_icmp_ge 16 dX7_tree_6 (by decide) (fun b6 => ?_) (fun b6 => ?_)
    · skip
      refine g_ldc (z := -2000000002) dX7_tree_16 cw7_58 ?_
      exact n_reti dX7_tree_18 rfl (by unfold a_tre t_tre; rw [if_neg (show ¬ ((0 ≤ w ∧ w ≤ 3) ∧ 0 ≤ kd ∧ kd ≤ 2) by omega), if_neg (show ¬ ((0 ≤ w ∧ w ≤ 3) ∧ 0 ≤ kd ∧ kd ≤ 2) by omega)]; exact ⟨rfl, hS0, FrC.rf c⟩)
    · skip
      refine g_iload_n (i := 2) dX7_tree_9 rfl rfl ?_
      refine n_callSi (k_X7_isKind _ _ (by omega)) dX7_tree_10 lk7_90 sm_X7_isKind rfl rfl rfl (Nat.le_of_ble_eq_true rfl) (fun z c' hz => ?_)
      obtain ⟨hz2, hz⟩ := hz
      have hz2 := hz2.symm
      subst hz2
      refine g_if_ne 19 dX7_tree_13 (by decide) (fun b13 => ?_) (fun b13 => ?_)
      · skip
        refine g_aload_n (i := 0) dX7_tree_19 rfl rfl ?_
        refine g_getP dX7_tree_20 fl7_10 (by first | rfl | assumption) (by first | decide | (show _ < 62; omega)) (by first | rfl | assumption) ?_
        refine g_getI (ji := 3) dX7_tree_23 fl7_59 (by first | rfl | assumption) (by first | decide | (show _ < 62; omega)) (by first | rfl | assumption) (by decide) rfl (by first | assumption | rfl) ?_
        refine g_if_ne 32 dX7_tree_26 (by decide) (fun b26 => ?_) (fun b26 => ?_)
        · skip
          have hok : (0 ≤ w ∧ w ≤ 3) ∧ 0 ≤ kd ∧ kd ≤ 2 := by omega
          refine g_aload_n (i := 0) dX7_tree_32 rfl rfl ?_
          refine g_getP dX7_tree_33 fl7_47 (by first | rfl | assumption) (by first | decide | (show _ < 62; omega)) (by first | rfl | assumption) ?_
          refine g_aload_n (i := 0) dX7_tree_36 rfl rfl ?_
          refine g_getP dX7_tree_37 fl7_10 (by first | rfl | assumption) (by first | decide | (show _ < 62; omega)) (by first | rfl | assumption) ?_
          refine g_iload_n (i := 1) dX7_tree_40 rfl rfl ?_
          refine g_iload_n (i := 2) dX7_tree_41 rfl rfl ?_
          refine n_callVi (k_X4_build _ n wd kd w N hT0 (by omega) (by omega) (by omega) (by omega)) dX7_tree_42 lk7_132 im_X4_build (by first | rfl | assumption) (by first | decide | (show _ < 62; omega)) rfl rfl rfl rfl (Nat.le_of_ble_eq_true rfl) (fun z c1 hz => ?_)
          obtain ⟨rfl, v1, v2⟩ := hz
          exact n_reti dX7_tree_45 rfl (by
                  unfold a_tre t_tre; rw [if_pos hok, if_pos hok, if_neg (show ¬ n = 0 by omega), if_neg (show ¬ n = 0 by omega)]
                  exact ⟨rfl, hS0.tr (fun k hk => v1 k (by omega)) v2, fun q hq => v1 q (by omega)⟩)
        · skip
          refine g_ldc (z := -2000000003) dX7_tree_29 cw7_63 ?_
          exact n_reti dX7_tree_31 rfl (by unfold a_tre t_tre; rw [if_pos (show (0 ≤ w ∧ w ≤ 3) ∧ 0 ≤ kd ∧ kd ≤ 2 by omega), if_pos (show (0 ≤ w ∧ w ≤ 3) ∧ 0 ≤ kd ∧ kd ≤ 2 by omega), if_pos (show n = 0 by omega), if_pos (show n = 0 by omega)]; exact ⟨rfl, hS0, FrC.rf c⟩)
      · skip
        refine g_ldc (z := -2000000002) dX7_tree_16 cw7_58 ?_
        exact n_reti dX7_tree_18 rfl (by unfold a_tre t_tre; rw [if_neg (show ¬ ((0 ≤ w ∧ w ≤ 3) ∧ 0 ≤ kd ∧ kd ≤ 2) by omega), if_neg (show ¬ ((0 ≤ w ∧ w ≤ 3) ∧ 0 ≤ kd ∧ kd ≤ 2) by omega)]; exact ⟨rfl, hS0, FrC.rf c⟩)
