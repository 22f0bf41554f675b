/-- the MEANS as MeanRounds holds them -/
def MC (c : qC) (k wd : Int) (p : Mn) : Prop := ∀ g, 0 ≤ g → g < k → c 16 g = p.1 g ∧ ∀ x, 0 ≤ x → x < wd → c 15 (g * 4 + x) = p.2 g x
theorem MC.fr {c c' : qC} {k wd : Int} {p : Mn} (h : MC c k wd p) (h1 : c' 15 = c 15) (h2 : c' 16 = c 16) : MC c' k wd p := by
  unfold MC at h ⊢
  rw [h1, h2]
  exact h
set_option maxHeartbeats 4000000 in
set_option maxRecDepth 100000 in
theorem k_X5_squaresAbove (c : qC) (n wd : Int) (N : Int → Int → Int) (hT : Tb c n wd N) (k : Int) (p : Mn) (k0 : 1 ≤ k ∧ k ≤ 6) (hp : Mb k wd p) (hm : MC c k wd p) (r g : Int) (r0 : 0 ≤ r) (r1 : r < n) (g0 : 0 ≤ g) (g1 : g < k) : qN X5_squaresAbove 1 [qP 11, qP 1, qI r, qI g] c (pJ (fun z c' => z = sA wd N p r g ∧ c' = c)) := by
  have hT0 := hT
  obtain ⟨t1, t2, t3, t4, t5, t6, t7⟩ := hT
  refine qN.of [some (qP 11), some (qP 1), some (qI r), some (qI g), none, none, none, none, none] (by decide) rfl (fun _ => rfl) (fun _ => Nat.le_of_ble_eq_true rfl) ?_
  refine g_lconst (z := 0) dX5_squaresAbove_0 (by decide) ?_
  refine g_lstore4 dX5_squaresAbove_1 rfl ?_
  refine g_iconst dX5_squaresAbove_3 ?_
  refine g_istore6 dX5_squaresAbove_4 rfl ?_
  have L6 : ∀ (fu6 : Nat) (x a : Int), (wd - x).toNat < fu6 → (0 ≤ x) → (x ≤ wd) → (a = sI (fun x => (N r x * p.1 g - p.2 g x) * (N r x * p.1 g - p.2 g x)) x) → qG (qYn X5_squaresAbove 1 (pJ (fun z c' => z = sA wd N p r g ∧ c' = c))) wN 6 [some (qP 11), some (qP 1), some (qI r), some (qI g), some (qJ a), none, some (qI x), none, none] [] c := by
    intro fu6
    induction fu6 with
    | zero => intro x a hm; exact absurd hm (Nat.not_lt_zero _)
    | succ fu6 ih6 =>
      intro x a hm6 x0 x1 ha
      refine g_iload dX5_squaresAbove_6 rfl ?_
      refine g_aload_n (i := 1) dX5_squaresAbove_8 rfl rfl ?_
      refine g_getI (ji := 2) dX5_squaresAbove_9 fl5_59 (by first | rfl | assumption) (by first | decide | (show _ < 62; omega)) (by first | rfl | assumption) (by decide) rfl (by first | assumption | rfl) ?_
      refine g_icmp_ge 60 dX5_squaresAbove_12 (by decide) (fun b12 => ?_) (fun b12 => ?_)
      · skip
        refine g_lload dX5_squaresAbove_60 rfl ?_
        exact n_retj dX5_squaresAbove_62 rfl (⟨by rw [ha, show x = wd by omega]; rfl, rfl⟩)
      · skip
        have hgb := gap_bd (x := x) (t6 r r0 r1) hp g0 g1 x0 (by omega)
        have hpb := hp g g0 g1
        have hpx := hpb.2 x x0 (by omega)
        have hmg := hm g g0 g1
        refine g_aload_n (i := 1) dX5_squaresAbove_15 rfl rfl ?_
        refine g_iload_n (i := 2) dX5_squaresAbove_16 rfl rfl ?_
        refine g_iload dX5_squaresAbove_17 rfl ?_
        refine n_callVi (k_X6_cell _ _ _ (by omega) (by omega) (by omega) (by omega)) dX5_squaresAbove_19 lk5_62 im_X6_cell (by first | rfl | assumption) (by first | decide | (show _ < 62; omega)) rfl rfl rfl rfl (Nat.le_of_ble_eq_true rfl) (fun z c' hz => ?_)
        obtain ⟨rfl, hz2⟩ := hz
        have hz2 := hz2.symm
        subst hz2
        rw [t5 r x r0 r1 x0 (by omega)]
        refine g_aload_n (i := 0) dX5_squaresAbove_22 rfl rfl ?_
        refine g_getP dX5_squaresAbove_23 fl5_24 (by first | rfl | assumption) (by first | decide | (show _ < 62; omega)) (by first | rfl | assumption) ?_
        refine g_iload_n (i := 3) dX5_squaresAbove_26 rfl rfl ?_
        refine g_iaload dX5_squaresAbove_27 rfl (by decide) ?_
        rw [hmg.1]
        skip -- ?_
        refine g_imul dX5_squaresAbove_28 ?_
        refine g_aload_n (i := 0) dX5_squaresAbove_29 rfl rfl ?_
        refine g_getP dX5_squaresAbove_30 fl5_21 (by first | rfl | assumption) (by first | decide | (show _ < 62; omega)) (by first | rfl | assumption) ?_
        refine g_iload_n (i := 3) dX5_squaresAbove_33 rfl rfl ?_
        refine g_iconst dX5_squaresAbove_34 ?_
        refine g_imul dX5_squaresAbove_35 ?_
        refine g_iload dX5_squaresAbove_36 rfl ?_
        refine g_iadd dX5_squaresAbove_38 ?_
        refine g_iaload dX5_squaresAbove_39 rfl (by decide) ?_
        rw [hmg.2 x x0 (by omega)]
        skip -- ?_
        refine g_isub dX5_squaresAbove_40 ?_
        refine g_i2lx dX5_squaresAbove_41 ?_
        refine g_lstore7 dX5_squaresAbove_42 rfl ?_
        refine g_lload dX5_squaresAbove_44 rfl ?_
        refine g_lload dX5_squaresAbove_46 rfl ?_
        refine g_lload dX5_squaresAbove_48 rfl ?_
        refine g_lmul dX5_squaresAbove_50 ?_
        refine g_ladd dX5_squaresAbove_51 ?_
        refine g_lstore4 dX5_squaresAbove_52 rfl ?_
        refine g_iinc6 dX5_squaresAbove_54 rfl ?_
        refine g_goto 6 dX5_squaresAbove_57 (by decide) ?_
        refine g_fg7 ?_
        exact ih6 _ _ (by omega) (by first | assumption | omega) (by first | assumption | omega) (by rw [sI_s x0, ha])
  exact L6 _ _ _ (Nat.lt_succ_self _) (by first | assumption | omega) (by first | assumption | omega) rfl
set_option maxHeartbeats 4000000 in
set_option maxRecDepth 100000 in
theorem k_X5_squaresBelow (c : qC) (g m : Int) (g0 : 0 ≤ g) (g1 : g < 6) (hm : c 16 g = m) (m0 : 0 ≤ m ∧ m ≤ 30) : qN X5_squaresBelow 0 [qP 11, qI g] c (pJ (fun z c' => z = m * m ∧ c' = c)) := by
  have hmm := mm_bd m0
  refine qN.of [some (qP 11), some (qI g)] (by decide) rfl (fun _ => rfl) (fun _ => Nat.le_of_ble_eq_true rfl) ?_
  refine g_aload_n (i := 0) dX5_squaresBelow_0 rfl rfl ?_
  refine g_getP dX5_squaresBelow_1 fl5_24 (by first | rfl | assumption) (by first | decide | (show _ < 62; omega)) (by first | rfl | assumption) ?_
  refine g_iload_n (i := 1) dX5_squaresBelow_4 rfl rfl ?_
  refine g_iaload dX5_squaresBelow_5 rfl (by decide) ?_
  rw [hm]
  skip -- ?_
  refine g_aload_n (i := 0) dX5_squaresBelow_6 rfl rfl ?_
  refine g_getP dX5_squaresBelow_7 fl5_24 (by first | rfl | assumption) (by first | decide | (show _ < 62; omega)) (by first | rfl | assumption) ?_
  refine g_iload_n (i := 1) dX5_squaresBelow_10 rfl rfl ?_
  refine g_iaload dX5_squaresBelow_11 rfl (by decide) ?_
  rw [hm]
  skip -- ?_
  refine g_imul dX5_squaresBelow_12 ?_
  refine g_i2lx dX5_squaresBelow_13 ?_
  exact n_retj dX5_squaresBelow_14 rfl (⟨rfl, rfl⟩)
set_option maxHeartbeats 4000000 in
set_option maxRecDepth 100000 in
theorem k_X5_nearestMean (c : qC) (n wd : Int) (N : Int → Int → Int) (hT : Tb c n wd N) (k : Int) (p : Mn) (k0 : 1 ≤ k ∧ k ≤ 6) (hp : Mb k wd p) (hm : MC c k wd p) (hk : c 11 6 = k) (r : Int) (r0 : 0 ≤ r) (r1 : r < n) : qN X5_nearestMean 2 [qP 11, qP 1, qI r] c (pI (fun z c' => z = l0 (sA wd N p) p.1 k r ∧ c' = c)) := by
  have hT0 := hT
  obtain ⟨t1, t2, t3, t4, t5, t6, t7⟩ := hT
  refine qN.of [some (qP 11), some (qP 1), some (qI r), none, none, none, none, none, none] (by decide) rfl (fun _ => rfl) (fun _ => Nat.le_of_ble_eq_true rfl) ?_
  refine g_iconst dX5_nearestMean_0 ?_
  refine g_istore_n3 dX5_nearestMean_1 rfl ?_
  refine g_aload_n (i := 0) dX5_nearestMean_2 rfl rfl ?_
  refine g_aload_n (i := 1) dX5_nearestMean_3 rfl rfl ?_
  refine g_iload_n (i := 2) dX5_nearestMean_4 rfl rfl ?_
  refine g_iconst dX5_nearestMean_5 ?_
  refine n_callVj (k_X5_squaresAbove _ n wd N hT0 k p k0 hp hm _ _ (by omega) (by omega) (by omega) (by omega)) dX5_nearestMean_6 lk5_86 im_X5_squaresAbove (by first | rfl | assumption) (by first | decide | (show _ < 62; omega)) rfl rfl rfl rfl (Nat.le_of_ble_eq_true rfl) (fun z c' hz => ?_)
  obtain ⟨rfl, hz2⟩ := hz
  have hz2 := hz2.symm
  subst hz2
  have hs := sA_bd (by omega) t4.2 (t6 r (by omega) (by omega)) hp (show 0 ≤ (0 : Int) by omega) (show (0 : Int) < k by omega)
  refine g_lstore4 dX5_nearestMean_9 rfl ?_
  refine g_iconst dX5_nearestMean_11 ?_
  refine g_istore6 dX5_nearestMean_12 rfl ?_
  have L14 : ∀ (fu14 : Nat) (a j : Int), (k - j).toNat < fu14 → (1 ≤ j) → (j ≤ k) → (a = nn (sA wd N p) p.1 r (j - 1).toNat) → qG (qYn X5_nearestMean 2 (pI (fun z c' => z = l0 (sA wd N p) p.1 k r ∧ c' = c))) wN 14 [some (qP 11), some (qP 1), some (qI r), some (qI a), some (qJ ((sA wd N p) r a)), none, some (qI j), none, none] [] c := by
    intro fu14
    induction fu14 with
    | zero => intro a j hm; exact absurd hm (Nat.not_lt_zero _)
    | succ fu14 ih14 =>
      intro a j hm14 j0 j1 ha
      have hnb := nn_bd (A := (sA wd N p)) (m := p.1) (r := r) (j - 1).toNat
      rw [← ha] at hnb
      have hsa := sA_bd (N := N) (by omega) t4.2 (t6 r (by omega) (by omega)) hp (show 0 ≤ a by omega) (show a < k by omega)
      refine g_iload dX5_nearestMean_14 rfl ?_
      refine g_aload_n (i := 0) dX5_nearestMean_16 rfl rfl ?_
      refine g_getI (ji := 6) dX5_nearestMean_17 fl5_30 (by first | rfl | assumption) (by first | decide | (show _ < 62; omega)) (by first | rfl | assumption) (by decide) rfl (by first | assumption | rfl) ?_
      refine g_icmp_ge 67 dX5_nearestMean_20 (by decide) (fun b20 => ?_) (fun b20 => ?_)
      · skip
        refine g_iload_n (i := 3) dX5_nearestMean_67 rfl rfl ?_
        exact n_reti dX5_nearestMean_68 rfl (⟨by rw [ha, show j = k by omega]; rfl, rfl⟩)
      · skip
        refine g_aload_n (i := 0) dX5_nearestMean_23 rfl rfl ?_
        refine g_aload_n (i := 1) dX5_nearestMean_24 rfl rfl ?_
        refine g_iload_n (i := 2) dX5_nearestMean_25 rfl rfl ?_
        refine g_iload dX5_nearestMean_26 rfl ?_
        refine n_callVj (k_X5_squaresAbove _ n wd N hT0 k p k0 hp hm _ _ (by omega) (by omega) (by omega) (by omega)) dX5_nearestMean_28 lk5_86 im_X5_squaresAbove (by first | rfl | assumption) (by first | decide | (show _ < 62; omega)) rfl rfl rfl rfl (Nat.le_of_ble_eq_true rfl) (fun z c' hz => ?_)
        obtain ⟨rfl, hz2⟩ := hz
        have hz2 := hz2.symm
        subst hz2
        have hs := sA_bd (by omega) t4.2 (t6 r (by omega) (by omega)) hp (show 0 ≤ j by omega) (show j < k by omega)
        refine g_lstore7 dX5_nearestMean_31 rfl ?_
        refine g_lload dX5_nearestMean_33 rfl ?_
        refine g_aload_n (i := 0) dX5_nearestMean_35 rfl rfl ?_
        refine g_iload dX5_nearestMean_36 rfl ?_
        refine n_callVj (k_X5_squaresBelow _ _ (p.1 j) (by omega) (by omega) (hm j (by omega) (by omega)).1 (hp j (by omega) (by omega)).1) dX5_nearestMean_38 lk5_90 im_X5_squaresBelow (by first | rfl | assumption) (by first | decide | (show _ < 62; omega)) rfl rfl rfl rfl (Nat.le_of_ble_eq_true rfl) (fun z c' hz => ?_)
        obtain ⟨rfl, hz2⟩ := hz
        have hz2 := hz2.symm
        subst hz2
        have hmj := mm_bd (hp j (by omega) (by omega)).1
        refine g_lload dX5_nearestMean_41 rfl ?_
        refine g_aload_n (i := 0) dX5_nearestMean_43 rfl rfl ?_
        refine g_iload_n (i := 3) dX5_nearestMean_44 rfl rfl ?_
        refine n_callVj (k_X5_squaresBelow _ _ (p.1 a) (by omega) (by omega) (hm a (by omega) (by omega)).1 (hp a (by omega) (by omega)).1) dX5_nearestMean_45 lk5_90 im_X5_squaresBelow (by first | rfl | assumption) (by first | decide | (show _ < 62; omega)) rfl rfl rfl rfl (Nat.le_of_ble_eq_true rfl) (fun z c' hz => ?_)
        obtain ⟨rfl, hz2⟩ := hz
        have hz2 := hz2.symm
        subst hz2
        have hma := mm_bd (hp a (by omega) (by omega)).1
        have hq1 := pr_bd hs hma
        have hq2 := pr_bd hsa hmj
        refine n_callSi (k_X7_isLess _ _ _ _ _ (by omega) (by omega)) dX5_nearestMean_48 lk5_94 sm_X7_isLess rfl rfl rfl (Nat.le_of_ble_eq_true rfl) (fun z c' hz => ?_)
        obtain ⟨hz2, hz⟩ := hz
        have hz2 := hz2.symm
        subst hz2
        refine g_if_eq 61 dX5_nearestMean_51 (by decide) (fun b51 => ?_) (fun b51 => ?_)
        · skip
          refine g_iinc6 dX5_nearestMean_61 rfl ?_
          refine g_goto 14 dX5_nearestMean_64 (by decide) ?_
          refine g_fg7 ?_
          exact ih14 _ _ (by omega) (by first | assumption | omega) (by first | assumption | omega) (by rw [nn_s j0, ← ha]; first | (rw [if_pos (show lt2 (sA wd N p) p.1 r j r a by unfold lt2; omega)]) | (rw [if_neg (show ¬ lt2 (sA wd N p) p.1 r j r a by unfold lt2; omega)]))
        · skip
          refine g_iload dX5_nearestMean_54 rfl ?_
          refine g_istore_n3 dX5_nearestMean_56 rfl ?_
          refine g_lload dX5_nearestMean_57 rfl ?_
          refine g_lstore4 dX5_nearestMean_59 rfl ?_
          refine g_iinc6 dX5_nearestMean_61 rfl ?_
          refine g_goto 14 dX5_nearestMean_64 (by decide) ?_
          refine g_fg7 ?_
          exact ih14 _ _ (by omega) (by first | assumption | omega) (by first | assumption | omega) (by rw [nn_s j0, ← ha]; first | (rw [if_pos (show lt2 (sA wd N p) p.1 r j r a by unfold lt2; omega)]) | (rw [if_neg (show ¬ lt2 (sA wd N p) p.1 r j r a by unfold lt2; omega)]))
  exact L14 _ _ _ (Nat.lt_succ_self _) (by first | assumption | omega) (by first | assumption | omega) rfl
set_option maxHeartbeats 4000000 in
set_option maxRecDepth 100000 in
theorem k_X5_takeFarthest (c : qC) (n wd : Int) (N : Int → Int → Int) (hT : Tb c n wd N) (k : Int) (p : Mn) (k0 : 1 ≤ k ∧ k ≤ 6) (hp : Mb k wd p) (hm : MC c k wd p) (L : Int → Int) (g : Int) (g0 : 0 ≤ g) (g1 : g < k) (hL : ∀ r, 0 ≤ r → r < n → c 12 r = L r ∧ 0 ≤ L r ∧ L r < k) (hs : ∀ q, 0 ≤ q → q < k → c 14 q = cn L n q) (hg : cn L n g = 0) (hfb : 0 ≤ (fb (sA wd N p) p.1 L n n.toNat)) : qN X5_takeFarthest 2 [qP 11, qP 1, qI g] c (pV (fun c' => (∀ q, q ≠ 12 → q ≠ 14 → c' q = c q) ∧ (∀ r, 0 ≤ r → r < n → c' 12 r = (up L (fb (sA wd N p) p.1 L n n.toNat) g) r) ∧ ∀ q, 0 ≤ q → q < k → c' 14 q = cn (up L (fb (sA wd N p) p.1 L n n.toNat) g) n q)) := by
  have hT0 := hT
  obtain ⟨t1, t2, t3, t4, t5, t6, t7⟩ := hT
  refine qN.of [some (qP 11), some (qP 1), some (qI g), none, none, none, none, none, none, none, none, none] (by decide) rfl (fun _ => rfl) (fun _ => Nat.le_of_ble_eq_true rfl) ?_
  refine g_iconst dX5_takeFarthest_0 ?_
  refine g_istore_n3 dX5_takeFarthest_1 rfl ?_
  refine g_lconst (z := 0) dX5_takeFarthest_2 (by decide) ?_
  refine g_lstore4 dX5_takeFarthest_3 rfl ?_
  refine g_lconst (z := 1) dX5_takeFarthest_5 (by decide) ?_
  refine g_lstore6 dX5_takeFarthest_6 rfl ?_
  refine g_iconst dX5_takeFarthest_8 ?_
  refine g_istore8 dX5_takeFarthest_9 rfl ?_
  have L11 : ∀ (fu11 : Nat) (fa gr be r : Int), (n - r).toNat < fu11 → (0 ≤ r) → (r ≤ n) → (fa = fb (sA wd N p) p.1 L n r.toNat) → ((fa = -1 ∧ gr = 0 ∧ be = 1) ∨ (0 ≤ fa ∧ gr = (sA wd N p) fa (L fa) ∧ be = p.1 (L fa) * p.1 (L fa))) → qG (qYn X5_takeFarthest 2 (pV (fun c' => (∀ q, q ≠ 12 → q ≠ 14 → c' q = c q) ∧ (∀ r, 0 ≤ r → r < n → c' 12 r = (up L (fb (sA wd N p) p.1 L n n.toNat) g) r) ∧ ∀ q, 0 ≤ q → q < k → c' 14 q = cn (up L (fb (sA wd N p) p.1 L n n.toNat) g) n q))) wN 11 [some (qP 11), some (qP 1), some (qI g), some (qI fa), some (qJ gr), none, some (qJ be), none, some (qI r), none, none, none] [] c := by
    intro fu11
    induction fu11 with
    | zero => intro fa gr be r hm; exact absurd hm (Nat.not_lt_zero _)
    | succ fu11 ih11 =>
      intro fa gr be r hm11 r0 r1 hfa hst
      have hfbd := fb_bd (A := (sA wd N p)) (m := p.1) (L := L) (n := n) r.toNat
      rw [← hfa] at hfbd
      refine g_iload dX5_takeFarthest_11 rfl ?_
      refine g_aload_n (i := 1) dX5_takeFarthest_13 rfl rfl ?_
      refine g_getI (ji := 3) dX5_takeFarthest_14 fl5_38 (by first | rfl | assumption) (by first | decide | (show _ < 62; omega)) (by first | rfl | assumption) (by decide) rfl (by first | assumption | rfl) ?_
      refine g_icmp_ge 95 dX5_takeFarthest_17 (by decide) (fun b17 => ?_) (fun b17 => ?_)
      · skip
        rw [show r = n by omega] at hfa
        have hf0 : 0 ≤ fa := by rw [hfa]; exact hfb
        have hLf := hL fa (by omega) (by omega)
        have hsf := hs (L fa) (by omega) (by omega)
        have hcf : 1 ≤ cn L n (L fa) := by
          have h := cn_mem (g := L) (i := fa) (k := L fa) hf0 rfl n.toNat (by omega)
          rw [show ((n.toNat : Nat) : Int) = n by omega] at h
          exact h
        have hne : ¬ L fa = g := fun e => by rw [e] at hcf; omega
        have hcf2 := cn_bd (g := L) (n := n) (k := L fa) (by omega)
        refine g_iload_n (i := 3) dX5_takeFarthest_95 rfl rfl ?_
        refine g_iconst dX5_takeFarthest_96 ?_
        refine g_icmp_eq 132 dX5_takeFarthest_97 (by decide) (fun b97 => ?_) (fun b97 => ?_)
        · skip
          exact n_retv dX5_takeFarthest_132 rfl (by
        rw [← hfa]
        first
          | (exfalso; omega)
          | (refine ⟨fun q q1 q2 => by rw [qu_ne q2, qu_ne q1, qu_ne q2], fun x x0 x1 => ?_, fun q q0 q1 => ?_⟩
             · show (if x = fa then g else c 12 x) = if x = fa then g else L x
               rw [(hL x x0 x1).1]
             · rw [cn_upI hf0 (by omega), qu_at]
               show (if q = g then (if g = L fa then cn L n (L fa) - 1 else c 14 g) + 1 else if q = L fa then cn L n (L fa) - 1 else c 14 q) = _
               rw [hs q q0 q1, hs g g0 g1, if_neg (show ¬ g = L fa from fun e => hne e.symm)]
               by_cases e1 : q = g
               · rw [if_pos e1, if_neg (show ¬ L fa = q by omega), if_pos e1.symm, e1]; omega
               · rw [if_neg e1, if_neg (show ¬ g = q by omega)]
                 by_cases e2 : q = L fa
                 · rw [if_pos e2, if_pos e2.symm, e2]; omega
                 · rw [if_neg e2, if_neg (show ¬ L fa = q by omega)]; omega))
        · skip
          refine g_aload_n (i := 0) dX5_takeFarthest_100 rfl rfl ?_
          refine g_getP dX5_takeFarthest_101 fl5_18 (by first | rfl | assumption) (by first | decide | (show _ < 62; omega)) (by first | rfl | assumption) ?_
          refine g_aload_n (i := 0) dX5_takeFarthest_104 rfl rfl ?_
          refine g_getP dX5_takeFarthest_105 fl5_9 (by first | rfl | assumption) (by first | decide | (show _ < 62; omega)) (by first | rfl | assumption) ?_
          refine g_iload_n (i := 3) dX5_takeFarthest_108 rfl rfl ?_
          refine g_iaload dX5_takeFarthest_109 rfl (by decide) ?_
          rw [hLf.1]
          skip -- ?_
          first | refine g_dup2 dX5_takeFarthest_110 rfl rfl ?_ | refine g_dup2l dX5_takeFarthest_110 rfl ?_
          refine g_iaload dX5_takeFarthest_111 rfl (by decide) ?_
          rw [hsf]
          skip -- ?_
          refine g_iconst dX5_takeFarthest_112 ?_
          refine g_isub dX5_takeFarthest_113 ?_
          refine g_iastore dX5_takeFarthest_114 (by first | rfl | assumption) (by first | decide | (show _ < 62; omega)) ?_
          refine g_aload_n (i := 0) dX5_takeFarthest_115 rfl rfl ?_
          refine g_getP dX5_takeFarthest_116 fl5_9 (by first | rfl | assumption) (by first | decide | (show _ < 62; omega)) (by first | rfl | assumption) ?_
          refine g_iload_n (i := 3) dX5_takeFarthest_119 rfl rfl ?_
          refine g_iload_n (i := 2) dX5_takeFarthest_120 rfl rfl ?_
          refine g_iastore dX5_takeFarthest_121 (by first | rfl | assumption) (by first | decide | (show _ < 62; omega)) ?_
          refine g_aload_n (i := 0) dX5_takeFarthest_122 rfl rfl ?_
          refine g_getP dX5_takeFarthest_123 fl5_18 (by first | rfl | assumption) (by first | decide | (show _ < 62; omega)) (by first | rfl | assumption) ?_
          refine g_iload_n (i := 2) dX5_takeFarthest_126 rfl rfl ?_
          first | refine g_dup2 dX5_takeFarthest_127 rfl rfl ?_ | refine g_dup2l dX5_takeFarthest_127 rfl ?_
          refine g_iaload dX5_takeFarthest_128 (by first | rfl | assumption) (by first | decide | (show _ < 62; omega)) ?_
          refine g_iconst dX5_takeFarthest_129 ?_
          refine g_iadd dX5_takeFarthest_130 ?_
          refine g_iastore dX5_takeFarthest_131 (by first | rfl | assumption) (by first | decide | (show _ < 62; omega)) ?_
          exact n_retv dX5_takeFarthest_132 rfl (by
        rw [← hfa]
        first
          | (exfalso; omega)
          | (refine ⟨fun q q1 q2 => by rw [qu_ne q2, qu_ne q1, qu_ne q2], fun x x0 x1 => ?_, fun q q0 q1 => ?_⟩
             · show (if x = fa then g else c 12 x) = if x = fa then g else L x
               rw [(hL x x0 x1).1]
             · rw [cn_upI hf0 (by omega), qu_at]
               show (if q = g then (if g = L fa then cn L n (L fa) - 1 else c 14 g) + 1 else if q = L fa then cn L n (L fa) - 1 else c 14 q) = _
               rw [hs q q0 q1, hs g g0 g1, if_neg (show ¬ g = L fa from fun e => hne e.symm)]
               by_cases e1 : q = g
               · rw [if_pos e1, if_neg (show ¬ L fa = q by omega), if_pos e1.symm, e1]; omega
               · rw [if_neg e1, if_neg (show ¬ g = q by omega)]
                 by_cases e2 : q = L fa
                 · rw [if_pos e2, if_pos e2.symm, e2]; omega
                 · rw [if_neg e2, if_neg (show ¬ L fa = q by omega)]; omega))
      · skip
        have hLr := hL r r0 (by omega)
        have hsr := hs (L r) (by omega) (by omega)
        have hcb := cn_bd (g := L) (n := n) (k := L r) (by omega)
        refine g_aload_n (i := 0) dX5_takeFarthest_20 rfl rfl ?_
        refine g_getP dX5_takeFarthest_21 fl5_9 (by first | rfl | assumption) (by first | decide | (show _ < 62; omega)) (by first | rfl | assumption) ?_
        refine g_iload dX5_takeFarthest_24 rfl ?_
        refine g_iaload dX5_takeFarthest_26 rfl (by decide) ?_
        rw [hLr.1]
        skip -- ?_
        refine g_istore9 dX5_takeFarthest_27 rfl ?_
        refine g_aload_n (i := 0) dX5_takeFarthest_29 rfl rfl ?_
        refine g_getP dX5_takeFarthest_30 fl5_18 (by first | rfl | assumption) (by first | decide | (show _ < 62; omega)) (by first | rfl | assumption) ?_
        refine g_iload dX5_takeFarthest_33 rfl ?_
        refine g_iaload dX5_takeFarthest_35 rfl (by decide) ?_
        rw [hsr]
        skip -- ?_
        refine g_iconst dX5_takeFarthest_36 ?_
        refine g_icmp_lt 89 dX5_takeFarthest_37 (by decide) (fun b37 => ?_) (fun b37 => ?_)
        · skip
          refine g_iinc8 dX5_takeFarthest_89 rfl ?_
          refine g_goto 11 dX5_takeFarthest_92 (by decide) ?_
          refine g_fg9 ?_
          exact ih11 _ _ _ _ (by omega) (by first | assumption | omega) (by first | assumption | omega) (by
          first
            | (rw [fb_no r0 (fun h => by have := h.1; omega)]; exact hfa)
            | (rw [fb_yes r0 ⟨by omega, Or.inl (by rw [← hfa]; omega)⟩])
            | (rw [fb_yes r0 ⟨by omega, Or.inr (by rw [← hfa]; unfold lt2; rw [← hst2.2.1, ← hst2.2.2]; omega)⟩])
            | (rw [fb_no r0 (fun h => by
                rw [← hfa] at h
                have h2 := h.2
                unfold lt2 at h2
                rw [← hst2.2.1, ← hst2.2.2] at h2
                omega)]; exact hfa)) (by first | exact hst | exact Or.inr ⟨r0, rfl, rfl⟩)
        · skip
          refine g_aload_n (i := 0) dX5_takeFarthest_40 rfl rfl ?_
          refine g_aload_n (i := 1) dX5_takeFarthest_41 rfl rfl ?_
          refine g_iload dX5_takeFarthest_42 rfl ?_
          refine g_iload dX5_takeFarthest_44 rfl ?_
          refine n_callVj (k_X5_squaresAbove _ n wd N hT0 k p k0 hp hm _ _ (by omega) (by omega) (by omega) (by omega)) dX5_takeFarthest_46 lk5_86 im_X5_squaresAbove (by first | rfl | assumption) (by first | decide | (show _ < 62; omega)) rfl rfl rfl rfl (Nat.le_of_ble_eq_true rfl) (fun z c' hz => ?_)
          obtain ⟨rfl, hz2⟩ := hz
          have hz2 := hz2.symm
          subst hz2
          have hsq := sA_bd (by omega) t4.2 (t6 r (by omega) (by omega)) hp (show 0 ≤ (L r) by omega) (show (L r) < k by omega)
          refine g_lstore10 dX5_takeFarthest_49 rfl ?_
          refine g_iload_n (i := 3) dX5_takeFarthest_51 rfl rfl ?_
          refine g_iconst dX5_takeFarthest_52 ?_
          refine g_icmp_eq 74 dX5_takeFarthest_53 (by decide) (fun b53 => ?_) (fun b53 => ?_)
          · skip
            refine g_iload dX5_takeFarthest_74 rfl ?_
            refine g_istore_n3 dX5_takeFarthest_76 rfl ?_
            refine g_lload dX5_takeFarthest_77 rfl ?_
            refine g_lstore4 dX5_takeFarthest_79 rfl ?_
            refine g_aload_n (i := 0) dX5_takeFarthest_81 rfl rfl ?_
            refine g_iload dX5_takeFarthest_82 rfl ?_
            refine n_callVj (k_X5_squaresBelow _ _ (p.1 (L r)) (by omega) (by omega) (hm (L r) (by omega) (by omega)).1 (hp (L r) (by omega) (by omega)).1) dX5_takeFarthest_84 lk5_90 im_X5_squaresBelow (by first | rfl | assumption) (by first | decide | (show _ < 62; omega)) rfl rfl rfl rfl (Nat.le_of_ble_eq_true rfl) (fun z c' hz => ?_)
            obtain ⟨rfl, hz2⟩ := hz
            have hz2 := hz2.symm
            subst hz2
            have hmo2 := mm_bd (hp (L r) (by omega) (by omega)).1
            refine g_lstore6 dX5_takeFarthest_87 rfl ?_
            refine g_iinc8 dX5_takeFarthest_89 rfl ?_
            refine g_goto 11 dX5_takeFarthest_92 (by decide) ?_
            refine g_fg9 ?_
            refine g_fg10 ?_
            exact ih11 _ _ _ _ (by omega) (by first | assumption | omega) (by first | assumption | omega) (by
          first
            | (rw [fb_no r0 (fun h => by have := h.1; omega)]; exact hfa)
            | (rw [fb_yes r0 ⟨by omega, Or.inl (by rw [← hfa]; omega)⟩])
            | (rw [fb_yes r0 ⟨by omega, Or.inr (by rw [← hfa]; unfold lt2; rw [← hst2.2.1, ← hst2.2.2]; omega)⟩])
            | (rw [fb_no r0 (fun h => by
                rw [← hfa] at h
                have h2 := h.2
                unfold lt2 at h2
                rw [← hst2.2.1, ← hst2.2.2] at h2
                omega)]; exact hfa)) (by first | exact hst | exact Or.inr ⟨r0, rfl, rfl⟩)
          · skip
            have hst2 := hst.resolve_left (by omega)
            have hLf := hL fa (by omega) (by omega)
            have hgr := sA_bd (N := N) (by omega) t4.2 (t6 fa (by omega) (by omega)) hp hLf.2.1 hLf.2.2
            rw [← hst2.2.1] at hgr
            have hbe := mm_bd (hp (L fa) hLf.2.1 hLf.2.2).1
            rw [← hst2.2.2] at hbe
            refine g_lload dX5_takeFarthest_56 rfl ?_
            refine g_lload dX5_takeFarthest_58 rfl ?_
            refine g_lload dX5_takeFarthest_60 rfl ?_
            refine g_aload_n (i := 0) dX5_takeFarthest_62 rfl rfl ?_
            refine g_iload dX5_takeFarthest_63 rfl ?_
            refine n_callVj (k_X5_squaresBelow _ _ (p.1 (L r)) (by omega) (by omega) (hm (L r) (by omega) (by omega)).1 (hp (L r) (by omega) (by omega)).1) dX5_takeFarthest_65 lk5_90 im_X5_squaresBelow (by first | rfl | assumption) (by first | decide | (show _ < 62; omega)) rfl rfl rfl rfl (Nat.le_of_ble_eq_true rfl) (fun z c' hz => ?_)
            obtain ⟨rfl, hz2⟩ := hz
            have hz2 := hz2.symm
            subst hz2
            have hmo := mm_bd (hp (L r) (by omega) (by omega)).1
            have hq1 := pr_bd hgr hmo
            have hq2 := pr_bd hsq hbe
            refine n_callSi (k_X7_isLess _ _ _ _ _ (by omega) (by omega)) dX5_takeFarthest_68 lk5_94 sm_X7_isLess rfl rfl rfl (Nat.le_of_ble_eq_true rfl) (fun z c' hz => ?_)
            obtain ⟨hz2, hz⟩ := hz
            have hz2 := hz2.symm
            subst hz2
            refine g_if_eq 89 dX5_takeFarthest_71 (by decide) (fun b71 => ?_) (fun b71 => ?_)
            · skip
              refine g_iinc8 dX5_takeFarthest_89 rfl ?_
              refine g_goto 11 dX5_takeFarthest_92 (by decide) ?_
              refine g_fg9 ?_
              refine g_fg10 ?_
              exact ih11 _ _ _ _ (by omega) (by first | assumption | omega) (by first | assumption | omega) (by
          first
            | (rw [fb_no r0 (fun h => by have := h.1; omega)]; exact hfa)
            | (rw [fb_yes r0 ⟨by omega, Or.inl (by rw [← hfa]; omega)⟩])
            | (rw [fb_yes r0 ⟨by omega, Or.inr (by rw [← hfa]; unfold lt2; rw [← hst2.2.1, ← hst2.2.2]; omega)⟩])
            | (rw [fb_no r0 (fun h => by
                rw [← hfa] at h
                have h2 := h.2
                unfold lt2 at h2
                rw [← hst2.2.1, ← hst2.2.2] at h2
                omega)]; exact hfa)) (by first | exact hst | exact Or.inr ⟨r0, rfl, rfl⟩)
            · skip
              refine g_iload dX5_takeFarthest_74 rfl ?_
              refine g_istore_n3 dX5_takeFarthest_76 rfl ?_
              refine g_lload dX5_takeFarthest_77 rfl ?_
              refine g_lstore4 dX5_takeFarthest_79 rfl ?_
              refine g_aload_n (i := 0) dX5_takeFarthest_81 rfl rfl ?_
              refine g_iload dX5_takeFarthest_82 rfl ?_
              refine n_callVj (k_X5_squaresBelow _ _ (p.1 (L r)) (by omega) (by omega) (hm (L r) (by omega) (by omega)).1 (hp (L r) (by omega) (by omega)).1) dX5_takeFarthest_84 lk5_90 im_X5_squaresBelow (by first | rfl | assumption) (by first | decide | (show _ < 62; omega)) rfl rfl rfl rfl (Nat.le_of_ble_eq_true rfl) (fun z c' hz => ?_)
              obtain ⟨rfl, hz2⟩ := hz
              have hz2 := hz2.symm
              subst hz2
              have hmo2 := mm_bd (hp (L r) (by omega) (by omega)).1
              refine g_lstore6 dX5_takeFarthest_87 rfl ?_
              refine g_iinc8 dX5_takeFarthest_89 rfl ?_
              refine g_goto 11 dX5_takeFarthest_92 (by decide) ?_
              refine g_fg9 ?_
              refine g_fg10 ?_
              exact ih11 _ _ _ _ (by omega) (by first | assumption | omega) (by first | assumption | omega) (by
          first
            | (rw [fb_no r0 (fun h => by have := h.1; omega)]; exact hfa)
            | (rw [fb_yes r0 ⟨by omega, Or.inl (by rw [← hfa]; omega)⟩])
            | (rw [fb_yes r0 ⟨by omega, Or.inr (by rw [← hfa]; unfold lt2; rw [← hst2.2.1, ← hst2.2.2]; omega)⟩])
            | (rw [fb_no r0 (fun h => by
                rw [← hfa] at h
                have h2 := h.2
                unfold lt2 at h2
                rw [← hst2.2.1, ← hst2.2.2] at h2
                omega)]; exact hfa)) (by first | exact hst | exact Or.inr ⟨r0, rfl, rfl⟩)
  exact L11 _ _ _ _ _ (Nat.lt_succ_self _) (by first | assumption | omega) (by first | assumption | omega) rfl (Or.inl ⟨rfl, rfl, rfl⟩)
set_option maxHeartbeats 4000000 in
set_option maxRecDepth 100000 in
theorem k_X5_noteMoves (c : qC) (n : Int) (L B : Int → Int) (n0 : 0 ≤ n ∧ n ≤ 30) (hL : ∀ r, 0 ≤ r → r < n → c 12 r = L r ∧ iR (L r)) (hB : ∀ r, 0 ≤ r → r < n → c 13 r = B r ∧ iR (B r)) : qN X5_noteMoves 0 [qP 11, qI n] c (pI (fun z c' => (∀ q, q ≠ 13 → c' q = c q) ∧ (∀ r, 0 ≤ r → r < n → c' 13 r = L r) ∧ ((z = 1 ∧ Mv B L n) ∨ (z = 0 ∧ ¬ Mv B L n)))) := by
  refine qN.of [some (qP 11), some (qI n), none, none] (by decide) rfl (fun _ => rfl) (fun _ => Nat.le_of_ble_eq_true rfl) ?_
  refine g_iconst dX5_noteMoves_0 ?_
  refine g_istore_n2 dX5_noteMoves_1 rfl ?_
  refine g_iconst dX5_noteMoves_2 ?_
  refine g_istore_n3 dX5_noteMoves_3 rfl ?_
  have L4 : ∀ (fu4 : Nat) (mo r : Int) (c1 : qC), (n - r).toNat < fu4 → (0 ≤ r) → (r ≤ n) → (∀ q, q ≠ 13 → c1 q = c q) → (∀ x, 0 ≤ x → x < r → c1 13 x = L x) → (∀ x, r ≤ x → x < n → c1 13 x = B x) → ((mo = 1 ∧ Mv B L n) ∨ (mo = 0 ∧ ∀ x, 0 ≤ x → x < r → L x = B x)) → qG (qYn X5_noteMoves 0 (pI (fun z c' => (∀ q, q ≠ 13 → c' q = c q) ∧ (∀ r, 0 ≤ r → r < n → c' 13 r = L r) ∧ ((z = 1 ∧ Mv B L n) ∨ (z = 0 ∧ ¬ Mv B L n))))) wN 4 [some (qP 11), some (qI n), some (qI mo), some (qI r)] [] c1 := by
    intro fu4
    induction fu4 with
    | zero => intro mo r c1 hm; exact absurd hm (Nat.not_lt_zero _)
    | succ fu4 ih4 =>
      intro mo r c1 hm4 r0 r1 ff h1 h2 hmo
      refine g_iload_n (i := 3) dX5_noteMoves_4 rfl rfl ?_
      refine g_iload_n (i := 1) dX5_noteMoves_5 rfl rfl ?_
      refine g_icmp_ge 44 dX5_noteMoves_6 (by decide) (fun b6 => ?_) (fun b6 => ?_)
      · skip
        refine g_iload_n (i := 2) dX5_noteMoves_44 rfl rfl ?_
        exact n_retz dX5_noteMoves_45 rfl (by first | exact Or.inl rfl | exact Or.inr rfl | assumption | omega) (⟨ff, fun x q0 q1 => h1 x q0 (by omega), hmo.elim Or.inl (fun h => Or.inr ⟨h.1, fun ⟨x, x0, x1, x2⟩ => x2 (h.2 x x0 (by omega))⟩)⟩)
      · skip
        have hLr := hL r r0 (by omega)
        have hBr := hB r r0 (by omega)
        have hLr2 : c1 12 r = L r := by rw [ff 12 (by decide)]; exact hLr.1
        have hBr2 := h2 r (by omega) (by omega)
        refine g_aload_n (i := 0) dX5_noteMoves_9 rfl rfl ?_
        refine g_getP dX5_noteMoves_10 fl5_9 (by first | rfl | assumption) (by first | decide | (show _ < 62; omega)) (by first | rfl | assumption) ?_
        refine g_iload_n (i := 3) dX5_noteMoves_13 rfl rfl ?_
        refine g_iaload dX5_noteMoves_14 rfl (by decide) ?_
        rw [hLr2]
        skip -- ?_
        refine g_aload_n (i := 0) dX5_noteMoves_15 rfl rfl ?_
        refine g_getP dX5_noteMoves_16 fl5_15 (by first | rfl | assumption) (by first | decide | (show _ < 62; omega)) (by first | rfl | assumption) ?_
        refine g_iload_n (i := 3) dX5_noteMoves_19 rfl rfl ?_
        refine g_iaload dX5_noteMoves_20 rfl (by decide) ?_
        rw [hBr2]
        skip -- ?_
        refine g_icmp_eq 26 dX5_noteMoves_21 (by decide) (fun b21 => ?_) (fun b21 => ?_)
        · skip
          refine g_aload_n (i := 0) dX5_noteMoves_26 rfl rfl ?_
          refine g_getP dX5_noteMoves_27 fl5_15 (by first | rfl | assumption) (by first | decide | (show _ < 62; omega)) (by first | rfl | assumption) ?_
          refine g_iload_n (i := 3) dX5_noteMoves_30 rfl rfl ?_
          refine g_aload_n (i := 0) dX5_noteMoves_31 rfl rfl ?_
          refine g_getP dX5_noteMoves_32 fl5_9 (by first | rfl | assumption) (by first | decide | (show _ < 62; omega)) (by first | rfl | assumption) ?_
          refine g_iload_n (i := 3) dX5_noteMoves_35 rfl rfl ?_
          refine g_iaload dX5_noteMoves_36 (by first | rfl | assumption) (by first | decide | (show _ < 62; omega)) ?_
          refine g_iastore dX5_noteMoves_37 (by first | rfl | assumption) (by first | decide | (show _ < 62; omega)) ?_
          refine g_iinc3 dX5_noteMoves_38 rfl ?_
          refine g_goto 4 dX5_noteMoves_41 (by decide) ?_
          exact ih4 _ _ _ (by omega) (by first | assumption | omega) (by first | assumption | omega) (fun q hq => by rw [qu_ne hq]; exact ff q hq) (fun x q0 q1 => by
        rw [qu_at]; split
        · rename_i h; rw [h]; exact hLr2
        · exact h1 x q0 (by omega)) (fun x q0 q1 => by rw [qu_off (by omega)]; exact h2 x (by omega) q1) (by
          first
            | exact Or.inl ⟨rfl, r, r0, by omega, by omega⟩
            | (rcases hmo with h | ⟨h, h3⟩
               · exact Or.inl h
               · exact Or.inr ⟨h, fun x q0 q1 => by
                   by_cases e : x = r
                   · rw [e]; omega
                   · exact h3 x q0 (by omega)⟩))
        · skip
          refine g_iconst dX5_noteMoves_24 ?_
          refine g_istore_n2 dX5_noteMoves_25 rfl ?_
          refine g_aload_n (i := 0) dX5_noteMoves_26 rfl rfl ?_
          refine g_getP dX5_noteMoves_27 fl5_15 (by first | rfl | assumption) (by first | decide | (show _ < 62; omega)) (by first | rfl | assumption) ?_
          refine g_iload_n (i := 3) dX5_noteMoves_30 rfl rfl ?_
          refine g_aload_n (i := 0) dX5_noteMoves_31 rfl rfl ?_
          refine g_getP dX5_noteMoves_32 fl5_9 (by first | rfl | assumption) (by first | decide | (show _ < 62; omega)) (by first | rfl | assumption) ?_
          refine g_iload_n (i := 3) dX5_noteMoves_35 rfl rfl ?_
          refine g_iaload dX5_noteMoves_36 (by first | rfl | assumption) (by first | decide | (show _ < 62; omega)) ?_
          refine g_iastore dX5_noteMoves_37 (by first | rfl | assumption) (by first | decide | (show _ < 62; omega)) ?_
          refine g_iinc3 dX5_noteMoves_38 rfl ?_
          refine g_goto 4 dX5_noteMoves_41 (by decide) ?_
          exact ih4 _ _ _ (by omega) (by first | assumption | omega) (by first | assumption | omega) (fun q hq => by rw [qu_ne hq]; exact ff q hq) (fun x q0 q1 => by
        rw [qu_at]; split
        · rename_i h; rw [h]; exact hLr2
        · exact h1 x q0 (by omega)) (fun x q0 q1 => by rw [qu_off (by omega)]; exact h2 x (by omega) q1) (by
          first
            | exact Or.inl ⟨rfl, r, r0, by omega, by omega⟩
            | (rcases hmo with h | ⟨h, h3⟩
               · exact Or.inl h
               · exact Or.inr ⟨h, fun x q0 q1 => by
                   by_cases e : x = r
                   · rw [e]; omega
                   · exact h3 x q0 (by omega)⟩))
  exact L4 _ _ _ _ (Nat.lt_succ_self _) (by first | assumption | omega) (by first | assumption | omega) (fun q _ => rfl) (fun x q0 q1 => by omega) (fun x q0 q1 => (hB x (by omega) q1).1) (Or.inr ⟨rfl, fun x q0 q1 => by omega⟩)
set_option maxHeartbeats 4000000 in
set_option maxRecDepth 100000 in
theorem k_X5_moveRows (c : qC) (n wd : Int) (N : Int → Int → Int) (hT : Tb c n wd N) (k : Int) (p : Mn) (k0 : 1 ≤ k ∧ k ≤ 6) (hp : Mb k wd p) (hm : MC c k wd p) (B : Int → Int) (hk : c 11 6 = k) (kn : k ≤ n) (hB : ∀ r, 0 ≤ r → r < n → c 13 r = B r ∧ iR (B r)) : qN X5_moveRows 3 [qP 11, qP 1] c (pI (fun z c' => (∀ q, q ≠ 12 → q ≠ 13 → q ≠ 14 → c' q = c q) ∧ (∀ r, 0 ≤ r → r < n → c' 12 r = lb wd N n k p r) ∧ (∀ r, 0 ≤ r → r < n → c' 13 r = lb wd N n k p r) ∧ (∀ q, 0 ≤ q → q < k → c' 14 q = cn (lb wd N n k p) n q) ∧ ((z = 1 ∧ Mv B (lb wd N n k p) n) ∨ (z = 0 ∧ ¬ Mv B (lb wd N n k p) n)))) := by
  have hT0 := hT
  obtain ⟨t1, t2, t3, t4, t5, t6, t7⟩ := hT
  have hlb := l0_bd (A := (sA wd N p)) (m := p.1) k0.1
  refine qN.of [some (qP 11), some (qP 1), none] (by decide) rfl (fun _ => rfl) (fun _ => Nat.le_of_ble_eq_true rfl) ?_
  refine g_iconst dX5_moveRows_0 ?_
  refine g_istore_n2 dX5_moveRows_1 rfl ?_
  have L2 : ∀ (fu2 : Nat) (g : Int) (c1 : qC), (k - g).toNat < fu2 → (0 ≤ g) → (g ≤ k) → (∀ q, q ≠ 14 → c1 q = c q) → (∀ q, 0 ≤ q → q < g → c1 14 q = 0) → qG (qYn X5_moveRows 3 (pI (fun z c' => (∀ q, q ≠ 12 → q ≠ 13 → q ≠ 14 → c' q = c q) ∧ (∀ r, 0 ≤ r → r < n → c' 12 r = lb wd N n k p r) ∧ (∀ r, 0 ≤ r → r < n → c' 13 r = lb wd N n k p r) ∧ (∀ q, 0 ≤ q → q < k → c' 14 q = cn (lb wd N n k p) n q) ∧ ((z = 1 ∧ Mv B (lb wd N n k p) n) ∨ (z = 0 ∧ ¬ Mv B (lb wd N n k p) n))))) wN 2 [some (qP 11), some (qP 1), some (qI g)] [] c1 := by
    intro fu2
    induction fu2 with
    | zero => intro g c1 hm; exact absurd hm (Nat.not_lt_zero _)
    | succ fu2 ih2 =>
      intro g c1 hm2 g0 g1 ff h1
      have e1 : c1 11 6 = k := by rw [ff 11 (by decide)]; exact hk
      refine g_iload_n (i := 2) dX5_moveRows_2 rfl rfl ?_
      refine g_aload_n (i := 0) dX5_moveRows_3 rfl rfl ?_
      refine g_getI (ji := 6) dX5_moveRows_4 fl5_30 (by first | rfl | assumption) (by first | decide | (show _ < 62; omega)) (by first | rfl | assumption) (by decide) rfl (by first | assumption | rfl) ?_
      refine g_icmp_ge 23 dX5_moveRows_7 (by decide) (fun b7 => ?_) (fun b7 => ?_)
      · skip
        refine g_iconst dX5_moveRows_23 ?_
        refine g_istore_n2 dX5_moveRows_24 rfl ?_
        have L25 : ∀ (fu25 : Nat) (r : Int) (c1 : qC), (n - r).toNat < fu25 → (0 ≤ r) → (r ≤ n) → (∀ q, q ≠ 12 → q ≠ 14 → c1 q = c q) → (∀ x, 0 ≤ x → x < r → c1 12 x = (l0 (sA wd N p) p.1 k) x) → (∀ q, 0 ≤ q → q < k → c1 14 q = cn (l0 (sA wd N p) p.1 k) r q) → qG (qYn X5_moveRows 3 (pI (fun z c' => (∀ q, q ≠ 12 → q ≠ 13 → q ≠ 14 → c' q = c q) ∧ (∀ r, 0 ≤ r → r < n → c' 12 r = lb wd N n k p r) ∧ (∀ r, 0 ≤ r → r < n → c' 13 r = lb wd N n k p r) ∧ (∀ q, 0 ≤ q → q < k → c' 14 q = cn (lb wd N n k p) n q) ∧ ((z = 1 ∧ Mv B (lb wd N n k p) n) ∨ (z = 0 ∧ ¬ Mv B (lb wd N n k p) n))))) wN 25 [some (qP 11), some (qP 1), some (qI r)] [] c1 := by
          intro fu25
          induction fu25 with
          | zero => intro r c1 hm; exact absurd hm (Nat.not_lt_zero _)
          | succ fu25 ih25 =>
            intro r c1 hm25 r0 r1 ff h1 h2
            have e1 : c1 1 3 = n := by rw [ff 1 (by decide) (by decide)]; exact t1
            have hT1 : Tb c1 n wd N := hT0.fr (ff 1 (by decide) (by decide)) (ff 2 (by decide) (by decide)) (ff 3 (by decide) (by decide))
            have hm1 : MC c1 k wd p := hm.fr (ff 15 (by decide) (by decide)) (ff 16 (by decide) (by decide))
            have e6 : c1 11 6 = k := by rw [ff 11 (by decide) (by decide)]; exact hk
            refine g_iload_n (i := 2) dX5_moveRows_25 rfl rfl ?_
            refine g_aload_n (i := 1) dX5_moveRows_26 rfl rfl ?_
            refine g_getI (ji := 3) dX5_moveRows_27 fl5_38 (by first | rfl | assumption) (by first | decide | (show _ < 62; omega)) (by first | rfl | assumption) (by decide) rfl (by first | assumption | rfl) ?_
            refine g_icmp_ge 66 dX5_moveRows_30 (by decide) (fun b30 => ?_) (fun b30 => ?_)
            · skip
              refine g_iconst dX5_moveRows_66 ?_
              refine g_istore_n2 dX5_moveRows_67 rfl ?_
              have L68 : ∀ (fu68 : Nat) (g : Int) (c1 : qC), (k - g).toNat < fu68 → (0 ≤ g) → (g ≤ k) → (∀ q, q ≠ 12 → q ≠ 14 → c1 q = c q) → (∀ x, 0 ≤ x → x < n → c1 12 x = (fls (sA wd N p) p.1 n (l0 (sA wd N p) p.1 k) (g).toNat) x) → (∀ q, 0 ≤ q → q < k → c1 14 q = cn (fls (sA wd N p) p.1 n (l0 (sA wd N p) p.1 k) (g).toNat) n q) → qG (qYn X5_moveRows 3 (pI (fun z c' => (∀ q, q ≠ 12 → q ≠ 13 → q ≠ 14 → c' q = c q) ∧ (∀ r, 0 ≤ r → r < n → c' 12 r = lb wd N n k p r) ∧ (∀ r, 0 ≤ r → r < n → c' 13 r = lb wd N n k p r) ∧ (∀ q, 0 ≤ q → q < k → c' 14 q = cn (lb wd N n k p) n q) ∧ ((z = 1 ∧ Mv B (lb wd N n k p) n) ∨ (z = 0 ∧ ¬ Mv B (lb wd N n k p) n))))) wN 68 [some (qP 11), some (qP 1), some (qI g)] [] c1 := by
                intro fu68
                induction fu68 with
                | zero => intro g c1 hm; exact absurd hm (Nat.not_lt_zero _)
                | succ fu68 ih68 =>
                  intro g c1 hm68 g0 g1 ff h1 h2
                  have e1 : c1 1 3 = n := by rw [ff 1 (by decide) (by decide)]; exact t1
                  have hT1 : Tb c1 n wd N := hT0.fr (ff 1 (by decide) (by decide)) (ff 2 (by decide) (by decide)) (ff 3 (by decide) (by decide))
                  have hm1 : MC c1 k wd p := hm.fr (ff 15 (by decide) (by decide)) (ff 16 (by decide) (by decide))
                  have e6 : c1 11 6 = k := by rw [ff 11 (by decide) (by decide)]; exact hk
                  have hfl := fls_bd (A := (sA wd N p)) (m := p.1) (n := n) hlb g.toNat (by omega)
                  refine g_iload_n (i := 2) dX5_moveRows_68 rfl rfl ?_
                  refine g_aload_n (i := 0) dX5_moveRows_69 rfl rfl ?_
                  refine g_getI (ji := 6) dX5_moveRows_70 fl5_30 (by first | rfl | assumption) (by first | decide | (show _ < 62; omega)) (by first | rfl | assumption) (by decide) rfl (by first | assumption | rfl) ?_
                  refine g_icmp_ge 97 dX5_moveRows_73 (by decide) (fun b73 => ?_) (fun b73 => ?_)
                  · skip
                    have hgk : g = k := by omega
                    rw [hgk] at h1 h2
                    refine g_aload_n (i := 0) dX5_moveRows_97 rfl rfl ?_
                    refine g_aload_n (i := 1) dX5_moveRows_98 rfl rfl ?_
                    refine g_getI (ji := 3) dX5_moveRows_99 fl5_38 (by first | rfl | assumption) (by first | decide | (show _ < 62; omega)) (by first | rfl | assumption) (by decide) rfl (by first | assumption | rfl) ?_
                    refine n_callVi (k_X5_noteMoves _ n (lb wd N n k p) B t3 (fun r q0 q1 => ⟨h1 r q0 q1, by have := lb_bd (wd := wd) (N := N) (n := n) (p := p) k0.1 r; omega⟩) (fun r q0 q1 => by rw [ff 13 (by decide) (by decide)]; exact hB r q0 q1)) dX5_moveRows_102 lk5_82 im_X5_noteMoves (by first | rfl | assumption) (by first | decide | (show _ < 62; omega)) rfl rfl rfl rfl (Nat.le_of_ble_eq_true rfl) (fun z c2 hz => ?_)
                    obtain ⟨v1, v2, v3⟩ := hz
                    exact n_retz dX5_moveRows_105 rfl (by first | exact Or.inl rfl | exact Or.inr rfl | assumption | omega) (⟨fun q q1 q2 q3 => by rw [v1 q q2]; exact ff q q1 q3, fun r q0 q1 => by rw [v1 12 (by decide)]; exact h1 r q0 q1, v2, fun q q0 q1 => by rw [v1 14 (by decide)]; exact h2 q q0 q1, v3⟩)
                  · skip
                    have h2g := h2 g g0 (by omega)
                    have hcb := cn_bd (g := (fls (sA wd N p) p.1 n (l0 (sA wd N p) p.1 k) (g).toNat)) (n := n) (k := g) (by omega)
                    refine g_aload_n (i := 0) dX5_moveRows_76 rfl rfl ?_
                    refine g_getP dX5_moveRows_77 fl5_18 (by first | rfl | assumption) (by first | decide | (show _ < 62; omega)) (by first | rfl | assumption) ?_
                    refine g_iload_n (i := 2) dX5_moveRows_80 rfl rfl ?_
                    refine g_iaload dX5_moveRows_81 (by first | rfl | assumption) (by first | decide | (show _ < 62; omega)) ?_
                    refine g_if_ne 91 dX5_moveRows_82 (by decide) (fun b82 => ?_) (fun b82 => ?_)
                    · skip
                      refine g_iinc2 dX5_moveRows_91 rfl ?_
                      refine g_goto 68 dX5_moveRows_94 (by decide) ?_
                      exact ih68 _ _ (by omega) (by first | assumption | omega) (by first | assumption | omega) (by first | exact ff | exact fun q q1 q2 => by rw [hz.1 q q1 q2]; exact ff q q1 q2) (by rw [fls_s g0]; unfold fl; first | (rw [if_pos (by omega)]; exact hz.2.1) | (rw [if_neg (by omega)]; exact h1)) (by rw [fls_s g0]; unfold fl; first | (rw [if_pos (by omega)]; exact hz.2.2) | (rw [if_neg (by omega)]; exact h2))
                    · skip
                      have hcz : cn (fls (sA wd N p) p.1 n (l0 (sA wd N p) p.1 k) (g).toNat) n g = 0 := by omega
                      obtain ⟨y, y0, y1, y2⟩ := pg (L := (fls (sA wd N p) p.1 n (l0 (sA wd N p) p.1 k) (g).toNat)) (n := n) (k := k) (fun r _ _ => hfl r) kn g0 (by omega) hcz
                      have hfb := fb_ne (A := (sA wd N p)) (m := p.1) y0 y2 n.toNat (by omega)
                      refine g_aload_n (i := 0) dX5_moveRows_85 rfl rfl ?_
                      refine g_aload_n (i := 1) dX5_moveRows_86 rfl rfl ?_
                      refine g_iload_n (i := 2) dX5_moveRows_87 rfl rfl ?_
                      refine n_callVv (k_X5_takeFarthest _ n wd N hT1 k p k0 hp hm1 (fls (sA wd N p) p.1 n (l0 (sA wd N p) p.1 k) (g).toNat) g g0 (by omega) (fun r q0 q1 => ⟨h1 r q0 q1, hfl r⟩) h2 hcz hfb) dX5_moveRows_88 lk5_78 im_X5_takeFarthest (by first | rfl | assumption) (by first | decide | (show _ < 62; omega)) rfl rfl rfl rfl (Nat.le_of_ble_eq_true rfl) (fun c2 hz => ?_)
                      skip
                      refine g_iinc2 dX5_moveRows_91 rfl ?_
                      refine g_goto 68 dX5_moveRows_94 (by decide) ?_
                      exact ih68 _ _ (by omega) (by first | assumption | omega) (by first | assumption | omega) (by first | exact ff | exact fun q q1 q2 => by rw [hz.1 q q1 q2]; exact ff q q1 q2) (by rw [fls_s g0]; unfold fl; first | (rw [if_pos (by omega)]; exact hz.2.1) | (rw [if_neg (by omega)]; exact h1)) (by rw [fls_s g0]; unfold fl; first | (rw [if_pos (by omega)]; exact hz.2.2) | (rw [if_neg (by omega)]; exact h2))
              exact L68 _ _ _ (Nat.lt_succ_self _) (by first | assumption | omega) (by first | assumption | omega) (by first | assumption | omega) (fun x q0 q1 => h1 x q0 (by omega)) (fun q q0 q1 => by rw [h2 q q0 q1, show r = n by omega]; rfl)
            · skip
              refine g_aload_n (i := 0) dX5_moveRows_33 rfl rfl ?_
              refine g_getP dX5_moveRows_34 fl5_9 (by first | rfl | assumption) (by first | decide | (show _ < 62; omega)) (by first | rfl | assumption) ?_
              refine g_iload_n (i := 2) dX5_moveRows_37 rfl rfl ?_
              refine g_aload_n (i := 0) dX5_moveRows_38 rfl rfl ?_
              refine g_aload_n (i := 1) dX5_moveRows_39 rfl rfl ?_
              refine g_iload_n (i := 2) dX5_moveRows_40 rfl rfl ?_
              refine n_callVi (k_X5_nearestMean _ n wd N hT1 k p k0 hp hm1 e6 _ (by omega) (by omega)) dX5_moveRows_41 lk5_75 im_X5_nearestMean (by first | rfl | assumption) (by first | decide | (show _ < 62; omega)) rfl rfl rfl rfl (Nat.le_of_ble_eq_true rfl) (fun z c' hz => ?_)
              obtain ⟨rfl, hz2⟩ := hz
              have hz2 := hz2.symm
              subst hz2
              refine g_iastore dX5_moveRows_44 (by first | rfl | assumption) (by first | decide | (show _ < 62; omega)) ?_
              refine g_aload_n (i := 0) dX5_moveRows_45 rfl rfl ?_
              refine g_getP dX5_moveRows_46 fl5_18 (by first | rfl | assumption) (by first | decide | (show _ < 62; omega)) (by first | rfl | assumption) ?_
              refine g_aload_n (i := 0) dX5_moveRows_49 rfl rfl ?_
              refine g_getP dX5_moveRows_50 fl5_9 (by first | rfl | assumption) (by first | decide | (show _ < 62; omega)) (by first | rfl | assumption) ?_
              refine g_iload_n (i := 2) dX5_moveRows_53 rfl rfl ?_
              refine g_iaload dX5_moveRows_54 rfl (by decide) ?_
              rw [show qu c1 12 r ((l0 (sA wd N p) p.1 k) r) 12 r = (l0 (sA wd N p) p.1 k) r from qu_eq _ _ _ _]
              have hlr := hlb r
              skip -- ?_
              first | refine g_dup2 dX5_moveRows_55 rfl rfl ?_ | refine g_dup2l dX5_moveRows_55 rfl ?_
              refine g_iaload dX5_moveRows_56 rfl (by decide) ?_
              rw [show qu c1 12 r ((l0 (sA wd N p) p.1 k) r) 14 ((l0 (sA wd N p) p.1 k) r) = c1 14 ((l0 (sA wd N p) p.1 k) r) from rfl]
              skip -- ?_
              refine g_iconst dX5_moveRows_57 ?_
              refine g_iadd dX5_moveRows_58 ?_
              refine g_iastore dX5_moveRows_59 (by first | rfl | assumption) (by first | decide | (show _ < 62; omega)) ?_
              refine g_iinc2 dX5_moveRows_60 rfl ?_
              refine g_goto 25 dX5_moveRows_63 (by decide) ?_
              exact ih25 _ _ (by omega) (by first | assumption | omega) (by first | assumption | omega) (fun q q1 q2 => by rw [qu_ne q2, qu_ne q1]; exact ff q q1 q2) (fun x q0 q1 => by
        show qu c1 12 r ((l0 (sA wd N p) p.1 k) r) 12 x = _
        rw [qu_at]; split
        · rename_i h; rw [h]
        · exact h1 x q0 (by omega)) (fun q q0 q1 => by
        rw [cn_s r0, qu_at]
        by_cases e : q = (l0 (sA wd N p) p.1 k) r
        · rw [if_pos e, if_pos e.symm, e]
          have := h2 ((l0 (sA wd N p) p.1 k) r) (by omega) (by omega)
          omega
        · rw [if_neg e, if_neg (fun h => e h.symm)]
          show c1 14 q = _
          rw [h2 q q0 q1]; omega)
        exact L25 _ _ _ (Nat.lt_succ_self _) (by first | assumption | omega) (by first | assumption | omega) (fun q q1 q2 => ff q q2) (fun x q0 q1 => by omega) (fun q q0 q1 => by rw [h1 q q0 (by omega)]; rfl)
      · skip
        refine g_aload_n (i := 0) dX5_moveRows_10 rfl rfl ?_
        refine g_getP dX5_moveRows_11 fl5_18 (by first | rfl | assumption) (by first | decide | (show _ < 62; omega)) (by first | rfl | assumption) ?_
        refine g_iload_n (i := 2) dX5_moveRows_14 rfl rfl ?_
        refine g_iconst dX5_moveRows_15 ?_
        refine g_iastore dX5_moveRows_16 (by first | rfl | assumption) (by first | decide | (show _ < 62; omega)) ?_
        refine g_iinc2 dX5_moveRows_17 rfl ?_
        refine g_goto 2 dX5_moveRows_20 (by decide) ?_
        exact ih2 _ _ (by omega) (by first | assumption | omega) (by first | assumption | omega) (fun q hq => by rw [qu_ne hq]; exact ff q hq) (fun x q0 q1 => by
        rw [qu_at]; split
        · rfl
        · exact h1 x q0 (by omega))
  exact L2 _ _ _ (Nat.lt_succ_self _) (by first | assumption | omega) (by first | assumption | omega) (fun q _ => rfl) (fun x q0 q1 => by omega)
set_option maxHeartbeats 4000000 in
set_option maxRecDepth 100000 in
theorem k_X5_remakeMeans (c : qC) (n wd : Int) (N : Int → Int → Int) (hT : Tb c n wd N) (k : Int) (L : Int → Int) (k0 : 1 ≤ k ∧ k ≤ 6) (hk : c 11 6 = k) (hL : ∀ r, 0 ≤ r → r < n → c 12 r = L r ∧ 0 ≤ L r ∧ L r < k) (hs : ∀ q, 0 ≤ q → q < k → c 14 q = cn L n q) : qN X5_remakeMeans 1 [qP 11, qP 1] c (pV (fun c' => (∀ q, q ≠ 15 → q ≠ 16 → c' q = c q) ∧ MC c' k wd (nxm n N L))) := by
  have hT0 := hT
  obtain ⟨t1, t2, t3, t4, t5, t6, t7⟩ := hT
  refine qN.of [some (qP 11), some (qP 1), none, none] (by decide) rfl (fun _ => rfl) (fun _ => Nat.le_of_ble_eq_true rfl) ?_
  refine g_iconst dX5_remakeMeans_0 ?_
  refine g_istore_n2 dX5_remakeMeans_1 rfl ?_
  have L2 : ∀ (fu2 : Nat) (g : Int) (c1 : qC), (k - g).toNat < fu2 → (0 ≤ g) → (g ≤ k) → (∀ q, q ≠ 15 → q ≠ 16 → c1 q = c q) → (∀ q, 0 ≤ q → q < g → c1 16 q = cn L n q ∧ ∀ x, 0 ≤ x → x < wd → c1 15 (q * 4 + x) = 0) → qG (qYn X5_remakeMeans 1 (pV (fun c' => (∀ q, q ≠ 15 → q ≠ 16 → c' q = c q) ∧ MC c' k wd (nxm n N L)))) wN 2 [some (qP 11), some (qP 1), some (qI g), none] [] c1 := by
    intro fu2
    induction fu2 with
    | zero => intro g c1 hm; exact absurd hm (Nat.not_lt_zero _)
    | succ fu2 ih2 =>
      intro g c1 hm2 g0 g1 ff h1
      have e6 : c1 11 6 = k := by rw [ff 11 (by decide) (by decide)]; exact hk
      refine g_iload_n (i := 2) dX5_remakeMeans_2 rfl rfl ?_
      refine g_aload_n (i := 0) dX5_remakeMeans_3 rfl rfl ?_
      refine g_getI (ji := 6) dX5_remakeMeans_4 fl5_30 (by first | rfl | assumption) (by first | decide | (show _ < 62; omega)) (by first | rfl | assumption) (by decide) rfl (by first | assumption | rfl) ?_
      refine g_icmp_ge 55 dX5_remakeMeans_7 (by decide) (fun b7 => ?_) (fun b7 => ?_)
      · skip
        refine g_iconst dX5_remakeMeans_55 ?_
        refine g_istore_n2 dX5_remakeMeans_56 rfl ?_
        have L57 : ∀ (fu57 : Nat) (r : Int) (c1 : qC), (n - r).toNat < fu57 → (0 ≤ r) → (r ≤ n) → (∀ q, q ≠ 15 → q ≠ 16 → c1 q = c q) → (∀ q, 0 ≤ q → q < k → c1 16 q = cn L n q ∧ ∀ x, 0 ≤ x → x < wd → c1 15 (q * 4 + x) = sg L r q (fun r => N r x)) → qG (qYn X5_remakeMeans 1 (pV (fun c' => (∀ q, q ≠ 15 → q ≠ 16 → c' q = c q) ∧ MC c' k wd (nxm n N L)))) wN 57 [some (qP 11), some (qP 1), some (qI r), none] [] c1 := by
          intro fu57
          induction fu57 with
          | zero => intro r c1 hm; exact absurd hm (Nat.not_lt_zero _)
          | succ fu57 ih57 =>
            intro r c1 hm57 r0 r1 ff h1
            have e1 : c1 1 3 = n := by rw [ff 1 (by decide) (by decide)]; exact t1
            have hLr : r < n → 0 ≤ L r ∧ L r < k := fun h => (hL r r0 h).2
            refine g_iload_n (i := 2) dX5_remakeMeans_57 rfl rfl ?_
            refine g_aload_n (i := 1) dX5_remakeMeans_58 rfl rfl ?_
            refine g_getI (ji := 3) dX5_remakeMeans_59 fl5_38 (by first | rfl | assumption) (by first | decide | (show _ < 62; omega)) (by first | rfl | assumption) (by decide) rfl (by first | assumption | rfl) ?_
            refine g_icmp_ge 111 dX5_remakeMeans_62 (by decide) (fun b62 => ?_) (fun b62 => ?_)
            · skip
              exact n_retv dX5_remakeMeans_111 rfl (⟨ff, fun g q0 q1 => ⟨(h1 g q0 q1).1, fun x x0 x1 => by rw [(h1 g q0 q1).2 x x0 x1, show r = n by omega]; rfl⟩⟩)
            · skip
              refine g_iconst dX5_remakeMeans_65 ?_
              refine g_istore_n3 dX5_remakeMeans_66 rfl ?_
              have L67 : ∀ (fu67 : Nat) (x : Int) (c2 : qC), (wd - x).toNat < fu67 → (0 ≤ x) → (x ≤ wd) → (∀ q, q ≠ 15 → q ≠ 16 → c2 q = c q) → (∀ q, 0 ≤ q → q < k → c2 16 q = cn L n q ∧ ∀ y, 0 ≤ y → y < wd → c2 15 (q * 4 + y) = if y < x then sg L (r + 1) q (fun r => N r y) else sg L r q (fun r => N r y)) → qG (qYn X5_remakeMeans 1 (pV (fun c' => (∀ q, q ≠ 15 → q ≠ 16 → c' q = c q) ∧ MC c' k wd (nxm n N L)))) wN 67 [some (qP 11), some (qP 1), some (qI r), some (qI x)] [] c2 := by
                intro fu67
                induction fu67 with
                | zero => intro x c2 hm; exact absurd hm (Nat.not_lt_zero _)
                | succ fu67 ih67 =>
                  intro x c2 hm67 x0 x1 ff2 h2
                  have e2 : c2 1 2 = wd := by rw [ff2 1 (by decide) (by decide)]; exact t2
                  refine g_iload_n (i := 3) dX5_remakeMeans_67 rfl rfl ?_
                  refine g_aload_n (i := 1) dX5_remakeMeans_68 rfl rfl ?_
                  refine g_getI (ji := 2) dX5_remakeMeans_69 fl5_59 (by first | rfl | assumption) (by first | decide | (show _ < 62; omega)) (by first | rfl | assumption) (by decide) rfl (by first | assumption | rfl) ?_
                  refine g_icmp_ge 105 dX5_remakeMeans_72 (by decide) (fun b72 => ?_) (fun b72 => ?_)
                  · skip
                    refine g_iinc2 dX5_remakeMeans_105 rfl ?_
                    refine g_goto 57 dX5_remakeMeans_108 (by decide) ?_
                    refine g_fg3 ?_
                    exact ih57 _ _ (by omega) (by first | assumption | omega) (by first | assumption | omega) ff2 (fun q q0 q1 => ⟨(h2 q q0 q1).1, fun y y0 y1 => by rw [(h2 q q0 q1).2 y y0 y1, if_pos (by omega)]⟩)
                  · skip
                    have hLL := hLr (by omega)
                    have hLc : c2 12 r = L r := by rw [ff2 12 (by decide) (by decide)]; exact (hL r r0 (by omega)).1
                    refine g_aload_n (i := 0) dX5_remakeMeans_75 rfl rfl ?_
                    refine g_getP dX5_remakeMeans_76 fl5_21 (by first | rfl | assumption) (by first | decide | (show _ < 62; omega)) (by first | rfl | assumption) ?_
                    refine g_aload_n (i := 0) dX5_remakeMeans_79 rfl rfl ?_
                    refine g_getP dX5_remakeMeans_80 fl5_9 (by first | rfl | assumption) (by first | decide | (show _ < 62; omega)) (by first | rfl | assumption) ?_
                    refine g_iload_n (i := 2) dX5_remakeMeans_83 rfl rfl ?_
                    refine g_iaload dX5_remakeMeans_84 rfl (by decide) ?_
                    rw [hLc]
                    skip -- ?_
                    refine g_iconst dX5_remakeMeans_85 ?_
                    refine g_imul dX5_remakeMeans_86 ?_
                    refine g_iload_n (i := 3) dX5_remakeMeans_87 rfl rfl ?_
                    refine g_iadd dX5_remakeMeans_88 ?_
                    first | refine g_dup2 dX5_remakeMeans_89 rfl rfl ?_ | refine g_dup2l dX5_remakeMeans_89 rfl ?_
                    refine g_iaload dX5_remakeMeans_90 (by first | rfl | assumption) (by first | decide | (show _ < 62; omega)) ?_
                    refine g_aload_n (i := 1) dX5_remakeMeans_91 rfl rfl ?_
                    refine g_iload_n (i := 2) dX5_remakeMeans_92 rfl rfl ?_
                    refine g_iload_n (i := 3) dX5_remakeMeans_93 rfl rfl ?_
                    refine n_callVi (k_X6_cell _ _ _ (by omega) (by omega) (by omega) (by omega)) dX5_remakeMeans_94 lk5_62 im_X6_cell (by first | rfl | assumption) (by first | decide | (show _ < 62; omega)) rfl rfl rfl rfl (Nat.le_of_ble_eq_true rfl) (fun z c' hz => ?_)
                    obtain ⟨rfl, hz2⟩ := hz
                    have hz2 := hz2.symm
                    subst hz2
                    rw [show c2 2 (r * 4 + x) = N r x by rw [ff2 2 (by decide) (by decide)]; exact t5 r x r0 (by omega) x0 (by omega)]
                    refine g_iadd dX5_remakeMeans_97 ?_
                    refine g_iastore dX5_remakeMeans_98 (by first | rfl | assumption) (by first | decide | (show _ < 62; omega)) ?_
                    refine g_iinc3 dX5_remakeMeans_99 rfl ?_
                    refine g_goto 67 dX5_remakeMeans_102 (by decide) ?_
                    exact ih67 _ _ (by omega) (by first | assumption | omega) (by first | assumption | omega) (fun q q1 q2 => by rw [qu_ne q1]; exact ff2 q q1 q2) (fun q q0 q1 => by
        refine ⟨(h2 q q0 q1).1, fun y y0 y1 => ?_⟩
        have hLL := hLr (by omega)
        rw [qu_at]
        by_cases e : q * 4 + y = L r * 4 + x
        · obtain rfl : q = L r := by omega
          obtain rfl : y = x := by omega
          rw [if_pos e, if_pos (by omega), sg_s r0, if_pos rfl]
          have h5 := (h2 (L r) hLL.1 hLL.2).2 y y0 y1
          rw [if_neg (by omega)] at h5
          rw [h5]
        · rw [if_neg e, (h2 q q0 q1).2 y y0 y1]
          by_cases e2 : y < x
          · rw [if_pos e2, if_pos (by omega)]
          · rw [if_neg e2]
            by_cases e3 : y = x
            · rw [if_pos (by omega), sg_s r0, if_neg (fun h => by rw [h] at e; omega)]; omega
            · rw [if_neg (by omega)])
              exact L67 _ _ _ (Nat.lt_succ_self _) (by first | assumption | omega) (by first | assumption | omega) ff (fun q q0 q1 => ⟨(h1 q q0 q1).1, fun y y0 y1 => by rw [(h1 q q0 q1).2 y y0 y1, if_neg (by omega)]⟩)
        exact L57 _ _ _ (Nat.lt_succ_self _) (by first | assumption | omega) (by first | assumption | omega) (by first | assumption | omega) (fun q q0 q1 => ⟨(h1 q q0 (by omega)).1, fun x x0 x1 => (h1 q q0 (by omega)).2 x x0 x1⟩)
      · skip
        refine g_aload_n (i := 0) dX5_remakeMeans_10 rfl rfl ?_
        refine g_getP dX5_remakeMeans_11 fl5_24 (by first | rfl | assumption) (by first | decide | (show _ < 62; omega)) (by first | rfl | assumption) ?_
        refine g_iload_n (i := 2) dX5_remakeMeans_14 rfl rfl ?_
        refine g_aload_n (i := 0) dX5_remakeMeans_15 rfl rfl ?_
        refine g_getP dX5_remakeMeans_16 fl5_18 (by first | rfl | assumption) (by first | decide | (show _ < 62; omega)) (by first | rfl | assumption) ?_
        refine g_iload_n (i := 2) dX5_remakeMeans_19 rfl rfl ?_
        refine g_iaload dX5_remakeMeans_20 rfl (by decide) ?_
        rw [show c1 14 g = cn L n g by rw [ff 14 (by decide) (by decide)]; exact hs g g0 (by omega)]
        skip -- ?_
        refine g_iastore dX5_remakeMeans_21 (by first | rfl | assumption) (by first | decide | (show _ < 62; omega)) ?_
        refine g_iconst dX5_remakeMeans_22 ?_
        refine g_istore_n3 dX5_remakeMeans_23 rfl ?_
        have L24 : ∀ (fu24 : Nat) (x : Int) (c2 : qC), (wd - x).toNat < fu24 → (0 ≤ x) → (x ≤ wd) → (∀ q, q ≠ 15 → q ≠ 16 → c2 q = c q) → (∀ q, 0 ≤ q → q < g + 1 → c2 16 q = cn L n q ∧ ∀ y, 0 ≤ y → y < wd → (q < g ∨ y < x) → c2 15 (q * 4 + y) = 0) → qG (qYn X5_remakeMeans 1 (pV (fun c' => (∀ q, q ≠ 15 → q ≠ 16 → c' q = c q) ∧ MC c' k wd (nxm n N L)))) wN 24 [some (qP 11), some (qP 1), some (qI g), some (qI x)] [] c2 := by
          intro fu24
          induction fu24 with
          | zero => intro x c2 hm; exact absurd hm (Nat.not_lt_zero _)
          | succ fu24 ih24 =>
            intro x c2 hm24 x0 x1 ff2 h2
            have e2 : c2 1 2 = wd := by rw [ff2 1 (by decide) (by decide)]; exact t2
            refine g_iload_n (i := 3) dX5_remakeMeans_24 rfl rfl ?_
            refine g_aload_n (i := 1) dX5_remakeMeans_25 rfl rfl ?_
            refine g_getI (ji := 2) dX5_remakeMeans_26 fl5_59 (by first | rfl | assumption) (by first | decide | (show _ < 62; omega)) (by first | rfl | assumption) (by decide) rfl (by first | assumption | rfl) ?_
            refine g_icmp_ge 49 dX5_remakeMeans_29 (by decide) (fun b29 => ?_) (fun b29 => ?_)
            · skip
              refine g_iinc2 dX5_remakeMeans_49 rfl ?_
              refine g_goto 2 dX5_remakeMeans_52 (by decide) ?_
              refine g_fg3 ?_
              exact ih2 _ _ (by omega) (by first | assumption | omega) (by first | assumption | omega) ff2 (fun q q0 q1 => ⟨(h2 q q0 q1).1, fun y y0 y1 => (h2 q q0 q1).2 y y0 y1 (by omega)⟩)
            · skip
              refine g_aload_n (i := 0) dX5_remakeMeans_32 rfl rfl ?_
              refine g_getP dX5_remakeMeans_33 fl5_21 (by first | rfl | assumption) (by first | decide | (show _ < 62; omega)) (by first | rfl | assumption) ?_
              refine g_iload_n (i := 2) dX5_remakeMeans_36 rfl rfl ?_
              refine g_iconst dX5_remakeMeans_37 ?_
              refine g_imul dX5_remakeMeans_38 ?_
              refine g_iload_n (i := 3) dX5_remakeMeans_39 rfl rfl ?_
              refine g_iadd dX5_remakeMeans_40 ?_
              refine g_iconst dX5_remakeMeans_41 ?_
              refine g_iastore dX5_remakeMeans_42 (by first | rfl | assumption) (by first | decide | (show _ < 62; omega)) ?_
              refine g_iinc3 dX5_remakeMeans_43 rfl ?_
              refine g_goto 24 dX5_remakeMeans_46 (by decide) ?_
              exact ih24 _ _ (by omega) (by first | assumption | omega) (by first | assumption | omega) (fun q q1 q2 => by rw [qu_ne q1]; exact ff2 q q1 q2) (fun q q0 q1 => by
        refine ⟨(h2 q q0 q1).1, fun y y0 y1 h => ?_⟩
        rw [qu_at]; split
        · rfl
        · exact (h2 q q0 q1).2 y y0 y1 (by omega))
        exact L24 _ _ _ (Nat.lt_succ_self _) (by first | assumption | omega) (by first | assumption | omega) (fun q q1 q2 => by rw [qu_ne q2]; exact ff q q1 q2) (fun q q0 q1 => by
        refine ⟨?_, fun y y0 y1 h => (h1 q q0 (by omega)).2 y y0 y1⟩
        rw [qu_at]; split
        · rename_i h; rw [h]
        · exact (h1 q q0 (by omega)).1)
  exact L2 _ _ _ (Nat.lt_succ_self _) (by first | assumption | omega) (by first | assumption | omega) (fun q _ _ => rfl) (fun x q0 q1 => by omega)
set_option maxHeartbeats 4000000 in
set_option maxRecDepth 100000 in
theorem k_X5_putFirstMean (c : qC) (n wd : Int) (N : Int → Int → Int) (hT : Tb c n wd N) (g q : Int) (g0 : 0 ≤ g) (g1 : g < 6) (q0 : 0 ≤ q) (q1 : q < n) : qN X5_putFirstMean 1 [qP 11, qP 1, qI g, qI q] c (pV (fun c' => (∀ u, u ≠ 15 → u ≠ 16 → c' u = c u) ∧ (∀ u, ¬ u = g → c' 16 u = c 16 u) ∧ c' 16 g = 1 ∧ (∀ u, u < g * 4 → c' 15 u = c 15 u) ∧ ∀ x, 0 ≤ x → x < wd → c' 15 (g * 4 + x) = N q x)) := by
  have hT0 := hT
  obtain ⟨t1, t2, t3, t4, t5, t6, t7⟩ := hT
  refine qN.of [some (qP 11), some (qP 1), some (qI g), some (qI q), none] (by decide) rfl (fun _ => rfl) (fun _ => Nat.le_of_ble_eq_true rfl) ?_
  refine g_aload_n (i := 0) dX5_putFirstMean_0 rfl rfl ?_
  refine g_getP dX5_putFirstMean_1 fl5_24 (by first | rfl | assumption) (by first | decide | (show _ < 62; omega)) (by first | rfl | assumption) ?_
  refine g_iload_n (i := 2) dX5_putFirstMean_4 rfl rfl ?_
  refine g_iconst dX5_putFirstMean_5 ?_
  refine g_iastore dX5_putFirstMean_6 (by first | rfl | assumption) (by first | decide | (show _ < 62; omega)) ?_
  refine g_iconst dX5_putFirstMean_7 ?_
  refine g_istore4 dX5_putFirstMean_8 rfl ?_
  have L10 : ∀ (fu10 : Nat) (x : Int) (c1 : qC), (wd - x).toNat < fu10 → (0 ≤ x) → (x ≤ wd) → (∀ u, u ≠ 15 → c1 u = qu c 16 g 1 u) → (∀ u, u < g * 4 → c1 15 u = c 15 u) → (∀ y, 0 ≤ y → y < x → c1 15 (g * 4 + y) = N q y) → qG (qYn X5_putFirstMean 1 (pV (fun c' => (∀ u, u ≠ 15 → u ≠ 16 → c' u = c u) ∧ (∀ u, ¬ u = g → c' 16 u = c 16 u) ∧ c' 16 g = 1 ∧ (∀ u, u < g * 4 → c' 15 u = c 15 u) ∧ ∀ x, 0 ≤ x → x < wd → c' 15 (g * 4 + x) = N q x))) wN 10 [some (qP 11), some (qP 1), some (qI g), some (qI q), some (qI x)] [] c1 := by
    intro fu10
    induction fu10 with
    | zero => intro x c1 hm; exact absurd hm (Nat.not_lt_zero _)
    | succ fu10 ih10 =>
      intro x c1 hm10 x0 x1 ff h1 h2
      have e2 : c1 1 2 = wd := by rw [ff 1 (by decide)]; exact t2
      refine g_iload dX5_putFirstMean_10 rfl ?_
      refine g_aload_n (i := 1) dX5_putFirstMean_12 rfl rfl ?_
      refine g_getI (ji := 2) dX5_putFirstMean_13 fl5_59 (by first | rfl | assumption) (by first | decide | (show _ < 62; omega)) (by first | rfl | assumption) (by decide) rfl (by first | assumption | rfl) ?_
      refine g_icmp_ge 43 dX5_putFirstMean_16 (by decide) (fun b16 => ?_) (fun b16 => ?_)
      · skip
        exact n_retv dX5_putFirstMean_43 rfl (⟨fun u u1 u2 => by rw [ff u u1, qu_ne u2], fun u hu => by rw [ff 16 (by decide), qu_off hu], by rw [ff 16 (by decide), qu_eq], h1, fun y y0 y1 => h2 y y0 (by omega)⟩)
      · skip
        refine g_aload_n (i := 0) dX5_putFirstMean_19 rfl rfl ?_
        refine g_getP dX5_putFirstMean_20 fl5_21 (by first | rfl | assumption) (by first | decide | (show _ < 62; omega)) (by first | rfl | assumption) ?_
        refine g_iload_n (i := 2) dX5_putFirstMean_23 rfl rfl ?_
        refine g_iconst dX5_putFirstMean_24 ?_
        refine g_imul dX5_putFirstMean_25 ?_
        refine g_iload dX5_putFirstMean_26 rfl ?_
        refine g_iadd dX5_putFirstMean_28 ?_
        refine g_aload_n (i := 1) dX5_putFirstMean_29 rfl rfl ?_
        refine g_iload_n (i := 3) dX5_putFirstMean_30 rfl rfl ?_
        refine g_iload dX5_putFirstMean_31 rfl ?_
        refine n_callVi (k_X6_cell _ _ _ (by omega) (by omega) (by omega) (by omega)) dX5_putFirstMean_33 lk5_62 im_X6_cell (by first | rfl | assumption) (by first | decide | (show _ < 62; omega)) rfl rfl rfl rfl (Nat.le_of_ble_eq_true rfl) (fun z c' hz => ?_)
        obtain ⟨rfl, hz2⟩ := hz
        have hz2 := hz2.symm
        subst hz2
        rw [show c1 2 (q * 4 + x) = N q x by rw [ff 2 (by decide)]; exact t5 q x q0 q1 x0 (by omega)]
        refine g_iastore dX5_putFirstMean_36 (by first | rfl | assumption) (by first | decide | (show _ < 62; omega)) ?_
        refine g_iinc4 dX5_putFirstMean_37 rfl ?_
        refine g_goto 10 dX5_putFirstMean_40 (by decide) ?_
        exact ih10 _ _ (by omega) (by first | assumption | omega) (by first | assumption | omega) (fun u hu => by rw [qu_ne hu]; exact ff u hu) (fun u hu => by rw [qu_off (by omega)]; exact h1 u hu) (fun y y0 y1 => by
        rw [qu_at]; split
        · rw [show y = x by omega]
        · exact h2 y y0 (by omega))
  exact L10 _ _ _ (Nat.lt_succ_self _) (by first | assumption | omega) (by first | assumption | omega) (fun u _ => rfl) (fun u _ => rfl) (fun y y0 y1 => by omega)
set_option maxHeartbeats 4000000 in
set_option maxRecDepth 100000 in
theorem k_X5_farthestFromChosen (c : qC) (n wd : Int) (N : Int → Int → Int) (hT : Tb c n wd N) (W : Int → Int) (q : Int) (n1 : 1 ≤ n) (q0 : 0 ≤ q) (q1 : q < n) (hW : ∀ r, 0 ≤ r → r < n → c 17 r = W r ∧ -1 ≤ W r ∧ W r ≤ 2000000000) : qN X5_farthestFromChosen 2 [qP 11, qP 1, qI q] c (pI (fun z c' => z = fxr (nW (ds wd N 0) W q) n.toNat ∧ (∀ u, u ≠ 17 → c' u = c u) ∧ ∀ r, 0 ≤ r → r < n → c' 17 r = (nW (ds wd N 0) W q) r)) := by
  have hT0 := hT
  obtain ⟨t1, t2, t3, t4, t5, t6, t7⟩ := hT
  have d0 : (0 : Int) ≤ 0 := Int.le_refl _
  have d1 : (0 : Int) < 3 := by decide
  refine qN.of [some (qP 11), some (qP 1), some (qI q), none, none] (by decide) rfl (fun _ => rfl) (fun _ => Nat.le_of_ble_eq_true rfl) ?_
  refine g_iconst dX5_farthestFromChosen_0 ?_
  refine g_istore_n3 dX5_farthestFromChosen_1 rfl ?_
  refine g_aload_n (i := 0) dX5_farthestFromChosen_2 rfl rfl ?_
  refine g_getP dX5_farthestFromChosen_3 fl5_27 (by first | rfl | assumption) (by first | decide | (show _ < 62; omega)) (by first | rfl | assumption) ?_
  refine g_iload_n (i := 2) dX5_farthestFromChosen_6 rfl rfl ?_
  refine g_iconst dX5_farthestFromChosen_7 ?_
  refine g_iastore dX5_farthestFromChosen_8 (by first | rfl | assumption) (by first | decide | (show _ < 62; omega)) ?_
  refine g_iconst dX5_farthestFromChosen_9 ?_
  refine g_istore4 dX5_farthestFromChosen_10 rfl ?_
  have L12 : ∀ (fu12 : Nat) (a r : Int) (c1 : qC), (n - r).toNat < fu12 → (0 ≤ r) → (r ≤ n) → (a = fxr (nW (ds wd N 0) W q) r.toNat) → (∀ u, u ≠ 17 → c1 u = c u) → (∀ x, 0 ≤ x → x < r → c1 17 x = (nW (ds wd N 0) W q) x) → (∀ x, r ≤ x → x < n → c1 17 x = if x = q then -1 else W x) → qG (qYn X5_farthestFromChosen 2 (pI (fun z c' => z = fxr (nW (ds wd N 0) W q) n.toNat ∧ (∀ u, u ≠ 17 → c' u = c u) ∧ ∀ r, 0 ≤ r → r < n → c' 17 r = (nW (ds wd N 0) W q) r))) wN 12 [some (qP 11), some (qP 1), some (qI q), some (qI a), some (qI r)] [] c1 := by
    intro fu12
    induction fu12 with
    | zero => intro a r c1 hm; exact absurd hm (Nat.not_lt_zero _)
    | succ fu12 ih12 =>
      intro a r c1 hm12 r0 r1 ha ff h1 h2
      have e1 : c1 1 3 = n := by rw [ff 1 (by decide)]; exact t1
      have hfb := fxr_bd (f := (nW (ds wd N 0) W q)) r.toNat
      rw [← ha] at hfb
      refine g_iload dX5_farthestFromChosen_12 rfl ?_
      refine g_aload_n (i := 1) dX5_farthestFromChosen_14 rfl rfl ?_
      refine g_getI (ji := 3) dX5_farthestFromChosen_15 fl5_38 (by first | rfl | assumption) (by first | decide | (show _ < 62; omega)) (by first | rfl | assumption) (by decide) rfl (by first | assumption | rfl) ?_
      refine g_icmp_ge 71 dX5_farthestFromChosen_18 (by decide) (fun b18 => ?_) (fun b18 => ?_)
      · skip
        refine g_iload_n (i := 3) dX5_farthestFromChosen_71 rfl rfl ?_
        exact n_reti dX5_farthestFromChosen_72 rfl (⟨by rw [ha, show r = n by omega], ff, fun x x0 x1 => h1 x x0 (by omega)⟩)
      · skip
        have hWr := hW r r0 (by omega)
        have h2r := h2 r (by omega) (by omega)
        have hwb : -1 ≤ (if r = q then -1 else W r) ∧ (if r = q then -1 else W r) ≤ 2000000000 := by split <;> omega
        have hdb := hT0.bd (kd := 0) q0 q1 r0 (show r < n by omega)
        have hWr2 : mn (if r = q then -1 else W r) (ds wd N 0 q r) = (nW (ds wd N 0) W q) r := rfl
        have hWb2 : -1 ≤ (nW (ds wd N 0) W q) r ∧ (nW (ds wd N 0) W q) r ≤ 2000000000 := by rw [← hWr2]; unfold mn; split <;> omega
        have hca : qu c1 17 r ((nW (ds wd N 0) W q) r) 17 a = (nW (ds wd N 0) W q) a := by
          rw [qu_at]; split
          · rename_i h; rw [h]
          · exact h1 a hfb.1 (by omega)
        refine g_aload_n (i := 0) dX5_farthestFromChosen_21 rfl rfl ?_
        refine g_getP dX5_farthestFromChosen_22 fl5_27 (by first | rfl | assumption) (by first | decide | (show _ < 62; omega)) (by first | rfl | assumption) ?_
        refine g_iload dX5_farthestFromChosen_25 rfl ?_
        refine g_aload_n (i := 0) dX5_farthestFromChosen_27 rfl rfl ?_
        refine g_getP dX5_farthestFromChosen_28 fl5_27 (by first | rfl | assumption) (by first | decide | (show _ < 62; omega)) (by first | rfl | assumption) ?_
        refine g_iload dX5_farthestFromChosen_31 rfl ?_
        refine g_iaload dX5_farthestFromChosen_33 rfl (by decide) ?_
        rw [h2r]
        skip -- ?_
        refine g_aload_n (i := 1) dX5_farthestFromChosen_34 rfl rfl ?_
        refine g_iconst dX5_farthestFromChosen_35 ?_
        refine g_iload_n (i := 2) dX5_farthestFromChosen_36 rfl rfl ?_
        refine g_iload dX5_farthestFromChosen_37 rfl ?_
        refine n_callVi (k_X6_apart _ _ _ _ (by omega) (by omega) (by omega) (by omega) (by omega) (by omega)) dX5_farthestFromChosen_39 lk5_66 im_X6_apart (by first | rfl | assumption) (by first | decide | (show _ < 62; omega)) rfl rfl rfl rfl (Nat.le_of_ble_eq_true rfl) (fun z c' hz => ?_)
        obtain ⟨rfl, hz2⟩ := hz
        have hz2 := hz2.symm
        subst hz2
        rw [show c1 3 ((0 * 30 + q) * 30 + r) = ds wd N 0 q r by rw [ff 3 (by decide)]; exact t7 0 q r d0 d1 q0 q1 r0 (by omega)]
        refine g_mmin dX5_farthestFromChosen_42 mw5_70 ?_ (Nat.le_refl 0) (Nat.le_refl 0) rfl (Nat.le_of_ble_eq_true rfl)
        refine g_iastore dX5_farthestFromChosen_45 (by first | rfl | assumption) (by first | decide | (show _ < 62; omega)) ?_
        have hcb2 : -1 ≤ (nW (ds wd N 0) W q) a ∧ (nW (ds wd N 0) W q) a ≤ 2000000000 := by
          by_cases e : a = r
          · rw [e]; exact hWb2
          · have h5 := hW a hfb.1 (by omega)
            have h6 := hT0.bd (kd := 0) q0 q1 hfb.1 (show a < n by omega)
            unfold nW mn; (repeat' split) <;> omega
        refine g_aload_n (i := 0) dX5_farthestFromChosen_46 rfl rfl ?_
        refine g_getP dX5_farthestFromChosen_47 fl5_27 (by first | rfl | assumption) (by first | decide | (show _ < 62; omega)) (by first | rfl | assumption) ?_
        refine g_iload dX5_farthestFromChosen_50 rfl ?_
        refine g_iaload dX5_farthestFromChosen_52 rfl (by decide) ?_
        rw [hWr2, qu_eq]
        skip -- ?_
        refine g_aload_n (i := 0) dX5_farthestFromChosen_53 rfl rfl ?_
        refine g_getP dX5_farthestFromChosen_54 fl5_27 (by first | rfl | assumption) (by first | decide | (show _ < 62; omega)) (by first | rfl | assumption) ?_
        refine g_iload_n (i := 3) dX5_farthestFromChosen_57 rfl rfl ?_
        refine g_iaload dX5_farthestFromChosen_58 rfl (by decide) ?_
        rw [hca]
        skip -- ?_
        refine g_icmp_le 65 dX5_farthestFromChosen_59 (by decide) (fun b59 => ?_) (fun b59 => ?_)
        · skip
          refine g_iinc4 dX5_farthestFromChosen_65 rfl ?_
          refine g_goto 12 dX5_farthestFromChosen_68 (by decide) ?_
          exact ih12 _ _ _ (by omega) (by first | assumption | omega) (by first | assumption | omega) (by rw [fxr_s r0, ← ha]; first | (rw [if_pos (by omega)]) | (rw [if_neg (by omega)])) (fun u hu => by rw [qu_ne hu]; exact ff u hu) (fun x x0 x1 => by
        rw [qu_at]; split
        · rename_i h; rw [h]
        · exact h1 x x0 (by omega)) (fun x x0 x1 => by rw [qu_off (by omega)]; exact h2 x (by omega) x1)
        · skip
          refine g_iload dX5_farthestFromChosen_62 rfl ?_
          refine g_istore_n3 dX5_farthestFromChosen_64 rfl ?_
          refine g_iinc4 dX5_farthestFromChosen_65 rfl ?_
          refine g_goto 12 dX5_farthestFromChosen_68 (by decide) ?_
          exact ih12 _ _ _ (by omega) (by first | assumption | omega) (by first | assumption | omega) (by rw [fxr_s r0, ← ha]; first | (rw [if_pos (by omega)]) | (rw [if_neg (by omega)])) (fun u hu => by rw [qu_ne hu]; exact ff u hu) (fun x x0 x1 => by
        rw [qu_at]; split
        · rename_i h; rw [h]
        · exact h1 x x0 (by omega)) (fun x x0 x1 => by rw [qu_off (by omega)]; exact h2 x (by omega) x1)
  exact L12 _ _ _ _ (Nat.lt_succ_self _) (by first | assumption | omega) (by first | assumption | omega) rfl (fun u hu => by rw [qu_ne hu]) (fun x x0 x1 => by omega) (fun x x0 x1 => by rw [qu_at, (hW x (by omega) x1).1])
set_option maxHeartbeats 4000000 in
set_option maxRecDepth 100000 in
theorem k_X5_chooseFirstMeans (c : qC) (n wd : Int) (N : Int → Int → Int) (hT : Tb c n wd N) (k : Int) (k0 : 1 ≤ k ∧ k ≤ 6) (kn : k ≤ n) (hk : c 11 6 = k) : qN X5_chooseFirstMeans 3 [qP 11, qP 1] c (pV (fun c' => (∀ u, u ≠ 15 → u ≠ 16 → u ≠ 17 → c' u = c u) ∧ MC c' k wd (p0 wd N n))) := by
  have hT0 := hT
  obtain ⟨t1, t2, t3, t4, t5, t6, t7⟩ := hT
  have hD : Db (ds wd N 0) n := fun i j i0 i1 j0 j1 => hT0.bd (kd := 0) i0 i1 j0 j1
  refine qN.of [some (qP 11), some (qP 1), none, none] (by decide) rfl (fun _ => rfl) (fun _ => Nat.le_of_ble_eq_true rfl) ?_
  refine g_iconst dX5_chooseFirstMeans_0 ?_
  refine g_istore_n2 dX5_chooseFirstMeans_1 rfl ?_
  have L2 : ∀ (fu2 : Nat) (r : Int) (c1 : qC), (n - r).toNat < fu2 → (0 ≤ r) → (r ≤ n) → (∀ u, u ≠ 17 → c1 u = c u) → (∀ x, 0 ≤ x → x < r → c1 17 x = 2000000000) → qG (qYn X5_chooseFirstMeans 3 (pV (fun c' => (∀ u, u ≠ 15 → u ≠ 16 → u ≠ 17 → c' u = c u) ∧ MC c' k wd (p0 wd N n)))) wN 2 [some (qP 11), some (qP 1), some (qI r), none] [] c1 := by
    intro fu2
    induction fu2 with
    | zero => intro r c1 hm; exact absurd hm (Nat.not_lt_zero _)
    | succ fu2 ih2 =>
      intro r c1 hm2 r0 r1 ff h1
      have e1 : c1 1 3 = n := by rw [ff 1 (by decide)]; exact t1
      refine g_iload_n (i := 2) dX5_chooseFirstMeans_2 rfl rfl ?_
      refine g_aload_n (i := 1) dX5_chooseFirstMeans_3 rfl rfl ?_
      refine g_getI (ji := 3) dX5_chooseFirstMeans_4 fl5_38 (by first | rfl | assumption) (by first | decide | (show _ < 62; omega)) (by first | rfl | assumption) (by decide) rfl (by first | assumption | rfl) ?_
      refine g_icmp_ge 24 dX5_chooseFirstMeans_7 (by decide) (fun b7 => ?_) (fun b7 => ?_)
      · skip
        refine g_iconst dX5_chooseFirstMeans_24 ?_
        refine g_istore_n2 dX5_chooseFirstMeans_25 rfl ?_
        refine g_iconst dX5_chooseFirstMeans_26 ?_
        refine g_istore_n3 dX5_chooseFirstMeans_27 rfl ?_
        have L28 : ∀ (fu28 : Nat) (q g : Int) (c1 : qC), (k - g).toNat < fu28 → (0 ≤ g) → (g ≤ k) → (∀ u, u ≠ 15 → u ≠ 16 → u ≠ 17 → c1 u = c u) → (q = (CQ (ds wd N 0) n g.toNat).2.2) → (∀ r, 0 ≤ r → r < n → c1 17 r = (CQ (ds wd N 0) n g.toNat).1 r) → (MC c1 g wd (p0 wd N n)) → qG (qYn X5_chooseFirstMeans 3 (pV (fun c' => (∀ u, u ≠ 15 → u ≠ 16 → u ≠ 17 → c' u = c u) ∧ MC c' k wd (p0 wd N n)))) wN 28 [some (qP 11), some (qP 1), some (qI q), some (qI g)] [] c1 := by
          intro fu28
          induction fu28 with
          | zero => intro q g c1 hm; exact absurd hm (Nat.not_lt_zero _)
          | succ fu28 ih28 =>
            intro q g c1 hm28 g0 g1 ff hq hw hm
            have hT1 : Tb c1 n wd N := hT0.fr (ff 1 (by decide) (by decide) (by decide)) (ff 2 (by decide) (by decide) (by decide)) (ff 3 (by decide) (by decide) (by decide))
            have e6 : c1 11 6 = k := by rw [ff 11 (by decide) (by decide) (by decide)]; exact hk
            have hok := CQ_ok hD (by omega) g.toNat
            have hqb := hok.2.2.2.1
            rw [← hq] at hqb
            refine g_iload_n (i := 3) dX5_chooseFirstMeans_28 rfl rfl ?_
            refine g_aload_n (i := 0) dX5_chooseFirstMeans_29 rfl rfl ?_
            refine g_getI (ji := 6) dX5_chooseFirstMeans_30 fl5_30 (by first | rfl | assumption) (by first | decide | (show _ < 62; omega)) (by first | rfl | assumption) (by decide) rfl (by first | assumption | rfl) ?_
            refine g_icmp_ge 56 dX5_chooseFirstMeans_33 (by decide) (fun b33 => ?_) (fun b33 => ?_)
            · skip
              exact n_retv dX5_chooseFirstMeans_56 rfl (⟨ff, by rw [show k = g by omega]; exact hm⟩)
            · skip
              refine g_aload_n (i := 0) dX5_chooseFirstMeans_36 rfl rfl ?_
              refine g_aload_n (i := 1) dX5_chooseFirstMeans_37 rfl rfl ?_
              refine g_iload_n (i := 3) dX5_chooseFirstMeans_38 rfl rfl ?_
              refine g_iload_n (i := 2) dX5_chooseFirstMeans_39 rfl rfl ?_
              refine n_callVv (k_X5_putFirstMean _ n wd N hT1 g q g0 (by omega) hqb.1 hqb.2) dX5_chooseFirstMeans_40 lk5_51 im_X5_putFirstMean (by first | rfl | assumption) (by first | decide | (show _ < 62; omega)) rfl rfl rfl rfl (Nat.le_of_ble_eq_true rfl) (fun c2 hz => ?_)
              obtain ⟨v1, v2, v3, v4, v5⟩ := hz
              have hT2 : Tb c2 n wd N := hT1.fr (v1 1 (by decide) (by decide)) (v1 2 (by decide) (by decide)) (v1 3 (by decide) (by decide))
              refine g_aload_n (i := 0) dX5_chooseFirstMeans_43 rfl rfl ?_
              refine g_aload_n (i := 1) dX5_chooseFirstMeans_44 rfl rfl ?_
              refine g_iload_n (i := 2) dX5_chooseFirstMeans_45 rfl rfl ?_
              refine n_callVi (k_X5_farthestFromChosen _ n wd N hT2 (CQ (ds wd N 0) n g.toNat).1 q (by omega) hqb.1 hqb.2 (fun r q0 q1 => by
          rw [v1 17 (by decide) (by decide)]
          refine ⟨hw r q0 q1, ?_⟩
          rcases hok.1 r with h5 | h5
          · rcases hok.2.2.1 r q0 q1 h5 with h6 | ⟨-, ⟨y, y0, y1, -, y3⟩, -⟩
            · omega
            · have := hD y r y0 y1 q0 q1; omega
          · have := hok.2.1 r q0 q1 h5; omega)) dX5_chooseFirstMeans_46 lk5_55 im_X5_farthestFromChosen (by first | rfl | assumption) (by first | decide | (show _ < 62; omega)) rfl rfl rfl rfl (Nat.le_of_ble_eq_true rfl) (fun z c3 hz => ?_)
              obtain ⟨rfl, w1, w2⟩ := hz
              refine g_istore_n2 dX5_chooseFirstMeans_49 rfl ?_
              refine g_iinc3 dX5_chooseFirstMeans_50 rfl ?_
              refine g_goto 28 dX5_chooseFirstMeans_53 (by decide) ?_
              exact ih28 _ _ _ (by omega) (by first | assumption | omega) (by first | assumption | omega) (fun u u1 u2 u3 => by rw [w1 u u3, v1 u u1 u2]; exact ff u u1 u2 u3) (by rw [CQ_s g0, ← hq]) (fun r q0 q1 => by rw [CQ_s g0, ← hq]; exact w2 r q0 q1) (fun u q0 q1 => by
        rw [w1 16 (by decide), w1 15 (by decide)]
        by_cases e : u = g
        · rw [e]
          exact ⟨v3, fun x x0 x1 => by rw [v5 x x0 x1, hq]; rfl⟩
        · have h5 := hm u q0 (by omega)
          exact ⟨by rw [v2 u e]; exact h5.1, fun x x0 x1 => by rw [v4 _ (by omega)]; exact h5.2 x x0 x1⟩)
        exact L28 _ _ _ _ (Nat.lt_succ_self _) (by first | assumption | omega) (by first | assumption | omega) (fun u _ _ h => ff u h) rfl (fun r q0 q1 => h1 r q0 (by omega)) (fun g q0 q1 => by omega)
      · skip
        refine g_aload_n (i := 0) dX5_chooseFirstMeans_10 rfl rfl ?_
        refine g_getP dX5_chooseFirstMeans_11 fl5_27 (by first | rfl | assumption) (by first | decide | (show _ < 62; omega)) (by first | rfl | assumption) ?_
        refine g_iload_n (i := 2) dX5_chooseFirstMeans_14 rfl rfl ?_
        refine g_ldc (z := 2000000000) dX5_chooseFirstMeans_15 cw5_50 ?_
        refine g_iastore dX5_chooseFirstMeans_17 (by first | rfl | assumption) (by first | decide | (show _ < 62; omega)) ?_
        refine g_iinc2 dX5_chooseFirstMeans_18 rfl ?_
        refine g_goto 2 dX5_chooseFirstMeans_21 (by decide) ?_
        exact ih2 _ _ (by omega) (by first | assumption | omega) (by first | assumption | omega) (fun q hq => by rw [qu_ne hq]; exact ff q hq) (fun x q0 q1 => by
        rw [qu_at]; split
        · rfl
        · exact h1 x q0 (by omega))
  exact L2 _ _ _ (Nat.lt_succ_self _) (by first | assumption | omega) (by first | assumption | omega) (fun q _ => rfl) (fun x q0 q1 => by omega)
set_option maxHeartbeats 4000000 in
set_option maxRecDepth 100000 in
theorem k_X5_run (c : qC) (n wd : Int) (N : Int → Int → Int) (hT : Tb c n wd N) (k : Int) (k0 : 1 ≤ k ∧ k ≤ 6) (kn : k ≤ n) : qN X5_run 4 [qP 11, qP 1, qI k] c (pI (fun z c' => z = rd (FR wd N n k) n ∧ (∀ u, (u < 11 ∨ 17 < u) → c' u = c u) ∧ ∀ r, 0 ≤ r → r < n → c' 12 r = (FR wd N n k) (rd (FR wd N n k) n).toNat r)) := by
  have hT0 := hT
  obtain ⟨t1, t2, t3, t4, t5, t6, t7⟩ := hT
  have hD : Db (ds wd N 0) n := fun i j i0 i1 j0 j1 => hT0.bd (kd := 0) i0 i1 j0 j1
  have hMb := MR_Mb (wd := wd) (N := N) (n := n) (k := k) (p0_Mb (k := k) hD (by omega) t6) t3 t6
  have hTq : Tb (qu c 11 6 k) n wd N := hT0.fr (qu_ne (by decide)) (qu_ne (by decide)) (qu_ne (by decide))
  refine qN.of [some (qP 11), some (qP 1), some (qI k), none] (by decide) rfl (fun _ => rfl) (fun _ => Nat.le_of_ble_eq_true rfl) ?_
  refine g_aload_n (i := 0) dX5_run_0 rfl rfl ?_
  refine g_iload_n (i := 2) dX5_run_1 rfl rfl ?_
  refine g_putI 6 dX5_run_2 fl5_30 fw5_6 (by first | rfl | assumption) (by first | decide | (show _ < 62; omega)) (by first | rfl | assumption) (by decide) rfl ?_
  refine g_aload_n (i := 0) dX5_run_5 rfl rfl ?_
  refine g_aload_n (i := 1) dX5_run_6 rfl rfl ?_
  refine n_callVv (k_X5_chooseFirstMeans _ n wd N hTq k k0 kn (qu_eq _ _ _ _)) dX5_run_7 lk5_34 im_X5_chooseFirstMeans (by first | rfl | assumption) (by first | decide | (show _ < 62; omega)) rfl rfl rfl rfl (Nat.le_of_ble_eq_true rfl) (fun c0 hz => ?_)
  obtain ⟨v1, v2⟩ := hz
  refine g_iconst dX5_run_10 ?_
  refine g_istore_n3 dX5_run_11 rfl ?_
  have L12 : ∀ (fu12 : Nat) (r : Int) (c1 : qC), (n - r).toNat < fu12 → (0 ≤ r) → (r ≤ n) → (∀ u, u ≠ 13 → u ≠ 15 → u ≠ 16 → u ≠ 17 → c1 u = qu c 11 6 k u) → (MC c1 k wd (p0 wd N n)) → (∀ x, 0 ≤ x → x < r → c1 13 x = -1) → qG (qYn X5_run 4 (pI (fun z c' => z = rd (FR wd N n k) n ∧ (∀ u, (u < 11 ∨ 17 < u) → c' u = c u) ∧ ∀ r, 0 ≤ r → r < n → c' 12 r = (FR wd N n k) (rd (FR wd N n k) n).toNat r))) wN 12 [some (qP 11), some (qP 1), some (qI k), some (qI r)] [] c1 := by
    intro fu12
    induction fu12 with
    | zero => intro r c1 hm; exact absurd hm (Nat.not_lt_zero _)
    | succ fu12 ih12 =>
      intro r c1 hm12 r0 r1 ff hm h1
      have e1 : c1 1 3 = n := by rw [ff 1 (by decide) (by decide) (by decide) (by decide)]; exact t1
      refine g_iload_n (i := 3) dX5_run_12 rfl rfl ?_
      refine g_aload_n (i := 1) dX5_run_13 rfl rfl ?_
      refine g_getI (ji := 3) dX5_run_14 fl5_38 (by first | rfl | assumption) (by first | decide | (show _ < 62; omega)) (by first | rfl | assumption) (by decide) rfl (by first | assumption | rfl) ?_
      refine g_icmp_ge 33 dX5_run_17 (by decide) (fun b17 => ?_) (fun b17 => ?_)
      · skip
        refine g_iconst dX5_run_33 ?_
        refine g_istore_n3 dX5_run_34 rfl ?_
        have L35 : ∀ (fu35 : Nat) (j : Int) (c1 : qC), (60 - j).toNat < fu35 → (1 ≤ j) → (j ≤ 60) → (∀ u, u ≠ 12 → u ≠ 13 → u ≠ 14 → u ≠ 15 → u ≠ 16 → u ≠ 17 → c1 u = qu c 11 6 k u) → (MC c1 k wd (MR wd N n k (p0 wd N n) (j - 1).toNat).2) → (∀ x, 0 ≤ x → x < n → c1 13 x = (FR wd N n k) (j - 1).toNat x) → (∀ i, 1 ≤ i → i < j → Mv ((FR wd N n k) (i - 1).toNat) ((FR wd N n k) i.toNat) n) → qG (qYn X5_run 4 (pI (fun z c' => z = rd (FR wd N n k) n ∧ (∀ u, (u < 11 ∨ 17 < u) → c' u = c u) ∧ ∀ r, 0 ≤ r → r < n → c' 12 r = (FR wd N n k) (rd (FR wd N n k) n).toNat r))) wN 35 [some (qP 11), some (qP 1), some (qI k), some (qI j)] [] c1 := by
          intro fu35
          induction fu35 with
          | zero => intro j c1 hm; exact absurd hm (Nat.not_lt_zero _)
          | succ fu35 ih35 =>
            intro j c1 hm35 j0 j1 ff hm h1 hmv
            have hT1 : Tb c1 n wd N := hTq.fr (ff 1 (by decide) (by decide) (by decide) (by decide) (by decide) (by decide)) (ff 2 (by decide) (by decide) (by decide) (by decide) (by decide) (by decide)) (ff 3 (by decide) (by decide) (by decide) (by decide) (by decide) (by decide))
            have e6 : c1 11 6 = k := by rw [ff 11 (by decide) (by decide) (by decide) (by decide) (by decide) (by decide)]; exact qu_eq _ _ _ _
            have hms := MR_s (wd := wd) (N := N) (n := n) (k := k) (p := p0 wd N n) (j := j - 1) (by omega)
            rw [show j - 1 + 1 = j by omega] at hms
            have hFR : (FR wd N n k) j.toNat = lb wd N n k (MR wd N n k (p0 wd N n) (j - 1).toNat).2 := by unfold FR; rw [hms]
            have hB13 : ∀ r, 0 ≤ r → r < n → c1 13 r = (FR wd N n k) (j - 1).toNat r ∧ iR ((FR wd N n k) (j - 1).toNat r) := fun r q0 q1 => ⟨h1 r q0 q1, by
              by_cases e : j = 1
              · rw [e]; show iR (-1); decide
              · have h5 := FR_bd (wd := wd) (N := N) (n := n) (k := k) k0.1 (j - 1).toNat (by omega) r
                omega⟩
            refine g_iload_n (i := 3) dX5_run_35 rfl rfl ?_
            refine g_bipush dX5_run_36 (by decide) ?_
            refine g_icmp_ge 62 dX5_run_38 (by decide) (fun b38 => ?_) (fun b38 => ?_)
            · skip
              refine g_aload_n (i := 0) dX5_run_62 rfl rfl ?_
              refine g_aload_n (i := 1) dX5_run_63 rfl rfl ?_
              refine n_callVi (k_X5_moveRows _ n wd N hT1 k (MR wd N n k (p0 wd N n) (j - 1).toNat).2 k0 (hMb _) hm _ e6 kn hB13) dX5_run_64 lk5_43 im_X5_moveRows (by first | rfl | assumption) (by first | decide | (show _ < 62; omega)) rfl rfl rfl rfl (Nat.le_of_ble_eq_true rfl) (fun z c2 hz => ?_)
              obtain ⟨v1, v2, v3, v4, v5⟩ := hz
              refine g_pop dX5_run_67 rfl ?_
              refine g_bipush dX5_run_68 (by decide) ?_
              exact n_reti dX5_run_70 rfl (by
        have hj : j = 60 := by omega
        have hR : IsR (FR wd N n k) n 60 := ⟨by omega, fun i i0 i1 => hmv i i0 (by omega), Or.inl rfl⟩
        rw [rd_eq hR]
        exact ⟨rfl, fun u hu => by rw [v1 u (by omega) (by omega) (by omega), ff u (by omega) (by omega) (by omega) (by omega) (by omega) (by omega), qu_ne (by omega)], fun r q0 q1 => by rw [← hj, hFR]; exact v2 r q0 q1⟩)
            · skip
              refine g_aload_n (i := 0) dX5_run_41 rfl rfl ?_
              refine g_aload_n (i := 1) dX5_run_42 rfl rfl ?_
              refine n_callVi (k_X5_moveRows _ n wd N hT1 k (MR wd N n k (p0 wd N n) (j - 1).toNat).2 k0 (hMb _) hm _ e6 kn hB13) dX5_run_43 lk5_43 im_X5_moveRows (by first | rfl | assumption) (by first | decide | (show _ < 62; omega)) rfl rfl rfl rfl (Nat.le_of_ble_eq_true rfl) (fun z c2 hz => ?_)
              obtain ⟨v1, v2, v3, v4, v5⟩ := hz
              have hT2 : Tb c2 n wd N := hT1.fr (v1 1 (by decide) (by decide) (by decide)) (v1 2 (by decide) (by decide) (by decide)) (v1 3 (by decide) (by decide) (by decide))
              refine g_if_ne 51 dX5_run_46 (by decide) (fun b46 => ?_) (fun b46 => ?_)
              · skip
                refine g_aload_n (i := 0) dX5_run_51 rfl rfl ?_
                refine g_aload_n (i := 1) dX5_run_52 rfl rfl ?_
                refine n_callVv (k_X5_remakeMeans _ n wd N hT2 k (lb wd N n k (MR wd N n k (p0 wd N n) (j - 1).toNat).2) k0 (by rw [v1 11 (by decide) (by decide) (by decide)]; exact e6) (fun r q0 q1 => ⟨v2 r q0 q1, lb_bd k0.1 r⟩) v4) dX5_run_53 lk5_47 im_X5_remakeMeans (by first | rfl | assumption) (by first | decide | (show _ < 62; omega)) rfl rfl rfl rfl (Nat.le_of_ble_eq_true rfl) (fun c3 hz => ?_)
                obtain ⟨w1, w2⟩ := hz
                refine g_iinc3 dX5_run_56 rfl ?_
                refine g_goto 35 dX5_run_59 (by decide) ?_
                exact ih35 _ _ (by omega) (by first | assumption | omega) (by first | assumption | omega) (fun u u1 u2 u3 u4 u5 u6 => by rw [w1 u u4 u5, v1 u u1 u2 u3]; exact ff u u1 u2 u3 u4 u5 u6) (by rw [show j + 1 - 1 = j by omega, hms]; exact w2) (fun x q0 q1 => by rw [w1 13 (by decide) (by decide), show j + 1 - 1 = j by omega, hFR]; exact v3 x q0 q1) (fun i i0 i1 => by
        by_cases e : i = j
        · rw [e, hFR]; exact v5.elim (fun h => h.2) (fun h => by omega)
        · exact hmv i i0 (by omega))
              · skip
                refine g_iload_n (i := 3) dX5_run_49 rfl rfl ?_
                exact n_reti dX5_run_50 rfl (by
        have hR : IsR (FR wd N n k) n j := ⟨by omega, hmv, Or.inr (by rw [hFR]; exact v5.elim (fun h => by omega) (fun h => h.2))⟩
        rw [rd_eq hR]
        exact ⟨rfl, fun u hu => by rw [v1 u (by omega) (by omega) (by omega), ff u (by omega) (by omega) (by omega) (by omega) (by omega) (by omega), qu_ne (by omega)], fun r q0 q1 => by rw [hFR]; exact v2 r q0 q1⟩)
        exact L35 _ _ _ (Nat.lt_succ_self _) (by first | assumption | omega) (by first | assumption | omega) (fun u u1 u2 u3 u4 u5 u6 => ff u u2 u4 u5 u6) hm (fun x q0 q1 => by rw [h1 x q0 (by omega)]; rfl) (fun i i0 i1 => by omega)
      · skip
        refine g_aload_n (i := 0) dX5_run_20 rfl rfl ?_
        refine g_getP dX5_run_21 fl5_15 (by first | rfl | assumption) (by first | decide | (show _ < 62; omega)) (by first | rfl | assumption) ?_
        refine g_iload_n (i := 3) dX5_run_24 rfl rfl ?_
        refine g_iconst dX5_run_25 ?_
        refine g_iastore dX5_run_26 (by first | rfl | assumption) (by first | decide | (show _ < 62; omega)) ?_
        refine g_iinc3 dX5_run_27 rfl ?_
        refine g_goto 12 dX5_run_30 (by decide) ?_
        exact ih12 _ _ (by omega) (by first | assumption | omega) (by first | assumption | omega) (fun u u1 u2 u3 u4 => by rw [qu_ne u1]; exact ff u u1 u2 u3 u4) (hm.fr (qu_ne (by decide)) (qu_ne (by decide))) (fun x q0 q1 => by
        rw [qu_at]; split
        · rfl
        · exact h1 x q0 (by omega))
  exact L12 _ _ _ (Nat.lt_succ_self _) (by first | assumption | omega) (by first | assumption | omega) (fun u _ u2 u3 u4 => v1 u u2 u3 u4) v2 (fun x q0 q1 => by omega)
theorem rd_ok {F : Nat → Int → Int} {n : Int} : ∃ R, IsR F n R := by
  have key : ∀ f : Nat, ∀ R : Int, (R + f = 60) → 1 ≤ R → (∀ j, 1 ≤ j → j < R → Mv (F (j - 1).toNat) (F j.toNat) n) → ∃ R, IsR F n R := by
    intro f
    induction f with
    | zero => intro R h1 h2 h3; exact ⟨R, by omega, h3, Or.inl (by omega)⟩
    | succ f ih =>
      intro R h1 h2 h3
      by_cases h : Mv (F (R - 1).toNat) (F R.toNat) n
      · exact ih (R + 1) (by omega) (by omega) (fun j j0 j1 => by
          by_cases e : j = R
          · rw [e]; exact h
          · exact h3 j j0 (by omega))
      · exact ⟨R, by omega, h3, Or.inr h⟩
  exact key 59 1 (by omega) (by omega) (fun j j0 j1 => by omega)
theorem rd_bd {F : Nat → Int → Int} {n : Int} : 1 ≤ rd F n ∧ rd F n ≤ 60 := by
  obtain ⟨R, h⟩ := rd_ok (F := F) (n := n)
  rw [rd_eq h]
  exact h.1
set_option maxHeartbeats 4000000 in
set_option maxRecDepth 100000 in
theorem k_X7_means (c : qC) (n wd : Int) (N : Int → Int → Int) (S : Sl) (mm : Int) (md : Int → Int) (T : Tr) (hS : CS c n wd N S mm md T) (s k : Int) (s0 : iR s) (k0 : iR k) : qN X7_means 5 [qP 0, qI s, qI k] c (pI (fun z c' => z = a_mns n wd N s k ∧ CS c' n wd N (s_mns n wd N S s k) mm md T ∧ FrC c c')) := by
  have hS0 := hS
  obtain ⟨hT, hSl, hMd, hTr⟩ := hS
  have hT0 := hT
  obtain ⟨t1, t2, t3, t4, t5, t6, t7⟩ := hT
  refine qN.of [some (qP 0), some (qI s), some (qI k), none] (by decide) rfl (fun _ => rfl) (fun _ => Nat.le_of_ble_eq_true rfl) ?_
  refine g_iload_n (i := 1) dX7_means_0 rfl rfl ?_
  refine n_callSi (k_X7_isSlot _ _ (by omega)) dX7_means_1 lk7_100 sm_X7_isSlot rfl rfl rfl (Nat.le_of_ble_eq_true rfl) (fun z c' hz => ?_)
  obtain ⟨hz2, hz⟩ := hz
  have hz2 := hz2.symm
  subst hz2
  refine g_if_eq 18 dX7_means_4 (by decide) (fun b4 => ?_) (fun b4 => ?_)
  · skip
    refine g_ldc (z := -2000000002) dX7_means_18 cw7_58 ?_
    exact n_reti dX7_means_20 rfl (by unfold a_mns s_mns; rw [if_neg (show ¬ ((0 ≤ s ∧ s ≤ 1) ∧ 1 ≤ k ∧ k ≤ 6) by omega), if_neg (show ¬ ((0 ≤ s ∧ s ≤ 1) ∧ 1 ≤ k ∧ k ≤ 6) by omega)]; exact ⟨rfl, hS0, FrC.rf c⟩)
  · skip
    refine g_iload_n (i := 2) dX7_means_7 rfl rfl ?_
    refine g_iconst dX7_means_8 ?_
    refine g_icmp_lt 18 dX7_means_9 (by decide) (fun b9 => ?_) (fun b9 => ?_)
    · skip
      refine g_ldc (z := -2000000002) dX7_means_18 cw7_58 ?_
      exact n_reti dX7_means_20 rfl (by unfold a_mns s_mns; rw [if_neg (show ¬ ((0 ≤ s ∧ s ≤ 1) ∧ 1 ≤ k ∧ k ≤ 6) by omega), if_neg (show ¬ ((0 ≤ s ∧ s ≤ 1) ∧ 1 ≤ k ∧ k ≤ 6) by omega)]; exact ⟨rfl, hS0, FrC.rf c⟩)
    · skip
      refine g_iload_n (i := 2) dX7_means_12 rfl rfl ?_
      refine g_bipush dX7_means_13 (by decide) ?_
      refine g_icmp_le 21 dX7_means_15 (by decide) (fun b15 => ?_) (fun b15 => ?_)
      · skip
        refine g_aload_n (i := 0) dX7_means_21 rfl rfl ?_
        refine g_getP dX7_means_22 fl7_10 (by first | rfl | assumption) (by first | decide | (show _ < 62; omega)) (by first | rfl | assumption) ?_
        refine g_getI (ji := 3) dX7_means_25 fl7_59 (by first | rfl | assumption) (by first | decide | (show _ < 62; omega)) (by first | rfl | assumption) (by decide) rfl (by first | assumption | rfl) ?_
        refine g_iload_n (i := 2) dX7_means_28 rfl rfl ?_
        refine g_icmp_ge 35 dX7_means_29 (by decide) (fun b29 => ?_) (fun b29 => ?_)
        · skip
          have hok : (0 ≤ s ∧ s ≤ 1) ∧ 1 ≤ k ∧ k ≤ 6 := by omega
          obtain ⟨o, hoS, ho1, hLo, ho62, ho58, hL1, hL2, ho63, ho64⟩ := oS_ex (s := s) (by omega)
          have hrb := rd_bd (F := (FR wd N n k)) (n := n)
          refine g_aload_n (i := 0) dX7_means_35 rfl rfl ?_
          refine g_getP dX7_means_36 fl7_26 (by first | rfl | assumption) (by first | decide | (show _ < 62; omega)) (by first | rfl | assumption) ?_
          refine g_aload_n (i := 0) dX7_means_39 rfl rfl ?_
          refine g_getP dX7_means_40 fl7_10 (by first | rfl | assumption) (by first | decide | (show _ < 62; omega)) (by first | rfl | assumption) ?_
          refine g_iload_n (i := 2) dX7_means_43 rfl rfl ?_
          refine n_callVi (k_X5_run _ n wd N hT0 k (by omega) (by omega)) dX7_means_44 lk7_103 im_X5_run (by first | rfl | assumption) (by first | decide | (show _ < 62; omega)) rfl rfl rfl rfl (Nat.le_of_ble_eq_true rfl) (fun z c1 hz => ?_)
          obtain ⟨rfl, v1, v2⟩ := hz
          have r1 : c1 1 3 = n := by rw [v1 1 (by decide)]; exact t1
          refine g_istore_n3 dX7_means_47 rfl ?_
          refine g_aload_n (i := 0) dX7_means_48 rfl rfl ?_
          refine g_getP dX7_means_49 fl7_18 (by first | rfl | assumption) (by first | decide | (show _ < 62; omega)) (by first | rfl | assumption) ?_
          refine g_iload_n (i := 1) dX7_means_52 rfl rfl ?_
          refine g_aaload dX7_means_53 rfl (by decide) ho1 ?_
          refine g_aload_n (i := 0) dX7_means_54 rfl rfl ?_
          refine g_getP dX7_means_55 fl7_26 (by first | rfl | assumption) (by first | decide | (show _ < 62; omega)) (by first | rfl | assumption) ?_
          refine g_getP dX7_means_58 fl7_107 (by first | rfl | assumption) (by first | decide | (show _ < 62; omega)) (by first | rfl | assumption) ?_
          refine g_aload_n (i := 0) dX7_means_61 rfl rfl ?_
          refine g_getP dX7_means_62 fl7_10 (by first | rfl | assumption) (by first | decide | (show _ < 62; omega)) (by first | rfl | assumption) ?_
          refine g_getI (ji := 3) dX7_means_65 fl7_59 (by first | rfl | assumption) (by first | decide | (show _ < 62; omega)) (by first | rfl | assumption) (by decide) rfl (by first | assumption | rfl) ?_
          refine g_iload_n (i := 2) dX7_means_68 rfl rfl ?_
          refine n_callVv (kk_fill (q := 12) (g := (FR wd N n k) (rd (FR wd N n k) n).toNat) ho58 rfl (by decide) (by omega) t3 (by omega) (fun r q0 q1 => ⟨v2 r q0 q1, by have := FR_bd (wd := wd) (N := N) (n := n) (k := k) (by omega) (rd (FR wd N n k) n).toNat (by omega) r; omega⟩)) dX7_means_69 lk7_111 im_X3_fill hLo ho62 rfl rfl rfl rfl (Nat.le_of_ble_eq_true rfl) (fun c2 hz => ?_)
          obtain ⟨hG, hf2⟩ := hz
          refine g_iload_n (i := 3) dX7_means_72 rfl rfl ?_
          exact n_reti dX7_means_73 rfl (by
        unfold a_mns s_mns; rw [if_pos hok, if_pos hok, if_neg (show ¬ n < k by omega), if_neg (show ¬ n < k by omega)]
        exact ⟨rfl, hS0.sup hoS (by omega) ho58 hG (fun q q0 q1 q2 q3 => by rw [hf2 q q1 q2 q3]; exact v1 q (by omega)), fun q hq => by rw [hf2 q (by omega) (by omega) (by omega)]; exact v1 q (by omega)⟩)
        · skip
          refine g_ldc (z := -2000000003) dX7_means_32 cw7_63 ?_
          exact n_reti dX7_means_34 rfl (by unfold a_mns s_mns; rw [if_pos (show (0 ≤ s ∧ s ≤ 1) ∧ 1 ≤ k ∧ k ≤ 6 by omega), if_pos (show (0 ≤ s ∧ s ≤ 1) ∧ 1 ≤ k ∧ k ≤ 6 by omega), if_pos (show n < k by omega), if_pos (show n < k by omega)]; exact ⟨rfl, hS0, FrC.rf c⟩)
      · skip
        refine g_ldc (z := -2000000002) dX7_means_18 cw7_58 ?_
        exact n_reti dX7_means_20 rfl (by unfold a_mns s_mns; rw [if_neg (show ¬ ((0 ≤ s ∧ s ≤ 1) ∧ 1 ≤ k ∧ k ≤ 6) by omega), if_neg (show ¬ ((0 ≤ s ∧ s ≤ 1) ∧ 1 ≤ k ∧ k ≤ 6) by omega)]; exact ⟨rfl, hS0, FrC.rf c⟩)
