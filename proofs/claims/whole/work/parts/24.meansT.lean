/-- the MEANS as the reference holds them -/
def MT (c : qC) (k wd : Int) (p : Mn) : Prop := ∀ g, 0 ≤ g → g < k → c 52 g = p.1 g ∧ ∀ x, 0 ≤ x → x < wd → c 51 (4 * g + x) = p.2 g x
theorem MT.fr {c c' : qC} {k wd : Int} {p : Mn} (h : MT c k wd p) (h1 : c' 51 = c 51) (h2 : c' 52 = c 52) : MT c' k wd p := by
  unfold MT at h ⊢
  rw [h1, h2]
  exact h
set_option maxHeartbeats 4000000 in
set_option maxRecDepth 100000 in
theorem k_X8_square (c : qC) (n wd : Int) (N : Int → Int → Int) (hM : Md c n wd N) (k : Int) (p : Mn) (k0 : 1 ≤ k ∧ k ≤ 6) (hp : Mb k wd p) (hm : MT c k wd p) (r g : Int) (r0 : 0 ≤ r) (r1 : r < n) (g0 : 0 ≤ g) (g1 : g < k) : qN X8_square 0 [qP 39, qI r, qI g] c (pJ (fun z c' => z = sA wd N p r g ∧ c' = c)) := by
  have hM0 := hM
  obtain ⟨t1, t2, t3, t4, t5, t6⟩ := hM
  refine qN.of [some (qP 39), some (qI r), some (qI g), none, none, none, none, none] (by decide) rfl (fun _ => rfl) (fun _ => Nat.le_of_ble_eq_true rfl) ?_
  refine g_lconst (z := 0) dX8_square_0 (by decide) ?_
  refine g_lstore_n3 dX8_square_1 rfl ?_
  refine g_iconst dX8_square_2 ?_
  refine g_istore5 dX8_square_3 rfl ?_
  have L5 : ∀ (fu5 : Nat) (x a : Int), (wd - x).toNat < fu5 → (0 ≤ x) → (x ≤ wd) → (a = sI (fun x => (N r x * p.1 g - p.2 g x) * (N r x * p.1 g - p.2 g x)) x) → qG (qYn X8_square 0 (pJ (fun z c' => z = sA wd N p r g ∧ c' = c))) wN 5 [some (qP 39), some (qI r), some (qI g), some (qJ a), none, some (qI x), none, none] [] c := by
    intro fu5
    induction fu5 with
    | zero => intro x a hm; exact absurd hm (Nat.not_lt_zero _)
    | succ fu5 ih5 =>
      intro x a hm5 x0 x1 ha
      refine g_iload dX8_square_5 rfl ?_
      refine g_aload_n (i := 0) dX8_square_7 rfl rfl ?_
      refine g_getI (ji := 1) dX8_square_8 fl8_7 (by first | rfl | assumption) (by first | decide | (show _ < 62; omega)) (by first | rfl | assumption) (by decide) rfl (by first | assumption | rfl) ?_
      refine g_icmp_ge 62 dX8_square_11 (by decide) (fun b11 => ?_) (fun b11 => ?_)
      · skip
        refine g_lload_n (i := 3) dX8_square_62 rfl rfl ?_
        exact n_retj dX8_square_63 rfl (⟨by rw [ha, show x = wd by omega]; rfl, rfl⟩)
      · skip
        have hpb := hp g g0 g1
        have hpx := hpb.2 x x0 (by omega)
        have hmg := hm g g0 g1
        have hNx := t6 r r0 r1 x x0 (by omega)
        refine g_aload_n (i := 0) dX8_square_14 rfl rfl ?_
        refine g_getP dX8_square_15 fl8_52 (by first | rfl | assumption) (by first | decide | (show _ < 62; omega)) (by first | rfl | assumption) ?_
        refine g_iload_n (i := 2) dX8_square_18 rfl rfl ?_
        refine g_iaload dX8_square_19 rfl (by decide) ?_
        rw [hmg.1]
        skip -- ?_
        refine g_i2lx dX8_square_20 ?_
        refine g_aload_n (i := 0) dX8_square_21 rfl rfl ?_
        refine g_getP dX8_square_22 fl8_13 (by first | rfl | assumption) (by first | decide | (show _ < 62; omega)) (by first | rfl | assumption) ?_
        refine g_iconst dX8_square_25 ?_
        refine g_iload_n (i := 1) dX8_square_26 rfl rfl ?_
        refine g_imul dX8_square_27 ?_
        refine g_iload dX8_square_28 rfl ?_
        refine g_iadd dX8_square_30 ?_
        refine g_iaload dX8_square_31 rfl (by decide) ?_
        rw [t5 r x r0 r1 x0 (by omega)]
        skip -- ?_
        refine g_i2lx dX8_square_32 ?_
        refine g_lmul dX8_square_33 ?_
        refine g_aload_n (i := 0) dX8_square_34 rfl rfl ?_
        refine g_getP dX8_square_35 fl8_49 (by first | rfl | assumption) (by first | decide | (show _ < 62; omega)) (by first | rfl | assumption) ?_
        refine g_iconst dX8_square_38 ?_
        refine g_iload_n (i := 2) dX8_square_39 rfl rfl ?_
        refine g_imul dX8_square_40 ?_
        refine g_iload dX8_square_41 rfl ?_
        refine g_iadd dX8_square_43 ?_
        refine g_laload dX8_square_44 rfl (by decide) ?_
        rw [hmg.2 x x0 (by omega)]
        skip -- ?_
        refine g_lsub dX8_square_45 ?_
        refine g_lstore6 dX8_square_46 rfl ?_
        refine g_lload_n (i := 3) dX8_square_48 rfl rfl ?_
        refine g_lload dX8_square_49 rfl ?_
        refine g_lload dX8_square_51 rfl ?_
        refine g_lmul dX8_square_53 ?_
        refine g_ladd dX8_square_54 ?_
        refine g_lstore_n3 dX8_square_55 rfl ?_
        refine g_iinc5 dX8_square_56 rfl ?_
        refine g_goto 5 dX8_square_59 (by decide) ?_
        refine g_fg6 ?_
        exact ih5 _ _ (by omega) (by first | assumption | omega) (by first | assumption | omega) (by rw [sI_s x0, ha, Int.mul_comm (p.1 g) (N r x)])
  exact L5 _ _ _ (Nat.lt_succ_self _) (by first | assumption | omega) (by first | assumption | omega) rfl
set_option maxHeartbeats 4000000 in
set_option maxRecDepth 100000 in
theorem k_X8_isNearer (c : qC) (n wd : Int) (N : Int → Int → Int) (hM : Md c n wd N) (k : Int) (p : Mn) (k0 : 1 ≤ k ∧ k ≤ 6) (hp : Mb k wd p) (hm : MT c k wd p) (i g j h : Int) (i0 : 0 ≤ i) (i1 : i < n) (g0 : 0 ≤ g) (g1 : g < k) (j0 : 0 ≤ j) (j1 : j < n) (h0 : 0 ≤ h) (h1 : h < k) : qN X8_isNearer 1 [qP 39, qI i, qI g, qI j, qI h] c (pI (fun z c' => c' = c ∧ ((z = 1 ∧ lt2 (sA wd N p) p.1 i g j h) ∨ (z = 0 ∧ ¬ lt2 (sA wd N p) p.1 i g j h)))) := by
  have hM0 := hM
  obtain ⟨t1, t2, t3, t4, t5, t6⟩ := hM
  have hmg := hm g g0 g1
  have hmh := hm h h0 h1
  have hpg := (hp g g0 g1).1
  have hph := (hp h h0 h1).1
  refine qN.of [some (qP 39), some (qI i), some (qI g), some (qI j), some (qI h), none, none, none, none] (by decide) rfl (fun _ => rfl) (fun _ => Nat.le_of_ble_eq_true rfl) ?_
  refine g_aload_n (i := 0) dX8_isNearer_0 rfl rfl ?_
  refine g_iload_n (i := 1) dX8_isNearer_1 rfl rfl ?_
  refine g_iload_n (i := 2) dX8_isNearer_2 rfl rfl ?_
  refine n_callVj (k_X8_square _ n wd N hM0 k p k0 hp hm _ _ (by omega) (by omega) (by omega) (by omega)) dX8_isNearer_3 lk8_122 im_X8_square (by first | rfl | assumption) (by first | decide | (show _ < 62; omega)) rfl rfl rfl rfl (Nat.le_of_ble_eq_true rfl) (fun z c' hz => ?_)
  obtain ⟨rfl, hz2⟩ := hz
  have hz2 := hz2.symm
  subst hz2
  have hs1 := sA_bd (N := N) (by omega) t4.2 (t6 i (by omega) (by omega)) hp (show 0 ≤ g by omega) (show g < k by omega)
  refine g_aload_n (i := 0) dX8_isNearer_6 rfl rfl ?_
  refine g_getP dX8_isNearer_7 fl8_52 (by first | rfl | assumption) (by first | decide | (show _ < 62; omega)) (by first | rfl | assumption) ?_
  refine g_iload dX8_isNearer_10 rfl ?_
  refine g_iaload dX8_isNearer_12 rfl (by decide) ?_
  rw [hmh.1]
  skip -- ?_
  refine g_i2lx dX8_isNearer_13 ?_
  refine g_lmul dX8_isNearer_14 ?_
  refine g_aload_n (i := 0) dX8_isNearer_15 rfl rfl ?_
  refine g_getP dX8_isNearer_16 fl8_52 (by first | rfl | assumption) (by first | decide | (show _ < 62; omega)) (by first | rfl | assumption) ?_
  refine g_iload dX8_isNearer_19 rfl ?_
  refine g_iaload dX8_isNearer_21 rfl (by decide) ?_
  rw [hmh.1]
  skip -- ?_
  refine g_i2lx dX8_isNearer_22 ?_
  refine g_lmul dX8_isNearer_23 ?_
  refine g_lstore5 dX8_isNearer_24 rfl ?_
  refine g_aload_n (i := 0) dX8_isNearer_26 rfl rfl ?_
  refine g_iload_n (i := 3) dX8_isNearer_27 rfl rfl ?_
  refine g_iload dX8_isNearer_28 rfl ?_
  refine n_callVj (k_X8_square _ n wd N hM0 k p k0 hp hm _ _ (by omega) (by omega) (by omega) (by omega)) dX8_isNearer_30 lk8_122 im_X8_square (by first | rfl | assumption) (by first | decide | (show _ < 62; omega)) rfl rfl rfl rfl (Nat.le_of_ble_eq_true rfl) (fun z c' hz => ?_)
  obtain ⟨rfl, hz2⟩ := hz
  have hz2 := hz2.symm
  subst hz2
  have hs2 := sA_bd (N := N) (by omega) t4.2 (t6 j (by omega) (by omega)) hp (show 0 ≤ h by omega) (show h < k by omega)
  refine g_aload_n (i := 0) dX8_isNearer_33 rfl rfl ?_
  refine g_getP dX8_isNearer_34 fl8_52 (by first | rfl | assumption) (by first | decide | (show _ < 62; omega)) (by first | rfl | assumption) ?_
  refine g_iload_n (i := 2) dX8_isNearer_37 rfl rfl ?_
  refine g_iaload dX8_isNearer_38 rfl (by decide) ?_
  rw [hmg.1]
  skip -- ?_
  refine g_i2lx dX8_isNearer_39 ?_
  refine g_lmul dX8_isNearer_40 ?_
  refine g_aload_n (i := 0) dX8_isNearer_41 rfl rfl ?_
  refine g_getP dX8_isNearer_42 fl8_52 (by first | rfl | assumption) (by first | decide | (show _ < 62; omega)) (by first | rfl | assumption) ?_
  refine g_iload_n (i := 2) dX8_isNearer_45 rfl rfl ?_
  refine g_iaload dX8_isNearer_46 rfl (by decide) ?_
  rw [hmg.1]
  skip -- ?_
  refine g_i2lx dX8_isNearer_47 ?_
  refine g_lmul dX8_isNearer_48 ?_
  refine g_lstore7 dX8_isNearer_49 rfl ?_
  refine g_lload dX8_isNearer_51 rfl ?_
  refine g_lload dX8_isNearer_53 rfl ?_
  rw [Int.mul_assoc, Int.mul_assoc]
  have hq1 := pr_bd hs1 (mm_bd hph)
  have hq2 := pr_bd hs2 (mm_bd hpg)
  refine g_lif_ge 63 dX8_isNearer_55 dX8_isNearer_56 (by decide) (fun b55 => ?_) (fun b55 => ?_)
  · skip
    refine g_iconst dX8_isNearer_63 ?_
    exact n_retz dX8_isNearer_64 rfl (by first | exact Or.inl rfl | exact Or.inr rfl | assumption | omega) (⟨rfl, by unfold lt2; omega⟩)
  · skip
    refine g_iconst dX8_isNearer_59 ?_
    refine g_goto 64 dX8_isNearer_60 (by decide) ?_
    exact n_retz dX8_isNearer_64 rfl (by first | exact Or.inl rfl | exact Or.inr rfl | assumption | omega) (⟨rfl, by unfold lt2; omega⟩)
set_option maxHeartbeats 4000000 in
set_option maxRecDepth 100000 in
theorem k_X8_sizeNow (c : qC) (n wd : Int) (N : Int → Int → Int) (hM : Md c n wd N) (g : Int) (L : Int → Int) (g0 : iR g) (hL : ∀ r, 0 ≤ r → r < n → c 53 r = L r ∧ iR (L r)) : qN X8_sizeNow 0 [qP 39, qI g] c (pI (fun z c' => z = cn L n g ∧ c' = c)) := by
  have hM0 := hM
  obtain ⟨t1, t2, t3, t4, t5, t6⟩ := hM
  refine qN.of [some (qP 39), some (qI g), none, none] (by decide) rfl (fun _ => rfl) (fun _ => Nat.le_of_ble_eq_true rfl) ?_
  refine g_iconst dX8_sizeNow_0 ?_
  refine g_istore_n2 dX8_sizeNow_1 rfl ?_
  refine g_iconst dX8_sizeNow_2 ?_
  refine g_istore_n3 dX8_sizeNow_3 rfl ?_
  have L4 : ∀ (fu4 : Nat) (a r : Int), (n - r).toNat < fu4 → (0 ≤ r) → (r ≤ n) → (a = cn L r g) → qG (qYn X8_sizeNow 0 (pI (fun z c' => z = cn L n g ∧ c' = c))) wN 4 [some (qP 39), some (qI g), some (qI a), some (qI r)] [] c := by
    intro fu4
    induction fu4 with
    | zero => intro a r hm; exact absurd hm (Nat.not_lt_zero _)
    | succ fu4 ih4 =>
      intro a r hm4 r0 r1 ha
      refine g_iload_n (i := 3) dX8_sizeNow_4 rfl rfl ?_
      refine g_aload_n (i := 0) dX8_sizeNow_5 rfl rfl ?_
      refine g_getI (ji := 0) dX8_sizeNow_6 fl8_82 (by first | rfl | assumption) (by first | decide | (show _ < 62; omega)) (by first | rfl | assumption) (by decide) rfl (by first | assumption | rfl) ?_
      refine g_icmp_ge 36 dX8_sizeNow_9 (by decide) (fun b9 => ?_) (fun b9 => ?_)
      · skip
        refine g_iload_n (i := 2) dX8_sizeNow_36 rfl rfl ?_
        exact n_reti dX8_sizeNow_37 rfl (⟨by rw [ha, show r = n by omega], rfl⟩)
      · skip
        have hLr := hL r r0 (by omega)
        refine g_iload_n (i := 2) dX8_sizeNow_12 rfl rfl ?_
        refine g_aload_n (i := 0) dX8_sizeNow_13 rfl rfl ?_
        refine g_getP dX8_sizeNow_14 fl8_55 (by first | rfl | assumption) (by first | decide | (show _ < 62; omega)) (by first | rfl | assumption) ?_
        refine g_iload_n (i := 3) dX8_sizeNow_17 rfl rfl ?_
        refine g_iaload dX8_sizeNow_18 rfl (by decide) ?_
        rw [hLr.1]
        skip -- ?_
        refine g_iload_n (i := 1) dX8_sizeNow_19 rfl rfl ?_
        refine g_icmp_ne 27 dX8_sizeNow_20 (by decide) (fun b20 => ?_) (fun b20 => ?_)
        · skip
          refine g_iconst dX8_sizeNow_27 ?_
          refine g_iadd dX8_sizeNow_28 ?_
          refine g_istore_n2 dX8_sizeNow_29 rfl ?_
          refine g_iinc3 dX8_sizeNow_30 rfl ?_
          refine g_goto 4 dX8_sizeNow_33 (by decide) ?_
          exact ih4 _ _ (by omega) (by first | assumption | omega) (by first | assumption | omega) (by rw [cn_s r0, ha]; first | (rw [if_pos (by omega)]) | (rw [if_neg (by omega)]))
        · skip
          refine g_iconst dX8_sizeNow_23 ?_
          refine g_goto 28 dX8_sizeNow_24 (by decide) ?_
          refine g_iadd dX8_sizeNow_28 ?_
          refine g_istore_n2 dX8_sizeNow_29 rfl ?_
          refine g_iinc3 dX8_sizeNow_30 rfl ?_
          refine g_goto 4 dX8_sizeNow_33 (by decide) ?_
          exact ih4 _ _ (by omega) (by first | assumption | omega) (by first | assumption | omega) (by rw [cn_s r0, ha]; first | (rw [if_pos (by omega)]) | (rw [if_neg (by omega)]))
  exact L4 _ _ _ (Nat.lt_succ_self _) (by first | assumption | omega) (by first | assumption | omega) rfl
set_option maxHeartbeats 4000000 in
set_option maxRecDepth 100000 in
theorem k_X8_fill (c : qC) (n wd : Int) (N : Int → Int → Int) (hM : Md c n wd N) (k : Int) (p : Mn) (k0 : 1 ≤ k ∧ k ≤ 6) (hp : Mb k wd p) (hm : MT c k wd p) (L : Int → Int) (g : Int) (kn : k ≤ n) (g0 : 0 ≤ g) (g1 : g < k) (hL : ∀ r, 0 ≤ r → r < n → c 53 r = L r ∧ 0 ≤ L r ∧ L r < k)  : qN X8_fill 2 [qP 39, qI g] c (pV (fun c' => (∀ q, q ≠ 53 → c' q = c q) ∧ ∀ r, 0 ≤ r → r < n → c' 53 r = fl (sA wd N p) p.1 n L g r)) := by
  have hM0 := hM
  obtain ⟨t1, t2, t3, t4, t5, t6⟩ := hM
  refine qN.of [some (qP 39), some (qI g), none, none] (by decide) rfl (fun _ => rfl) (fun _ => Nat.le_of_ble_eq_true rfl) ?_
  refine g_aload_n (i := 0) dX8_fill_0 rfl rfl ?_
  refine g_iload_n (i := 1) dX8_fill_1 rfl rfl ?_
  refine n_callVi (k_X8_sizeNow _ n wd N hM0 _ L (by omega) (fun r q0 q1 => ⟨(hL r q0 q1).1, by have := hL r q0 q1; omega⟩)) dX8_fill_2 lk8_126 im_X8_sizeNow (by first | rfl | assumption) (by first | decide | (show _ < 62; omega)) rfl rfl rfl rfl (Nat.le_of_ble_eq_true rfl) (fun z c' hz => ?_)
  obtain ⟨rfl, hz2⟩ := hz
  have hz2 := hz2.symm
  subst hz2
  have hcb := cn_bd (g := L) (n := n) (k := g) (by omega)
  refine g_if_le 9 dX8_fill_5 (by decide) (fun b5 => ?_) (fun b5 => ?_)
  · skip
    have hcz : cn L n g = 0 := by omega
    obtain ⟨y, y0, y1, y2⟩ := pg (L := L) (n := n) (k := k) (fun r q0 q1 => (hL r q0 q1).2) kn g0 (by omega) hcz
    have hfb := fb_ne (A := (sA wd N p)) (m := p.1) y0 y2 n.toNat (by omega)
    refine g_iconst dX8_fill_9 ?_
    refine g_istore_n2 dX8_fill_10 rfl ?_
    refine g_iconst dX8_fill_11 ?_
    refine g_istore_n3 dX8_fill_12 rfl ?_
    have L13 : ∀ (fu13 : Nat) (fa r : Int), (n - r).toNat < fu13 → (0 ≤ r) → (r ≤ n) → (fa = fb (sA wd N p) p.1 L n r.toNat) → qG (qYn X8_fill 2 (pV (fun c' => (∀ q, q ≠ 53 → c' q = c q) ∧ ∀ r, 0 ≤ r → r < n → c' 53 r = fl (sA wd N p) p.1 n L g r))) wN 13 [some (qP 39), some (qI g), some (qI fa), some (qI r)] [] c := by
      intro fu13
      induction fu13 with
      | zero => intro fa r hm; exact absurd hm (Nat.not_lt_zero _)
      | succ fu13 ih13 =>
        intro fa r hm13 r0 r1 hfa
        have hfbd := fb_bd (A := (sA wd N p)) (m := p.1) (L := L) (n := n) r.toNat
        rw [← hfa] at hfbd
        refine g_iload_n (i := 3) dX8_fill_13 rfl rfl ?_
        refine g_aload_n (i := 0) dX8_fill_14 rfl rfl ?_
        refine g_getI (ji := 0) dX8_fill_15 fl8_82 (by first | rfl | assumption) (by first | decide | (show _ < 62; omega)) (by first | rfl | assumption) (by decide) rfl (by first | assumption | rfl) ?_
        refine g_icmp_ge 69 dX8_fill_18 (by decide) (fun b18 => ?_) (fun b18 => ?_)
        · skip
          rw [show r = n by omega] at hfa
          have hf0 : 0 ≤ fa := by rw [hfa]; exact hfb
          refine g_aload_n (i := 0) dX8_fill_69 rfl rfl ?_
          refine g_getP dX8_fill_70 fl8_55 (by first | rfl | assumption) (by first | decide | (show _ < 62; omega)) (by first | rfl | assumption) ?_
          refine g_iload_n (i := 2) dX8_fill_73 rfl rfl ?_
          refine g_iload_n (i := 1) dX8_fill_74 rfl rfl ?_
          refine g_iastore dX8_fill_75 (by first | rfl | assumption) (by first | decide | (show _ < 62; omega)) ?_
          exact n_retv dX8_fill_76 rfl (⟨fun q hq => by rw [qu_ne hq], fun x q0 q1 => by
                  unfold fl
                  rw [if_pos hcz, ← hfa]
                  show (if x = fa then g else c 53 x) = if x = fa then g else L x
                  rw [(hL x q0 q1).1]⟩)
        · skip
          have hLr := hL r r0 (by omega)
          refine g_aload_n (i := 0) dX8_fill_21 rfl rfl ?_
          refine g_aload_n (i := 0) dX8_fill_22 rfl rfl ?_
          refine g_getP dX8_fill_23 fl8_55 (by first | rfl | assumption) (by first | decide | (show _ < 62; omega)) (by first | rfl | assumption) ?_
          refine g_iload_n (i := 3) dX8_fill_26 rfl rfl ?_
          refine g_iaload dX8_fill_27 rfl (by decide) ?_
          rw [hLr.1]
          skip -- ?_
          refine n_callVi (k_X8_sizeNow _ n wd N hM0 _ L (by omega) (fun r q0 q1 => ⟨(hL r q0 q1).1, by have := hL r q0 q1; omega⟩)) dX8_fill_28 lk8_126 im_X8_sizeNow (by first | rfl | assumption) (by first | decide | (show _ < 62; omega)) rfl rfl rfl rfl (Nat.le_of_ble_eq_true rfl) (fun z c' hz => ?_)
          obtain ⟨rfl, hz2⟩ := hz
          have hz2 := hz2.symm
          subst hz2
          have hcb := cn_bd (g := L) (n := n) (k := L r) (by omega)
          refine g_iconst dX8_fill_31 ?_
          refine g_icmp_le 63 dX8_fill_32 (by decide) (fun b32 => ?_) (fun b32 => ?_)
          · skip
            refine g_iinc3 dX8_fill_63 rfl ?_
            refine g_goto 13 dX8_fill_66 (by decide) ?_
            exact ih13 _ _ (by omega) (by first | assumption | omega) (by first | assumption | omega) (by
                      first
                        | (rw [fb_no r0 (fun h => by have := h.1; omega)]; exact hfa)
                        | (rw [fb_yes r0 ⟨by omega, Or.inl (by rw [← hfa]; omega)⟩])
                        | (rw [fb_yes r0 ⟨by omega, Or.inr (by rw [← hfa]; exact hz.elim (fun q => q.2) (fun q => by omega))⟩])
                        | (rw [fb_no r0 (fun h => by
                            rw [← hfa] at h
                            exact hz.elim (fun q => by omega) (fun q => h.2.elim (fun e => by omega) (fun e => q.2 e)))]; exact hfa))
          · skip
            refine g_iload_n (i := 2) dX8_fill_35 rfl rfl ?_
            refine g_iconst dX8_fill_36 ?_
            refine g_icmp_eq 61 dX8_fill_37 (by decide) (fun b37 => ?_) (fun b37 => ?_)
            · skip
              refine g_iload_n (i := 3) dX8_fill_61 rfl rfl ?_
              refine g_istore_n2 dX8_fill_62 rfl ?_
              refine g_iinc3 dX8_fill_63 rfl ?_
              refine g_goto 13 dX8_fill_66 (by decide) ?_
              exact ih13 _ _ (by omega) (by first | assumption | omega) (by first | assumption | omega) (by
                        first
                          | (rw [fb_no r0 (fun h => by have := h.1; omega)]; exact hfa)
                          | (rw [fb_yes r0 ⟨by omega, Or.inl (by rw [← hfa]; omega)⟩])
                          | (rw [fb_yes r0 ⟨by omega, Or.inr (by rw [← hfa]; exact hz.elim (fun q => q.2) (fun q => by omega))⟩])
                          | (rw [fb_no r0 (fun h => by
                              rw [← hfa] at h
                              exact hz.elim (fun q => by omega) (fun q => h.2.elim (fun e => by omega) (fun e => q.2 e)))]; exact hfa))
            · skip
              have hLf := hL fa (by omega) (by omega)
              refine g_aload_n (i := 0) dX8_fill_40 rfl rfl ?_
              refine g_iload_n (i := 2) dX8_fill_41 rfl rfl ?_
              refine g_aload_n (i := 0) dX8_fill_42 rfl rfl ?_
              refine g_getP dX8_fill_43 fl8_55 (by first | rfl | assumption) (by first | decide | (show _ < 62; omega)) (by first | rfl | assumption) ?_
              refine g_iload_n (i := 2) dX8_fill_46 rfl rfl ?_
              refine g_iaload dX8_fill_47 rfl (by decide) ?_
              rw [hLf.1]
              skip -- ?_
              refine g_iload_n (i := 3) dX8_fill_48 rfl rfl ?_
              refine g_aload_n (i := 0) dX8_fill_49 rfl rfl ?_
              refine g_getP dX8_fill_50 fl8_55 (by first | rfl | assumption) (by first | decide | (show _ < 62; omega)) (by first | rfl | assumption) ?_
              refine g_iload_n (i := 3) dX8_fill_53 rfl rfl ?_
              refine g_iaload dX8_fill_54 rfl (by decide) ?_
              rw [hLr.1]
              skip -- ?_
              refine n_callVi (k_X8_isNearer _ n wd N hM0 k p k0 hp hm _ _ _ _ (by omega) (by omega) (by omega) (by omega) (by omega) (by omega) (by omega) (by omega)) dX8_fill_55 lk8_130 im_X8_isNearer (by first | rfl | assumption) (by first | decide | (show _ < 62; omega)) rfl rfl rfl rfl (Nat.le_of_ble_eq_true rfl) (fun z c' hz => ?_)
              obtain ⟨hz2, hz⟩ := hz
              have hz2 := hz2.symm
              subst hz2
              refine g_if_eq 63 dX8_fill_58 (by decide) (fun b58 => ?_) (fun b58 => ?_)
              · skip
                refine g_iinc3 dX8_fill_63 rfl ?_
                refine g_goto 13 dX8_fill_66 (by decide) ?_
                exact ih13 _ _ (by omega) (by first | assumption | omega) (by first | assumption | omega) (by
                          first
                            | (rw [fb_no r0 (fun h => by have := h.1; omega)]; exact hfa)
                            | (rw [fb_yes r0 ⟨by omega, Or.inl (by rw [← hfa]; omega)⟩])
                            | (rw [fb_yes r0 ⟨by omega, Or.inr (by rw [← hfa]; exact hz.elim (fun q => q.2) (fun q => by omega))⟩])
                            | (rw [fb_no r0 (fun h => by
                                rw [← hfa] at h
                                exact hz.elim (fun q => by omega) (fun q => h.2.elim (fun e => by omega) (fun e => q.2 e)))]; exact hfa))
              · skip
                refine g_iload_n (i := 3) dX8_fill_61 rfl rfl ?_
                refine g_istore_n2 dX8_fill_62 rfl ?_
                refine g_iinc3 dX8_fill_63 rfl ?_
                refine g_goto 13 dX8_fill_66 (by decide) ?_
                exact ih13 _ _ (by omega) (by first | assumption | omega) (by first | assumption | omega) (by
                          first
                            | (rw [fb_no r0 (fun h => by have := h.1; omega)]; exact hfa)
                            | (rw [fb_yes r0 ⟨by omega, Or.inl (by rw [← hfa]; omega)⟩])
                            | (rw [fb_yes r0 ⟨by omega, Or.inr (by rw [← hfa]; exact hz.elim (fun q => q.2) (fun q => by omega))⟩])
                            | (rw [fb_no r0 (fun h => by
                                rw [← hfa] at h
                                exact hz.elim (fun q => by omega) (fun q => h.2.elim (fun e => by omega) (fun e => q.2 e)))]; exact hfa))
    exact L13 _ _ _ (Nat.lt_succ_self _) (by first | assumption | omega) (by first | assumption | omega) rfl
  · skip
    exact n_retv dX8_fill_8 rfl (⟨fun q _ => rfl, fun r q0 q1 => by unfold fl; rw [if_neg (by omega)]; exact (hL r q0 q1).1⟩)
set_option maxHeartbeats 4000000 in
set_option maxRecDepth 100000 in
theorem k_X8_takeMeans (c : qC) (n wd : Int) (N : Int → Int → Int) (hM : Md c n wd N) (k : Int) (L : Int → Int) (k0 : 1 ≤ k ∧ k ≤ 6) (hL : ∀ r, 0 ≤ r → r < n → c 53 r = L r ∧ 0 ≤ L r ∧ L r < k)  : qN X8_takeMeans 1 [qP 39, qI k] c (pV (fun c' => (∀ q, q ≠ 51 → q ≠ 52 → c' q = c q) ∧ MT c' k wd (nxm n N L))) := by
  have hM0 := hM
  obtain ⟨t1, t2, t3, t4, t5, t6⟩ := hM
  refine qN.of [some (qP 39), some (qI k), none, none, none] (by decide) rfl (fun _ => rfl) (fun _ => Nat.le_of_ble_eq_true rfl) ?_
  refine g_iconst dX8_takeMeans_0 ?_
  refine g_istore_n2 dX8_takeMeans_1 rfl ?_
  have L2 : ∀ (fu2 : Nat) (g : Int) (c1 : qC), (k - g).toNat < fu2 → (0 ≤ g) → (g ≤ k) → (∀ q, q ≠ 51 → q ≠ 52 → c1 q = c q) → (MT c1 g wd (nxm n N L)) → qG (qYn X8_takeMeans 1 (pV (fun c' => (∀ q, q ≠ 51 → q ≠ 52 → c' q = c q) ∧ MT c' k wd (nxm n N L)))) wN 2 [some (qP 39), some (qI k), some (qI g), none, none] [] c1 := by
    intro fu2
    induction fu2 with
    | zero => intro g c1 hm; exact absurd hm (Nat.not_lt_zero _)
    | succ fu2 ih2 =>
      intro g c1 hm2 g0 g1 ff h1
      have hM1 : Md c1 n wd N := hM0.fr (by rw [ff 39 (by decide) (by decide)]) (by rw [ff 39 (by decide) (by decide)]) (ff 40 (by decide) (by decide))
      refine g_iload_n (i := 2) dX8_takeMeans_2 rfl rfl ?_
      refine g_iload_n (i := 1) dX8_takeMeans_3 rfl rfl ?_
      refine g_icmp_ge 109 dX8_takeMeans_4 (by decide) (fun b4 => ?_) (fun b4 => ?_)
      · skip
        exact n_retv dX8_takeMeans_109 rfl (⟨ff, by rw [show k = g by omega]; exact h1⟩)
      · skip
        refine g_aload_n (i := 0) dX8_takeMeans_7 rfl rfl ?_
        refine g_getP dX8_takeMeans_8 fl8_52 (by first | rfl | assumption) (by first | decide | (show _ < 62; omega)) (by first | rfl | assumption) ?_
        refine g_iload_n (i := 2) dX8_takeMeans_11 rfl rfl ?_
        refine g_aload_n (i := 0) dX8_takeMeans_12 rfl rfl ?_
        refine g_iload_n (i := 2) dX8_takeMeans_13 rfl rfl ?_
        refine n_callVi (k_X8_sizeNow _ n wd N hM1 _ L (by omega) (fun r q0 q1 => ⟨by rw [ff 53 (by decide) (by decide)]; exact (hL r q0 q1).1, by have := hL r q0 q1; omega⟩)) dX8_takeMeans_14 lk8_126 im_X8_sizeNow (by first | rfl | assumption) (by first | decide | (show _ < 62; omega)) rfl rfl rfl rfl (Nat.le_of_ble_eq_true rfl) (fun z c' hz => ?_)
        obtain ⟨rfl, hz2⟩ := hz
        have hz2 := hz2.symm
        subst hz2
        refine g_iastore dX8_takeMeans_17 (by first | rfl | assumption) (by first | decide | (show _ < 62; omega)) ?_
        refine g_iconst dX8_takeMeans_18 ?_
        refine g_istore_n3 dX8_takeMeans_19 rfl ?_
        have L20 : ∀ (fu20 : Nat) (x : Int) (c2 : qC), (wd - x).toNat < fu20 → (0 ≤ x) → (x ≤ wd) → (∀ q, q ≠ 51 → q ≠ 52 → c2 q = c q) → (MT c2 g wd (nxm n N L)) → (c2 52 g = cn L n g) → (∀ y, 0 ≤ y → y < x → c2 51 (4 * g + y) = sg L n g (fun r => N r y)) → qG (qYn X8_takeMeans 1 (pV (fun c' => (∀ q, q ≠ 51 → q ≠ 52 → c' q = c q) ∧ MT c' k wd (nxm n N L)))) wN 20 [some (qP 39), some (qI k), some (qI g), some (qI x), none] [] c2 := by
          intro fu20
          induction fu20 with
          | zero => intro x c2 hm; exact absurd hm (Nat.not_lt_zero _)
          | succ fu20 ih20 =>
            intro x c2 hm20 x0 x1 ff2 h2 h4 h3
            have e2 : c2 39 1 = wd := by rw [ff2 39 (by decide) (by decide)]; exact t2
            refine g_iload_n (i := 3) dX8_takeMeans_20 rfl rfl ?_
            refine g_aload_n (i := 0) dX8_takeMeans_21 rfl rfl ?_
            refine g_getI (ji := 1) dX8_takeMeans_22 fl8_7 (by first | rfl | assumption) (by first | decide | (show _ < 62; omega)) (by first | rfl | assumption) (by decide) rfl (by first | assumption | rfl) ?_
            refine g_icmp_ge 103 dX8_takeMeans_25 (by decide) (fun b25 => ?_) (fun b25 => ?_)
            · skip
              refine g_iinc2 dX8_takeMeans_103 rfl ?_
              refine g_goto 2 dX8_takeMeans_106 (by decide) ?_
              refine g_fg3 ?_
              exact ih2 _ _ (by omega) (by first | assumption | omega) (by first | assumption | omega) ff2 (fun q q0 q1 => by
                      by_cases e : q = g
                      · rw [e]; exact ⟨h4, fun y y0 y1 => h3 y y0 (by omega)⟩
                      · exact h2 q q0 (by omega))
            · skip
              refine g_aload_n (i := 0) dX8_takeMeans_28 rfl rfl ?_
              refine g_getP dX8_takeMeans_29 fl8_49 (by first | rfl | assumption) (by first | decide | (show _ < 62; omega)) (by first | rfl | assumption) ?_
              refine g_iconst dX8_takeMeans_32 ?_
              refine g_iload_n (i := 2) dX8_takeMeans_33 rfl rfl ?_
              refine g_imul dX8_takeMeans_34 ?_
              refine g_iload_n (i := 3) dX8_takeMeans_35 rfl rfl ?_
              refine g_iadd dX8_takeMeans_36 ?_
              refine g_lconst (z := 0) dX8_takeMeans_37 (by decide) ?_
              refine g_lastore dX8_takeMeans_38 (by first | rfl | assumption) (by first | decide | (show _ < 62; omega)) ?_
              refine g_iconst dX8_takeMeans_39 ?_
              refine g_istore4 dX8_takeMeans_40 rfl ?_
              have L42 : ∀ (fu42 : Nat) (r : Int) (c3 : qC), (n - r).toNat < fu42 → (0 ≤ r) → (r ≤ n) → (∀ q, q ≠ 51 → q ≠ 52 → c3 q = c q) → (MT c3 g wd (nxm n N L)) → (c3 52 g = cn L n g) → (∀ y, 0 ≤ y → y < x → c3 51 (4 * g + y) = sg L n g (fun r => N r y)) → (c3 51 (4 * g + x) = sg L r g (fun r => N r x)) → qG (qYn X8_takeMeans 1 (pV (fun c' => (∀ q, q ≠ 51 → q ≠ 52 → c' q = c q) ∧ MT c' k wd (nxm n N L)))) wN 42 [some (qP 39), some (qI k), some (qI g), some (qI x), some (qI r)] [] c3 := by
                intro fu42
                induction fu42 with
                | zero => intro r c3 hm; exact absurd hm (Nat.not_lt_zero _)
                | succ fu42 ih42 =>
                  intro r c3 hm42 r0 r1 ff3 h5 h6 h7 h8
                  have e3 : c3 39 0 = n := by rw [ff3 39 (by decide) (by decide)]; exact t1
                  refine g_iload dX8_takeMeans_42 rfl ?_
                  refine g_aload_n (i := 0) dX8_takeMeans_44 rfl rfl ?_
                  refine g_getI (ji := 0) dX8_takeMeans_45 fl8_82 (by first | rfl | assumption) (by first | decide | (show _ < 62; omega)) (by first | rfl | assumption) (by decide) rfl (by first | assumption | rfl) ?_
                  refine g_icmp_ge 97 dX8_takeMeans_48 (by decide) (fun b48 => ?_) (fun b48 => ?_)
                  · skip
                    refine g_iinc3 dX8_takeMeans_97 rfl ?_
                    refine g_goto 20 dX8_takeMeans_100 (by decide) ?_
                    refine g_fg4 ?_
                    exact ih20 _ _ (by omega) (by first | assumption | omega) (by first | assumption | omega) ff3 h5 h6 (fun y y0 y1 => by
                            by_cases e : y = x
                            · rw [e, h8, show r = n by omega]
                            · exact h7 y y0 (by omega))
                  · skip
                    have hLr := hL r r0 (by omega)
                    have hLc : c3 53 r = L r := by rw [ff3 53 (by decide) (by decide)]; exact hLr.1
                    have hNx := t6 r r0 (by omega) x x0 (by omega)
                    refine g_aload_n (i := 0) dX8_takeMeans_51 rfl rfl ?_
                    refine g_getP dX8_takeMeans_52 fl8_49 (by first | rfl | assumption) (by first | decide | (show _ < 62; omega)) (by first | rfl | assumption) ?_
                    refine g_iconst dX8_takeMeans_55 ?_
                    refine g_iload_n (i := 2) dX8_takeMeans_56 rfl rfl ?_
                    refine g_imul dX8_takeMeans_57 ?_
                    refine g_iload_n (i := 3) dX8_takeMeans_58 rfl rfl ?_
                    refine g_iadd dX8_takeMeans_59 ?_
                    first | refine g_dup2 dX8_takeMeans_60 rfl rfl ?_ | refine g_dup2l dX8_takeMeans_60 rfl ?_
                    refine g_laload dX8_takeMeans_61 (by first | rfl | assumption) (by first | decide | (show _ < 62; omega)) ?_
                    have J89 : ∀ (v : Int), (v = if L r = g then N r x else 0) → qG (qYn X8_takeMeans 1 (pV (fun c' => (∀ q, q ≠ 51 → q ≠ 52 → c' q = c q) ∧ MT c' k wd (nxm n N L)))) wN 89 [some (qP 39), some (qI k), some (qI g), some (qI x), some (qI r)] [qJ v, qJ (c3 51 (4 * g + x)), qI (4 * g + x), qP 51] c3 := by
                      intro v hv
                      refine g_ladd dX8_takeMeans_89 ?_
                      refine g_lastore dX8_takeMeans_90 (by first | rfl | assumption) (by first | decide | (show _ < 62; omega)) ?_
                      refine g_iinc4 dX8_takeMeans_91 rfl ?_
                      refine g_goto 42 dX8_takeMeans_94 (by decide) ?_
                      exact ih42 _ _ (by omega) (by first | assumption | omega) (by first | assumption | omega) (fun q q1 q2 => by rw [qu_ne q1]; exact ff3 q q1 q2) (fun q q0 q1 => ⟨(h5 q q0 q1).1, fun y y0 y1 => by rw [qu_off (by omega)]; exact (h5 q q0 q1).2 y y0 y1⟩) h6 (fun y y0 y1 => by rw [qu_off (by omega)]; exact h7 y y0 y1) (by rw [qu_eq, sg_s r0, h8, hv])
                    refine g_aload_n (i := 0) dX8_takeMeans_62 rfl rfl ?_
                    refine g_getP dX8_takeMeans_63 fl8_55 (by first | rfl | assumption) (by first | decide | (show _ < 62; omega)) (by first | rfl | assumption) ?_
                    refine g_iload dX8_takeMeans_66 rfl ?_
                    refine g_iaload dX8_takeMeans_68 rfl (by decide) ?_
                    rw [hLc]
                    skip -- ?_
                    refine g_iload_n (i := 2) dX8_takeMeans_69 rfl rfl ?_
                    refine g_icmp_ne 88 dX8_takeMeans_70 (by decide) (fun b70 => ?_) (fun b70 => ?_)
                    · skip
                      refine g_lconst (z := 0) dX8_takeMeans_88 (by decide) ?_
                      exact J89 _ (by first | (rw [if_pos (by omega)]) | (rw [if_neg (by omega)]))
                    · skip
                      refine g_aload_n (i := 0) dX8_takeMeans_73 rfl rfl ?_
                      refine g_getP dX8_takeMeans_74 fl8_13 (by first | rfl | assumption) (by first | decide | (show _ < 62; omega)) (by first | rfl | assumption) ?_
                      refine g_iconst dX8_takeMeans_77 ?_
                      refine g_iload dX8_takeMeans_78 rfl ?_
                      refine g_imul dX8_takeMeans_80 ?_
                      refine g_iload_n (i := 3) dX8_takeMeans_81 rfl rfl ?_
                      refine g_iadd dX8_takeMeans_82 ?_
                      refine g_iaload dX8_takeMeans_83 rfl (by decide) ?_
                      rw [show c3 40 (4 * r + x) = N r x by rw [ff3 40 (by decide) (by decide)]; exact t5 r x r0 (by omega) x0 (by omega)]
                      skip -- ?_
                      refine g_i2lx dX8_takeMeans_84 ?_
                      refine g_goto 89 dX8_takeMeans_85 (by decide) ?_
                      exact J89 _ (by first | (rw [if_pos (by omega)]) | (rw [if_neg (by omega)]))
              exact L42 _ _ _ (Nat.lt_succ_self _) (by first | assumption | omega) (by first | assumption | omega) (fun q q1 q2 => by rw [qu_ne q1]; exact ff2 q q1 q2) (fun q q0 q1 => ⟨(h2 q q0 q1).1, fun y y0 y1 => by rw [qu_off (by omega)]; exact (h2 q q0 q1).2 y y0 y1⟩) h4 (fun y y0 y1 => by rw [qu_off (by omega)]; exact h3 y y0 y1) (by rw [qu_eq]; rfl)
        exact L20 _ _ _ (Nat.lt_succ_self _) (by first | assumption | omega) (by first | assumption | omega) (fun q q1 q2 => by rw [qu_ne q2]; exact ff q q1 q2) (fun q q0 q1 => ⟨by rw [qu_off (by omega)]; exact (h1 q q0 q1).1, fun y y0 y1 => (h1 q q0 q1).2 y y0 y1⟩) (qu_eq _ _ _ _) (fun y y0 y1 => by omega)
  exact L2 _ _ _ (Nat.lt_succ_self _) (by first | assumption | omega) (by first | assumption | omega) (fun q _ _ => rfl) (fun x q0 q1 => by omega)
set_option maxHeartbeats 4000000 in
set_option maxRecDepth 100000 in
theorem k_X8_farthest (c : qC) (n wd : Int) (N : Int → Int → Int) (hM : Md c n wd N) (g : Nat) (g1 : 1 ≤ g) (n1 : 1 ≤ n) (hI : ∀ r, 0 ≤ r → r < n → c 54 r = (CQ (ds wd N 0) n g).2.1 r) : qN X8_farthest 1 [qP 39] c (pI (fun z c' => c' = c ∧ ((z = -1 ∧ ∀ x, 0 ≤ x → x < n → (CQ (ds wd N 0) n g).1 x = -1) ∨ (z = fxr (CQ (ds wd N 0) n g).1 n.toNat ∧ 0 ≤ z)))) := by
  have hM0 := hM
  obtain ⟨t1, t2, t3, t4, t5, t6⟩ := hM
  have hD : Db (ds wd N 0) n := fun i j i0 i1 j0 j1 => hM0.bd (kd := 0) i0 i1 j0 j1
  obtain ⟨oA, oB, oC, oE, oF, oG, oH, oK⟩ := CQ_ok hD n1 g
  have hI0 : (CQ (ds wd N 0) n g).2.1 0 = 1 := oG g1
  have hW0 : (CQ (ds wd N 0) n g).1 0 = -1 := oB 0 (by omega) (by omega) hI0
  refine qN.of [some (qP 39), none, none, none, none, none, none] (by decide) rfl (fun _ => rfl) (fun _ => Nat.le_of_ble_eq_true rfl) ?_
  refine g_iconst dX8_farthest_0 ?_
  refine g_istore_n1 dX8_farthest_1 rfl ?_
  refine g_iconst dX8_farthest_2 ?_
  refine g_istore_n2 dX8_farthest_3 rfl ?_
  refine g_iconst dX8_farthest_4 ?_
  refine g_istore_n3 dX8_farthest_5 rfl ?_
  have L6 : ∀ (fu6 : Nat) (be fa i : Int), (n - i).toNat < fu6 → (0 ≤ i) → (i ≤ n) → ((be = -1 ∧ fa = -1 ∧ fxr (CQ (ds wd N 0) n g).1 i.toNat = 0 ∧ ∀ x, 0 ≤ x → x < i → (CQ (ds wd N 0) n g).1 x = -1) ∨ (0 ≤ be ∧ be = fxr (CQ (ds wd N 0) n g).1 i.toNat ∧ fa = (CQ (ds wd N 0) n g).1 be ∧ 0 ≤ fa ∧ fa ≤ 16000000)) → qG (qYn X8_farthest 1 (pI (fun z c' => c' = c ∧ ((z = -1 ∧ ∀ x, 0 ≤ x → x < n → (CQ (ds wd N 0) n g).1 x = -1) ∨ (z = fxr (CQ (ds wd N 0) n g).1 n.toNat ∧ 0 ≤ z))))) wN 6 [some (qP 39), some (qI be), some (qI fa), some (qI i), none, none, none] [] c := by
    intro fu6
    induction fu6 with
    | zero => intro be fa i hm; exact absurd hm (Nat.not_lt_zero _)
    | succ fu6 ih6 =>
      intro be fa i hm6 i0 i1 hb
      refine g_iload_n (i := 3) dX8_farthest_6 rfl rfl ?_
      refine g_aload_n (i := 0) dX8_farthest_7 rfl rfl ?_
      refine g_getI (ji := 0) dX8_farthest_8 fl8_82 (by first | rfl | assumption) (by first | decide | (show _ < 62; omega)) (by first | rfl | assumption) (by decide) rfl (by first | assumption | rfl) ?_
      refine g_icmp_ge 103 dX8_farthest_11 (by decide) (fun b11 => ?_) (fun b11 => ?_)
      · skip
        refine g_iload_n (i := 1) dX8_farthest_103 rfl rfl ?_
        exact n_reti dX8_farthest_104 rfl (⟨rfl, hb.elim (fun h => Or.inl ⟨h.1, fun x x0 x1 => h.2.2.2 x x0 (by omega)⟩) (fun h => Or.inr ⟨by rw [h.2.1, show i = n by omega], h.1⟩)⟩)
      · skip
        refine g_iconst dX8_farthest_14 ?_
        refine g_istore4 dX8_farthest_15 rfl ?_
        refine g_iconst dX8_farthest_17 ?_
        refine g_istore5 dX8_farthest_18 rfl ?_
        have L20 : ∀ (fu20 : Nat) (lt j : Int), (n - j).toNat < fu20 → (0 ≤ j) → (j ≤ n) → ((lt = -1 ∧ ∀ y, 0 ≤ y → y < j → (CQ (ds wd N 0) n g).2.1 y = 0) ∨ (∃ y, (0 ≤ y ∧ y < n) ∧ (CQ (ds wd N 0) n g).2.1 y = 1 ∧ lt = ds wd N 0 i y ∧ ∀ z, 0 ≤ z → z < j → (CQ (ds wd N 0) n g).2.1 z = 1 → lt ≤ ds wd N 0 i z)) → qG (qYn X8_farthest 1 (pI (fun z c' => c' = c ∧ ((z = -1 ∧ ∀ x, 0 ≤ x → x < n → (CQ (ds wd N 0) n g).1 x = -1) ∨ (z = fxr (CQ (ds wd N 0) n g).1 n.toNat ∧ 0 ≤ z))))) wN 20 [some (qP 39), some (qI be), some (qI fa), some (qI i), some (qI lt), some (qI j), none] [] c := by
          intro fu20
          induction fu20 with
          | zero => intro lt j hm; exact absurd hm (Nat.not_lt_zero _)
          | succ fu20 ih20 =>
            intro lt j hm20 j0 j1 hlt
            have hltb : -1 ≤ lt ∧ lt ≤ 16000000 := by
              rcases hlt with h | ⟨y, h1, h2, h3, h4⟩
              · omega
              · have := hD i y i0 (by omega) h1.1 h1.2; omega
            refine g_iload dX8_farthest_20 rfl ?_
            refine g_aload_n (i := 0) dX8_farthest_22 rfl rfl ?_
            refine g_getI (ji := 0) dX8_farthest_23 fl8_82 (by first | rfl | assumption) (by first | decide | (show _ < 62; omega)) (by first | rfl | assumption) (by decide) rfl (by first | assumption | rfl) ?_
            refine g_icmp_ge 77 dX8_farthest_26 (by decide) (fun b26 => ?_) (fun b26 => ?_)
            · skip
              have hIi := hI i i0 (by omega)
              have hIi2 := oA i
              have hlt2 : ∃ y, (0 ≤ y ∧ y < n) ∧ (CQ (ds wd N 0) n g).2.1 y = 1 ∧ lt = ds wd N 0 i y ∧ ∀ z, 0 ≤ z → z < n → (CQ (ds wd N 0) n g).2.1 z = 1 → lt ≤ ds wd N 0 i z := by
                rcases hlt with h | ⟨y, h1, h2, h3, h4⟩
                · have := h.2 0 (by omega) (by omega); omega
                · exact ⟨y, h1, h2, h3, fun z z0 z1 hz => h4 z z0 (by omega) hz⟩
              have hWi : ((CQ (ds wd N 0) n g).2.1 i = 1 ∧ (CQ (ds wd N 0) n g).1 i = -1) ∨ ((CQ (ds wd N 0) n g).2.1 i = 0 ∧ (CQ (ds wd N 0) n g).1 i = lt) := by
                rcases hIi2 with h | h
                · right
                  refine ⟨h, ?_⟩
                  rcases oC i i0 (by omega) h with h5 | ⟨-, ⟨y, y0, y1, y2, y3⟩, h6⟩
                  · omega
                  · obtain ⟨z, z1, z2, z3, z4⟩ := hlt2
                    have h7 := h6 z z1.1 z1.2 z2
                    have h8 := z4 y y0 y1 y2
                    rw [ds_comm] at y3
                    rw [ds_comm] at h7
                    omega
                · exact Or.inl ⟨h, oB i i0 (by omega) h⟩
              have hfx := fxr_s (f := (CQ (ds wd N 0) n g).1) i0
              have hfaB : -1 ≤ fa ∧ fa ≤ 16000000 := by clear hlt hlt2 hWi; omega
              have hl0 : 0 ≤ lt := by
                obtain ⟨z, z1, z2, z3, z4⟩ := hlt2
                have := hD i z i0 (by omega) z1.1 z1.2
                omega
              clear hlt2 hlt
              refine g_aload_n (i := 0) dX8_farthest_77 rfl rfl ?_
              refine g_getP dX8_farthest_78 fl8_58 (by first | rfl | assumption) (by first | decide | (show _ < 62; omega)) (by first | rfl | assumption) ?_
              refine g_iload_n (i := 3) dX8_farthest_81 rfl rfl ?_
              refine g_baload dX8_farthest_82 rfl (by decide) ?_
              rw [hIi]
              skip -- ?_
              refine g_if_ne 97 dX8_farthest_83 (by decide) (fun b83 => ?_) (fun b83 => ?_)
              · skip
                first
                  | (have hbN2 := hbN)
                  | (have hbN : (be = -1 ∧ fa = -1 ∧ fxr (CQ (ds wd N 0) n g).1 (i + 1).toNat = 0 ∧ ∀ x, 0 ≤ x → x < i + 1 → (CQ (ds wd N 0) n g).1 x = -1) ∨ (0 ≤ be ∧ be = fxr (CQ (ds wd N 0) n g).1 (i + 1).toNat ∧ fa = (CQ (ds wd N 0) n g).1 be ∧ 0 ≤ fa ∧ fa ≤ 16000000) := by
                      rcases hb with ⟨h1, h2, h3, h4⟩ | ⟨h1, h2, h3, h4, h5⟩
                      · have hWm : (CQ (ds wd N 0) n g).1 i = -1 := by omega
                        left
                        refine ⟨h1, h2, ?_, fun x x0 x1 => ?_⟩
                        · rw [hfx, h3, hW0, if_neg (by omega)]
                        · by_cases e : x = i
                          · rw [e]; exact hWm
                          · exact h4 x x0 (by omega)
                      · right
                        refine ⟨h1, ?_, h3, h4, h5⟩
                        rw [hfx, ← h2, if_neg (by omega)])
                refine g_iinc3 dX8_farthest_97 rfl ?_
                refine g_goto 6 dX8_farthest_100 (by decide) ?_
                refine g_fg4 ?_
                refine g_fg5 ?_
                exact ih6 _ _ _ (by omega) (by first | assumption | omega) (by first | assumption | omega) hbN
              · skip
                refine g_iload dX8_farthest_86 rfl ?_
                refine g_iload_n (i := 2) dX8_farthest_88 rfl rfl ?_
                refine g_icmp_le 97 dX8_farthest_89 (by decide) (fun b89 => ?_) (fun b89 => ?_)
                · skip
                  first
                    | (have hbN2 := hbN)
                    | (have hbN : (be = -1 ∧ fa = -1 ∧ fxr (CQ (ds wd N 0) n g).1 (i + 1).toNat = 0 ∧ ∀ x, 0 ≤ x → x < i + 1 → (CQ (ds wd N 0) n g).1 x = -1) ∨ (0 ≤ be ∧ be = fxr (CQ (ds wd N 0) n g).1 (i + 1).toNat ∧ fa = (CQ (ds wd N 0) n g).1 be ∧ 0 ≤ fa ∧ fa ≤ 16000000) := by
                        rcases hb with ⟨h1, h2, h3, h4⟩ | ⟨h1, h2, h3, h4, h5⟩
                        · have hWm : (CQ (ds wd N 0) n g).1 i = -1 := by omega
                          left
                          refine ⟨h1, h2, ?_, fun x x0 x1 => ?_⟩
                          · rw [hfx, h3, hW0, if_neg (by omega)]
                          · by_cases e : x = i
                            · rw [e]; exact hWm
                            · exact h4 x x0 (by omega)
                        · right
                          refine ⟨h1, ?_, h3, h4, h5⟩
                          rw [hfx, ← h2, if_neg (by omega)])
                  refine g_iinc3 dX8_farthest_97 rfl ?_
                  refine g_goto 6 dX8_farthest_100 (by decide) ?_
                  refine g_fg4 ?_
                  refine g_fg5 ?_
                  exact ih6 _ _ _ (by omega) (by first | assumption | omega) (by first | assumption | omega) hbN
                · skip
                  have hbN : (i = -1 ∧ lt = -1 ∧ fxr (CQ (ds wd N 0) n g).1 (i + 1).toNat = 0 ∧ ∀ x, 0 ≤ x → x < i + 1 → (CQ (ds wd N 0) n g).1 x = -1) ∨ (0 ≤ i ∧ i = fxr (CQ (ds wd N 0) n g).1 (i + 1).toNat ∧ lt = (CQ (ds wd N 0) n g).1 i ∧ 0 ≤ lt ∧ lt ≤ 16000000) := by
                    right
                    have hWm : (CQ (ds wd N 0) n g).1 i = lt := by omega
                    refine ⟨i0, ?_, hWm.symm, hl0, by omega⟩
                    rcases hb with ⟨h1, h2, h3, h4⟩ | ⟨h1, h2, h3, h4, h5⟩
                    · rw [hfx, h3, hW0, if_pos (by omega)]
                    · rw [hfx, ← h2, if_pos (by omega)]
                  refine g_iload dX8_farthest_92 rfl ?_
                  refine g_istore_n2 dX8_farthest_94 rfl ?_
                  refine g_iload_n (i := 3) dX8_farthest_95 rfl rfl ?_
                  refine g_istore_n1 dX8_farthest_96 rfl ?_
                  first
                    | (have hbN2 := hbN)
                    | (have hbN : (be = -1 ∧ fa = -1 ∧ fxr (CQ (ds wd N 0) n g).1 (i + 1).toNat = 0 ∧ ∀ x, 0 ≤ x → x < i + 1 → (CQ (ds wd N 0) n g).1 x = -1) ∨ (0 ≤ be ∧ be = fxr (CQ (ds wd N 0) n g).1 (i + 1).toNat ∧ fa = (CQ (ds wd N 0) n g).1 be ∧ 0 ≤ fa ∧ fa ≤ 16000000) := by
                        rcases hb with ⟨h1, h2, h3, h4⟩ | ⟨h1, h2, h3, h4, h5⟩
                        · have hWm : (CQ (ds wd N 0) n g).1 i = -1 := by omega
                          left
                          refine ⟨h1, h2, ?_, fun x x0 x1 => ?_⟩
                          · rw [hfx, h3, hW0, if_neg (by omega)]
                          · by_cases e : x = i
                            · rw [e]; exact hWm
                            · exact h4 x x0 (by omega)
                        · right
                          refine ⟨h1, ?_, h3, h4, h5⟩
                          rw [hfx, ← h2, if_neg (by omega)])
                  refine g_iinc3 dX8_farthest_97 rfl ?_
                  refine g_goto 6 dX8_farthest_100 (by decide) ?_
                  refine g_fg4 ?_
                  refine g_fg5 ?_
                  exact ih6 _ _ _ (by omega) (by first | assumption | omega) (by first | assumption | omega) hbN
            · skip
              refine g_aload_n (i := 0) dX8_farthest_29 rfl rfl ?_
              refine g_iconst dX8_farthest_30 ?_
              refine g_iload_n (i := 3) dX8_farthest_31 rfl rfl ?_
              refine g_iload dX8_farthest_32 rfl ?_
              refine n_callVi (k_X8_apart _ n wd 0 _ _ N hM0 (by omega) (by omega) (by omega) (by omega) (by omega) (by omega)) dX8_farthest_34 lk8_105 im_X8_apart (by first | rfl | assumption) (by first | decide | (show _ < 62; omega)) rfl rfl rfl rfl (Nat.le_of_ble_eq_true rfl) (fun z c' hz => ?_)
              obtain ⟨rfl, hz2⟩ := hz
              have hz2 := hz2.symm
              subst hz2
              have hab := hD i j i0 (by omega) j0 (by omega)
              have hIj := hI j j0 (by omega)
              have hIj2 := oA j
              refine g_istore6 dX8_farthest_37 rfl ?_
              refine g_aload_n (i := 0) dX8_farthest_39 rfl rfl ?_
              refine g_getP dX8_farthest_40 fl8_58 (by first | rfl | assumption) (by first | decide | (show _ < 62; omega)) (by first | rfl | assumption) ?_
              refine g_iload dX8_farthest_43 rfl ?_
              refine g_baload dX8_farthest_45 rfl (by decide) ?_
              rw [hIj]
              skip -- ?_
              have J69 : ∀ (le : Int), ((le = -1 ∧ ∀ y, 0 ≤ y → y < j + 1 → (CQ (ds wd N 0) n g).2.1 y = 0) ∨ (∃ y, (0 ≤ y ∧ y < n) ∧ (CQ (ds wd N 0) n g).2.1 y = 1 ∧ le = ds wd N 0 i y ∧ ∀ z, 0 ≤ z → z < j + 1 → (CQ (ds wd N 0) n g).2.1 z = 1 → le ≤ ds wd N 0 i z)) → qG (qYn X8_farthest 1 (pI (fun z c' => c' = c ∧ ((z = -1 ∧ ∀ x, 0 ≤ x → x < n → (CQ (ds wd N 0) n g).1 x = -1) ∨ (z = fxr (CQ (ds wd N 0) n g).1 n.toNat ∧ 0 ≤ z))))) wN 69 [some (qP 39), some (qI be), some (qI fa), some (qI i), none, some (qI j), none] [qI le] c := by
                intro le hle
                refine g_istore4 dX8_farthest_69 rfl ?_
                refine g_iinc5 dX8_farthest_71 rfl ?_
                refine g_goto 20 dX8_farthest_74 (by decide) ?_
                exact ih20 _ _ (by clear hle hlt; omega) (by clear hle hlt; omega) (by clear hle hlt; omega) hle
              refine g_if_eq 67 dX8_farthest_46 (by decide) (fun b46 => ?_) (fun b46 => ?_)
              · skip
                refine g_iload dX8_farthest_67 rfl ?_
                refine g_fg4 ?_
                refine g_fg6 ?_
                exact J69 _ (by
                            first
                              | exact Or.inr ⟨j, ⟨j0, by omega⟩, by omega, rfl, fun z z0 z1 hz1 => by
                                  by_cases e : z = j
                                  · rw [e]; omega
                                  · rcases hlt with h | ⟨y, h1, h2, h3, h4⟩
                                    · have := h.2 z z0 (by omega); omega
                                    · have := h4 z z0 (by omega) hz1
                                      have hyb := hD i y i0 (by omega) h1.1 h1.2
                                      omega⟩
                              | (rcases hlt with ⟨h, h5⟩ | ⟨y, h1, h2, h3, h4⟩
                                 · exact Or.inl ⟨h, fun z z0 z1 => by
                                     by_cases e : z = j
                                     · rw [e]; omega
                                     · exact h5 z z0 (by omega)⟩
                                 · exact Or.inr ⟨y, h1, h2, h3, fun z z0 z1 hz1 => by
                                     by_cases e : z = j
                                     · rw [e] at hz1 ⊢; omega
                                     · exact h4 z z0 (by omega) hz1⟩))
              · skip
                refine g_iload dX8_farthest_49 rfl ?_
                refine g_iconst dX8_farthest_51 ?_
                refine g_icmp_eq 62 dX8_farthest_52 (by decide) (fun b52 => ?_) (fun b52 => ?_)
                · skip
                  refine g_iload dX8_farthest_62 rfl ?_
                  refine g_goto 69 dX8_farthest_64 (by decide) ?_
                  refine g_fg4 ?_
                  refine g_fg6 ?_
                  exact J69 _ (by
                              first
                                | exact Or.inr ⟨j, ⟨j0, by omega⟩, by omega, rfl, fun z z0 z1 hz1 => by
                                    by_cases e : z = j
                                    · rw [e]; omega
                                    · rcases hlt with h | ⟨y, h1, h2, h3, h4⟩
                                      · have := h.2 z z0 (by omega); omega
                                      · have := h4 z z0 (by omega) hz1
                                        have hyb := hD i y i0 (by omega) h1.1 h1.2
                                        omega⟩
                                | (rcases hlt with ⟨h, h5⟩ | ⟨y, h1, h2, h3, h4⟩
                                   · exact Or.inl ⟨h, fun z z0 z1 => by
                                       by_cases e : z = j
                                       · rw [e]; omega
                                       · exact h5 z z0 (by omega)⟩
                                   · exact Or.inr ⟨y, h1, h2, h3, fun z z0 z1 hz1 => by
                                       by_cases e : z = j
                                       · rw [e] at hz1 ⊢; omega
                                       · exact h4 z z0 (by omega) hz1⟩))
                · skip
                  refine g_iload dX8_farthest_55 rfl ?_
                  refine g_iload dX8_farthest_57 rfl ?_
                  refine g_icmp_ge 67 dX8_farthest_59 (by decide) (fun b59 => ?_) (fun b59 => ?_)
                  · skip
                    refine g_iload dX8_farthest_67 rfl ?_
                    refine g_fg4 ?_
                    refine g_fg6 ?_
                    exact J69 _ (by
                                first
                                  | exact Or.inr ⟨j, ⟨j0, by omega⟩, by omega, rfl, fun z z0 z1 hz1 => by
                                      by_cases e : z = j
                                      · rw [e]; omega
                                      · rcases hlt with h | ⟨y, h1, h2, h3, h4⟩
                                        · have := h.2 z z0 (by omega); omega
                                        · have := h4 z z0 (by omega) hz1
                                          have hyb := hD i y i0 (by omega) h1.1 h1.2
                                          omega⟩
                                  | (rcases hlt with ⟨h, h5⟩ | ⟨y, h1, h2, h3, h4⟩
                                     · exact Or.inl ⟨h, fun z z0 z1 => by
                                         by_cases e : z = j
                                         · rw [e]; omega
                                         · exact h5 z z0 (by omega)⟩
                                     · exact Or.inr ⟨y, h1, h2, h3, fun z z0 z1 hz1 => by
                                         by_cases e : z = j
                                         · rw [e] at hz1 ⊢; omega
                                         · exact h4 z z0 (by omega) hz1⟩))
                  · skip
                    refine g_iload dX8_farthest_62 rfl ?_
                    refine g_goto 69 dX8_farthest_64 (by decide) ?_
                    refine g_fg4 ?_
                    refine g_fg6 ?_
                    exact J69 _ (by
                                first
                                  | exact Or.inr ⟨j, ⟨j0, by omega⟩, by omega, rfl, fun z z0 z1 hz1 => by
                                      by_cases e : z = j
                                      · rw [e]; omega
                                      · rcases hlt with h | ⟨y, h1, h2, h3, h4⟩
                                        · have := h.2 z z0 (by omega); omega
                                        · have := h4 z z0 (by omega) hz1
                                          have hyb := hD i y i0 (by omega) h1.1 h1.2
                                          omega⟩
                                  | (rcases hlt with ⟨h, h5⟩ | ⟨y, h1, h2, h3, h4⟩
                                     · exact Or.inl ⟨h, fun z z0 z1 => by
                                         by_cases e : z = j
                                         · rw [e]; omega
                                         · exact h5 z z0 (by omega)⟩
                                     · exact Or.inr ⟨y, h1, h2, h3, fun z z0 z1 hz1 => by
                                         by_cases e : z = j
                                         · rw [e] at hz1 ⊢; omega
                                         · exact h4 z z0 (by omega) hz1⟩))
        exact L20 _ _ _ (Nat.lt_succ_self _) (by first | assumption | omega) (by first | assumption | omega) (Or.inl ⟨rfl, fun y y0 y1 => by omega⟩)
  exact L6 _ _ _ _ (Nat.lt_succ_self _) (by first | assumption | omega) (by first | assumption | omega) (Or.inl ⟨rfl, rfl, rfl, fun x x0 x1 => by omega⟩)
set_option maxHeartbeats 4000000 in
set_option maxRecDepth 100000 in
theorem k_X8_chooseFirst (c : qC) (n wd : Int) (N : Int → Int → Int) (hM : Md c n wd N) (k : Int) (k0 : 1 ≤ k ∧ k ≤ 6) (kn : k ≤ n) : qN X8_chooseFirst 2 [qP 39, qI k] c (pV (fun c' => (∀ u, u ≠ 51 → u ≠ 52 → u ≠ 54 → c' u = c u) ∧ MT c' k wd (p0 wd N n))) := by
  have hM0 := hM
  obtain ⟨t1, t2, t3, t4, t5, t6⟩ := hM
  have hD : Db (ds wd N 0) n := fun i j i0 i1 j0 j1 => hM0.bd (kd := 0) i0 i1 j0 j1
  refine qN.of [some (qP 39), some (qI k), none, none, none] (by decide) rfl (fun _ => rfl) (fun _ => Nat.le_of_ble_eq_true rfl) ?_
  refine g_iconst dX8_chooseFirst_0 ?_
  refine g_istore_n2 dX8_chooseFirst_1 rfl ?_
  have L2 : ∀ (fu2 : Nat) (r : Int) (c1 : qC), (n - r).toNat < fu2 → (0 ≤ r) → (r ≤ n) → (∀ u, u ≠ 54 → c1 u = c u) → (∀ x, 0 ≤ x → x < r → c1 54 x = 0) → qG (qYn X8_chooseFirst 2 (pV (fun c' => (∀ u, u ≠ 51 → u ≠ 52 → u ≠ 54 → c' u = c u) ∧ MT c' k wd (p0 wd N n)))) wN 2 [some (qP 39), some (qI k), some (qI r), none, none] [] c1 := by
    intro fu2
    induction fu2 with
    | zero => intro r c1 hm; exact absurd hm (Nat.not_lt_zero _)
    | succ fu2 ih2 =>
      intro r c1 hm2 r0 r1 ff h1
      have e1 : c1 39 0 = n := by rw [ff 39 (by decide)]; exact t1
      refine g_iload_n (i := 2) dX8_chooseFirst_2 rfl rfl ?_
      refine g_aload_n (i := 0) dX8_chooseFirst_3 rfl rfl ?_
      refine g_getI (ji := 0) dX8_chooseFirst_4 fl8_82 (by first | rfl | assumption) (by first | decide | (show _ < 62; omega)) (by first | rfl | assumption) (by decide) rfl (by first | assumption | rfl) ?_
      refine g_icmp_ge 23 dX8_chooseFirst_7 (by decide) (fun b7 => ?_) (fun b7 => ?_)
      · skip
        refine g_iconst dX8_chooseFirst_23 ?_
        refine g_istore_n2 dX8_chooseFirst_24 rfl ?_
        refine g_iconst dX8_chooseFirst_25 ?_
        refine g_istore_n3 dX8_chooseFirst_26 rfl ?_
        have L27 : ∀ (fu27 : Nat) (q g : Int) (c1 : qC), (k - g).toNat < fu27 → (0 ≤ g) → (g ≤ k) → (∀ u, u ≠ 51 → u ≠ 52 → u ≠ 54 → c1 u = c u) → (g < k → q = (CQ (ds wd N 0) n g.toNat).2.2) → (∀ r, 0 ≤ r → r < n → c1 54 r = (CQ (ds wd N 0) n g.toNat).2.1 r) → (MT c1 g wd (p0 wd N n)) → qG (qYn X8_chooseFirst 2 (pV (fun c' => (∀ u, u ≠ 51 → u ≠ 52 → u ≠ 54 → c' u = c u) ∧ MT c' k wd (p0 wd N n)))) wN 27 [some (qP 39), some (qI k), some (qI q), some (qI g), none] [] c1 := by
          intro fu27
          induction fu27 with
          | zero => intro q g c1 hm; exact absurd hm (Nat.not_lt_zero _)
          | succ fu27 ih27 =>
            intro q g c1 hm27 g0 g1 ff hq hw hm
            refine g_iload_n (i := 3) dX8_chooseFirst_27 rfl rfl ?_
            refine g_iload_n (i := 1) dX8_chooseFirst_28 rfl rfl ?_
            refine g_icmp_ge 98 dX8_chooseFirst_29 (by decide) (fun b29 => ?_) (fun b29 => ?_)
            · skip
              exact n_retv dX8_chooseFirst_98 rfl (⟨ff, by rw [show k = g by omega]; exact hm⟩)
            · skip
              have hqe := hq (by omega)
              have hqb := (CQ_ok hD (by omega) g.toNat).2.2.2.1
              rw [← hqe] at hqb
              refine g_aload_n (i := 0) dX8_chooseFirst_32 rfl rfl ?_
              refine g_getP dX8_chooseFirst_33 fl8_58 (by first | rfl | assumption) (by first | decide | (show _ < 62; omega)) (by first | rfl | assumption) ?_
              refine g_iload_n (i := 2) dX8_chooseFirst_36 rfl rfl ?_
              refine g_iconst dX8_chooseFirst_37 ?_
              refine g_bastore dX8_chooseFirst_38 (by first | rfl | assumption) (by first | decide | (show _ < 62; omega)) (by first | exact Or.inl rfl | exact Or.inr rfl | omega) ?_
              refine g_aload_n (i := 0) dX8_chooseFirst_39 rfl rfl ?_
              refine g_getP dX8_chooseFirst_40 fl8_52 (by first | rfl | assumption) (by first | decide | (show _ < 62; omega)) (by first | rfl | assumption) ?_
              refine g_iload_n (i := 3) dX8_chooseFirst_43 rfl rfl ?_
              refine g_iconst dX8_chooseFirst_44 ?_
              refine g_iastore dX8_chooseFirst_45 (by first | rfl | assumption) (by first | decide | (show _ < 62; omega)) ?_
              refine g_iconst dX8_chooseFirst_46 ?_
              refine g_istore4 dX8_chooseFirst_47 rfl ?_
              have L49 : ∀ (fu49 : Nat) (x : Int) (c2 : qC), (wd - x).toNat < fu49 → (0 ≤ x) → (x ≤ wd) → (∀ u, u ≠ 51 → u ≠ 52 → u ≠ 54 → c2 u = c u) → (∀ r, 0 ≤ r → r < n → c2 54 r = (CQ (ds wd N 0) n (g + 1).toNat).2.1 r) → (MT c2 g wd (p0 wd N n)) → (c2 52 g = 1) → (∀ y, 0 ≤ y → y < x → c2 51 (4 * g + y) = N q y) → qG (qYn X8_chooseFirst 2 (pV (fun c' => (∀ u, u ≠ 51 → u ≠ 52 → u ≠ 54 → c' u = c u) ∧ MT c' k wd (p0 wd N n)))) wN 49 [some (qP 39), some (qI k), some (qI q), some (qI g), some (qI x)] [] c2 := by
                intro fu49
                induction fu49 with
                | zero => intro x c2 hm; exact absurd hm (Nat.not_lt_zero _)
                | succ fu49 ih49 =>
                  intro x c2 hm49 x0 x1 ff2 hw2 hm2 h4 h3
                  have e2 : c2 39 1 = wd := by rw [ff2 39 (by decide) (by decide) (by decide)]; exact t2
                  have hM2 : Md c2 n wd N := hM0.fr (by rw [ff2 39 (by decide) (by decide) (by decide)]) (by rw [ff2 39 (by decide) (by decide) (by decide)]) (ff2 40 (by decide) (by decide) (by decide))
                  refine g_iload dX8_chooseFirst_49 rfl ?_
                  refine g_aload_n (i := 0) dX8_chooseFirst_51 rfl rfl ?_
                  refine g_getI (ji := 1) dX8_chooseFirst_52 fl8_7 (by first | rfl | assumption) (by first | decide | (show _ < 62; omega)) (by first | rfl | assumption) (by decide) rfl (by first | assumption | rfl) ?_
                  refine g_icmp_ge 87 dX8_chooseFirst_55 (by decide) (fun b55 => ?_) (fun b55 => ?_)
                  · skip
                    refine g_aload_n (i := 0) dX8_chooseFirst_87 rfl rfl ?_
                    refine n_callVi (k_X8_farthest _ n wd N hM2 (g + 1).toNat (by omega) (by omega) hw2) dX8_chooseFirst_88 lk8_118 im_X8_farthest (by first | rfl | assumption) (by first | decide | (show _ < 62; omega)) rfl rfl rfl rfl (Nat.le_of_ble_eq_true rfl) (fun z c3 hz => ?_)
                    obtain ⟨hz2, hz⟩ := hz
                    have hz2 := hz2.symm
                    subst hz2
                    refine g_istore_n2 dX8_chooseFirst_91 rfl ?_
                    refine g_iinc3 dX8_chooseFirst_92 rfl ?_
                    refine g_goto 27 dX8_chooseFirst_95 (by decide) ?_
                    refine g_fg4 ?_
                    exact ih27 _ _ _ (by omega) (by first | assumption | omega) (by first | assumption | omega) ff2 (fun hgk => by
                            rw [CQ_s g0]
                            have ho := CQ_ok hD (by omega) (g + 1).toNat
                            have hI2 := ho.2.2.2.2.2.2.1 (by omega)
                            have hr2 := ho.2.2.2.1
                            rcases ho.2.2.1 _ hr2.1 hr2.2 hI2 with h5 | ⟨-, ⟨y, y0, y1, y2, y3⟩, -⟩
                            · omega
                            · have h6 := hD y _ y0 y1 hr2.1 hr2.2
                              rcases hz with ⟨-, h7⟩ | h7
                              · have h8 := h7 _ hr2.1 hr2.2
                                omega
                              · rw [h7.1, CQ_s g0]) hw2 (fun u q0 q1 => by
                            by_cases e : u = g
                            · rw [e]; exact ⟨h4, fun y y0 y1 => by rw [h3 y y0 (by omega), hqe]; rfl⟩
                            · exact hm2 u q0 (by omega))
                  · skip
                    have hNx := t6 q hqb.1 hqb.2 x x0 (by omega)
                    refine g_aload_n (i := 0) dX8_chooseFirst_58 rfl rfl ?_
                    refine g_getP dX8_chooseFirst_59 fl8_49 (by first | rfl | assumption) (by first | decide | (show _ < 62; omega)) (by first | rfl | assumption) ?_
                    refine g_iconst dX8_chooseFirst_62 ?_
                    refine g_iload_n (i := 3) dX8_chooseFirst_63 rfl rfl ?_
                    refine g_imul dX8_chooseFirst_64 ?_
                    refine g_iload dX8_chooseFirst_65 rfl ?_
                    refine g_iadd dX8_chooseFirst_67 ?_
                    refine g_aload_n (i := 0) dX8_chooseFirst_68 rfl rfl ?_
                    refine g_getP dX8_chooseFirst_69 fl8_13 (by first | rfl | assumption) (by first | decide | (show _ < 62; omega)) (by first | rfl | assumption) ?_
                    refine g_iconst dX8_chooseFirst_72 ?_
                    refine g_iload_n (i := 2) dX8_chooseFirst_73 rfl rfl ?_
                    refine g_imul dX8_chooseFirst_74 ?_
                    refine g_iload dX8_chooseFirst_75 rfl ?_
                    refine g_iadd dX8_chooseFirst_77 ?_
                    refine g_iaload dX8_chooseFirst_78 rfl (by decide) ?_
                    rw [show c2 40 (4 * q + x) = N q x by rw [ff2 40 (by decide) (by decide) (by decide)]; exact t5 q x hqb.1 hqb.2 x0 (by omega)]
                    skip -- ?_
                    refine g_i2lx dX8_chooseFirst_79 ?_
                    refine g_lastore dX8_chooseFirst_80 (by first | rfl | assumption) (by first | decide | (show _ < 62; omega)) ?_
                    refine g_iinc4 dX8_chooseFirst_81 rfl ?_
                    refine g_goto 49 dX8_chooseFirst_84 (by decide) ?_
                    exact ih49 _ _ (by omega) (by first | assumption | omega) (by first | assumption | omega) (fun u u1 u2 u3 => by rw [qu_ne u1]; exact ff2 u u1 u2 u3) hw2 (fun u q0 q1 => ⟨(hm2 u q0 q1).1, fun y y0 y1 => by rw [qu_off (by omega)]; exact (hm2 u q0 q1).2 y y0 y1⟩) h4 (fun y y0 y1 => by
                            rw [qu_at]; split
                            · rw [show y = x by omega]
                            · exact h3 y y0 (by omega))
              exact L49 _ _ _ (Nat.lt_succ_self _) (by first | assumption | omega) (by first | assumption | omega) (fun u u1 u2 u3 => by rw [qu_ne u2, qu_ne u3]; exact ff u u1 u2 u3) (fun r q0 q1 => by
                      rw [CQ_s g0, ← hqe]
                      show (if r = q then 1 else c1 54 r) = if r = q then 1 else _
                      rw [hw r q0 q1]) (fun u q0 q1 => ⟨by rw [qu_off (by omega)]; exact (hm u q0 q1).1, fun y y0 y1 => (hm u q0 q1).2 y y0 y1⟩) (qu_eq _ _ _ _) (fun y y0 y1 => by omega)
        exact L27 _ _ _ _ (Nat.lt_succ_self _) (by first | assumption | omega) (by first | assumption | omega) (fun u _ _ h => ff u h) (fun _ => rfl) (fun r q0 q1 => h1 r q0 (by omega)) (fun g q0 q1 => by omega)
      · skip
        refine g_aload_n (i := 0) dX8_chooseFirst_10 rfl rfl ?_
        refine g_getP dX8_chooseFirst_11 fl8_58 (by first | rfl | assumption) (by first | decide | (show _ < 62; omega)) (by first | rfl | assumption) ?_
        refine g_iload_n (i := 2) dX8_chooseFirst_14 rfl rfl ?_
        refine g_iconst dX8_chooseFirst_15 ?_
        refine g_bastore dX8_chooseFirst_16 (by first | rfl | assumption) (by first | decide | (show _ < 62; omega)) (by first | exact Or.inl rfl | exact Or.inr rfl | omega) ?_
        refine g_iinc2 dX8_chooseFirst_17 rfl ?_
        refine g_goto 2 dX8_chooseFirst_20 (by decide) ?_
        exact ih2 _ _ (by omega) (by first | assumption | omega) (by first | assumption | omega) (fun q hq => by rw [qu_ne hq]; exact ff q hq) (fun x q0 q1 => by
                rw [qu_at]; split
                · rfl
                · exact h1 x q0 (by omega))
  exact L2 _ _ _ (Nat.lt_succ_self _) (by first | assumption | omega) (by first | assumption | omega) (fun q _ => rfl) (fun x q0 q1 => by omega)
set_option maxHeartbeats 4000000 in
set_option maxRecDepth 100000 in
theorem k_X8_means (c : qC) (n wd : Int) (N : Int → Int → Int) (S : Sl) (mm : Int) (md : Int → Int) (T : Tr) (hS : TS c n wd N S mm md T) (s k : Int) (s0 : iR s) (k0 : iR k) : qN X8_means 3 [qP 39, qI s, qI k] c (pI (fun z c' => z = a_mns n wd N s k ∧ TS c' n wd N (s_mns n wd N S s k) mm md T ∧ FrT c c')) := by
  have hS0 := hS
  obtain ⟨hM, hSl, hMd, hTr⟩ := hS
  have hM0 := hM
  obtain ⟨t1, t2, t3, t4, t5, t6⟩ := hM
  have hD : Db (ds wd N 0) n := fun i j i0 i1 j0 j1 => hM0.bd (kd := 0) i0 i1 j0 j1
  refine qN.of [some (qP 39), some (qI s), some (qI k), none, none, none, none] (by decide) rfl (fun _ => rfl) (fun _ => Nat.le_of_ble_eq_true rfl) ?_
  refine g_iload_n (i := 1) dX8_means_0 rfl rfl ?_
  refine g_iconst dX8_means_1 ?_
  refine g_iconst dX8_means_2 ?_
  refine n_callSi (k_X8_within _ _ _ _ (by omega) (by omega) (by omega)) dX8_means_3 lk8_85 sm_X8_within rfl rfl rfl (Nat.le_of_ble_eq_true rfl) (fun z c' hz => ?_)
  obtain ⟨hz2, hz⟩ := hz
  have hz2 := hz2.symm
  subst hz2
  refine g_if_eq 19 dX8_means_6 (by decide) (fun b6 => ?_) (fun b6 => ?_)
  · skip
    refine g_ldc (z := -2000000002) dX8_means_19 cw8_96 ?_
    exact n_reti dX8_means_21 rfl (by unfold a_mns s_mns; rw [if_neg (show ¬ ((0 ≤ s ∧ s ≤ 1) ∧ 1 ≤ k ∧ k ≤ 6) by omega), if_neg (show ¬ ((0 ≤ s ∧ s ≤ 1) ∧ 1 ≤ k ∧ k ≤ 6) by omega)]; exact ⟨rfl, hS0, FrT.rf c⟩)
  · skip
    refine g_iload_n (i := 2) dX8_means_9 rfl rfl ?_
    refine g_iconst dX8_means_10 ?_
    refine g_bipush dX8_means_11 (by decide) ?_
    refine n_callSi (k_X8_within _ _ _ _ (by omega) (by omega) (by omega)) dX8_means_13 lk8_85 sm_X8_within rfl rfl rfl (Nat.le_of_ble_eq_true rfl) (fun z c' hz => ?_)
    obtain ⟨hz2, hz⟩ := hz
    have hz2 := hz2.symm
    subst hz2
    refine g_if_ne 22 dX8_means_16 (by decide) (fun b16 => ?_) (fun b16 => ?_)
    · skip
      refine g_aload_n (i := 0) dX8_means_22 rfl rfl ?_
      refine g_getI (ji := 0) dX8_means_23 fl8_82 (by first | rfl | assumption) (by first | decide | (show _ < 62; omega)) (by first | rfl | assumption) (by decide) rfl (by first | assumption | rfl) ?_
      refine g_iload_n (i := 2) dX8_means_26 rfl rfl ?_
      refine g_icmp_ge 33 dX8_means_27 (by decide) (fun b27 => ?_) (fun b27 => ?_)
      · skip
        have hok : (0 ≤ s ∧ s ≤ 1) ∧ 1 ≤ k ∧ k ≤ 6 := by omega
        have hMb := MR_Mb (wd := wd) (N := N) (n := n) (k := k) (p0_Mb (k := k) hD (by omega) t6) t3 t6
        refine g_aload_n (i := 0) dX8_means_33 rfl rfl ?_
        refine g_iload_n (i := 2) dX8_means_34 rfl rfl ?_
        refine n_callVv (k_X8_chooseFirst _ n wd N hM0 k (by omega) (by omega)) dX8_means_35 lk8_134 im_X8_chooseFirst (by first | rfl | assumption) (by first | decide | (show _ < 62; omega)) rfl rfl rfl rfl (Nat.le_of_ble_eq_true rfl) (fun c0 hz => ?_)
        obtain ⟨v1, v2⟩ := hz
        refine g_iconst dX8_means_38 ?_
        refine g_istore_n3 dX8_means_39 rfl ?_
        have L40 : ∀ (fu40 : Nat) (r : Int) (c1 : qC), (n - r).toNat < fu40 → (0 ≤ r) → (r ≤ n) → (∀ u, u ≠ 43 → u ≠ 51 → u ≠ 52 → u ≠ 53 → u ≠ 54 → c1 u = c u) → (MT c1 k wd (p0 wd N n)) → (∀ x, 0 ≤ x → x < r → c1 43 (30 * s + x) = -1) → (∀ t r, 0 ≤ t → t ≤ 1 → ¬ t = s → 0 ≤ r → r < n → c1 43 (30 * t + r) = c 43 (30 * t + r)) → qG (qYn X8_means 3 (pI (fun z c' => z = a_mns n wd N s k ∧ TS c' n wd N (s_mns n wd N S s k) mm md T ∧ FrT c c'))) wN 40 [some (qP 39), some (qI s), some (qI k), some (qI r), none, none, none] [] c1 := by
          intro fu40
          induction fu40 with
          | zero => intro r c1 hm; exact absurd hm (Nat.not_lt_zero _)
          | succ fu40 ih40 =>
            intro r c1 hm40 r0 r1 ff hm h1 ho
            have e1 : c1 39 0 = n := by rw [ff 39 (by decide) (by decide) (by decide) (by decide) (by decide)]; exact t1
            have hM1 : Md c1 n wd N := hM0.fr (by rw [ff 39 (by decide) (by decide) (by decide) (by decide) (by decide)]) (by rw [ff 39 (by decide) (by decide) (by decide) (by decide) (by decide)]) (ff 40 (by decide) (by decide) (by decide) (by decide) (by decide))
            refine g_iload_n (i := 3) dX8_means_40 rfl rfl ?_
            refine g_aload_n (i := 0) dX8_means_41 rfl rfl ?_
            refine g_getI (ji := 0) dX8_means_42 fl8_82 (by first | rfl | assumption) (by first | decide | (show _ < 62; omega)) (by first | rfl | assumption) (by decide) rfl (by first | assumption | rfl) ?_
            refine g_icmp_ge 66 dX8_means_45 (by decide) (fun b45 => ?_) (fun b45 => ?_)
            · skip
              refine g_iconst dX8_means_66 ?_
              refine g_istore_n3 dX8_means_67 rfl ?_
              refine g_iconst dX8_means_68 ?_
              refine g_istore4 dX8_means_69 rfl ?_
              have L71 : ∀ (fu71 : Nat) (j mo : Int) (c1 : qC), (60 - j).toNat < fu71 → (0 ≤ j) → (j ≤ 60) → (∀ u, u ≠ 43 → u ≠ 51 → u ≠ 52 → u ≠ 53 → u ≠ 54 → c1 u = c u) → (MT c1 k wd (MR wd N n k (p0 wd N n) (j).toNat).2) → (∀ x, 0 ≤ x → x < n → c1 43 (30 * s + x) = (FR wd N n k) j.toNat x) → (∀ t r, 0 ≤ t → t ≤ 1 → ¬ t = s → 0 ≤ r → r < n → c1 43 (30 * t + r) = c 43 (30 * t + r)) → (∀ i, 1 ≤ i → i < j → Mv ((FR wd N n k) (i - 1).toNat) ((FR wd N n k) i.toNat) n) → ((mo = 1 ∧ (1 ≤ j → Mv ((FR wd N n k) (j - 1).toNat) ((FR wd N n k) j.toNat) n)) ∨ (mo = 0 ∧ 1 ≤ j ∧ ¬ Mv ((FR wd N n k) (j - 1).toNat) ((FR wd N n k) j.toNat) n)) → qG (qYn X8_means 3 (pI (fun z c' => z = a_mns n wd N s k ∧ TS c' n wd N (s_mns n wd N S s k) mm md T ∧ FrT c c'))) wN 71 [some (qP 39), some (qI s), some (qI k), some (qI j), some (qI mo), none, none] [] c1 := by
                intro fu71
                induction fu71 with
                | zero => intro j mo c1 hm; exact absurd hm (Nat.not_lt_zero _)
                | succ fu71 ih71 =>
                  intro j mo c1 hm71 j0 j1 ff hm h1 ho hmv hmo
                  have e1 : c1 39 0 = n := by rw [ff 39 (by decide) (by decide) (by decide) (by decide) (by decide)]; exact t1
                  have hM1 : Md c1 n wd N := hM0.fr (by rw [ff 39 (by decide) (by decide) (by decide) (by decide) (by decide)]) (by rw [ff 39 (by decide) (by decide) (by decide) (by decide) (by decide)]) (ff 40 (by decide) (by decide) (by decide) (by decide) (by decide))
                  have hpj := hMb j.toNat
                  have hms := MR_s (wd := wd) (N := N) (n := n) (k := k) (p := p0 wd N n) (j := j) j0
                  have hFR : (FR wd N n k) (j + 1).toNat = lb wd N n k (MR wd N n k (p0 wd N n) (j).toNat).2 := by unfold FR; rw [hms]
                  have hlb := l0_bd (A := sA wd N (MR wd N n k (p0 wd N n) (j).toNat).2) (m := (MR wd N n k (p0 wd N n) (j).toNat).2.1) hok.2.1
                  refine g_iload dX8_means_71 rfl ?_
                  refine g_if_eq 268 dX8_means_73 (by decide) (fun b73 => ?_) (fun b73 => ?_)
                  · skip
                    refine g_aload_n (i := 0) dX8_means_268 rfl rfl ?_
                    refine g_getP dX8_means_269 fl8_21 (by first | rfl | assumption) (by first | decide | (show _ < 62; omega)) (by first | rfl | assumption) ?_
                    refine g_iload_n (i := 1) dX8_means_272 rfl rfl ?_
                    refine g_iload_n (i := 2) dX8_means_273 rfl rfl ?_
                    refine g_iastore dX8_means_274 (by first | rfl | assumption) (by first | decide | (show _ < 62; omega)) ?_
                    refine g_aload_n (i := 0) dX8_means_275 rfl rfl ?_
                    refine g_getP dX8_means_276 fl8_17 (by first | rfl | assumption) (by first | decide | (show _ < 62; omega)) (by first | rfl | assumption) ?_
                    refine g_iload_n (i := 1) dX8_means_279 rfl rfl ?_
                    refine g_iconst dX8_means_280 ?_
                    refine g_bastore dX8_means_281 (by first | rfl | assumption) (by first | decide | (show _ < 62; omega)) (by first | exact Or.inl rfl | exact Or.inr rfl | omega) ?_
                    refine g_iload_n (i := 3) dX8_means_282 rfl rfl ?_
                    exact n_reti dX8_means_283 rfl (by
                            have hj1 : 1 ≤ j := by omega
                            have hR : IsR (FR wd N n k) n j := ⟨by omega, hmv, hmo.elim (fun q => Or.inl (by omega)) (fun q => Or.inr q.2.2)⟩
                            unfold a_mns s_mns; rw [if_pos hok, if_pos hok, if_neg (show ¬ n < k by omega), if_neg (show ¬ n < k by omega)]
                            rw [rd_eq hR]
                            refine ⟨rfl, hS0.sup (by omega) (by omega) ?_ ?_ ?_ ?_ ?_, ?_⟩
                            · show (fun b => if b = s then 1 else c1 41 b) = fun b => if b = s then 1 else c 41 b
                              rw [ff 41 (by decide) (by decide) (by decide) (by decide) (by decide)]
                            · show (fun b => if b = s then k else c1 42 b) = fun b => if b = s then k else c 42 b
                              rw [ff 42 (by decide) (by decide) (by decide) (by decide) (by decide)]
                            · intro r q0 q1
                              have := FR_bd (wd := wd) (N := N) (n := n) (k := k) hok.2.1 j.toNat (by omega) r
                              exact ⟨h1 r q0 q1, by omega, by omega⟩
                            · exact ho
                            · intro q q0 q1 q2 q3 q4
                              rw [qu_ne q2, qu_ne q3]; exact ff q q4 (by omega) (by omega) (by omega) (by omega)
                            · intro q hq
                              rw [qu_ne (by omega), qu_ne (by omega)]
                              exact ff q (by omega) (by omega) (by omega) (by omega) (by omega))
                  · skip
                    refine g_iload_n (i := 3) dX8_means_76 rfl rfl ?_
                    refine g_bipush dX8_means_77 (by decide) ?_
                    refine g_icmp_ge 268 dX8_means_79 (by decide) (fun b79 => ?_) (fun b79 => ?_)
                    · skip
                      refine g_aload_n (i := 0) dX8_means_268 rfl rfl ?_
                      refine g_getP dX8_means_269 fl8_21 (by first | rfl | assumption) (by first | decide | (show _ < 62; omega)) (by first | rfl | assumption) ?_
                      refine g_iload_n (i := 1) dX8_means_272 rfl rfl ?_
                      refine g_iload_n (i := 2) dX8_means_273 rfl rfl ?_
                      refine g_iastore dX8_means_274 (by first | rfl | assumption) (by first | decide | (show _ < 62; omega)) ?_
                      refine g_aload_n (i := 0) dX8_means_275 rfl rfl ?_
                      refine g_getP dX8_means_276 fl8_17 (by first | rfl | assumption) (by first | decide | (show _ < 62; omega)) (by first | rfl | assumption) ?_
                      refine g_iload_n (i := 1) dX8_means_279 rfl rfl ?_
                      refine g_iconst dX8_means_280 ?_
                      refine g_bastore dX8_means_281 (by first | rfl | assumption) (by first | decide | (show _ < 62; omega)) (by first | exact Or.inl rfl | exact Or.inr rfl | omega) ?_
                      refine g_iload_n (i := 3) dX8_means_282 rfl rfl ?_
                      exact n_reti dX8_means_283 rfl (by
                              have hj1 : 1 ≤ j := by omega
                              have hR : IsR (FR wd N n k) n j := ⟨by omega, hmv, hmo.elim (fun q => Or.inl (by omega)) (fun q => Or.inr q.2.2)⟩
                              unfold a_mns s_mns; rw [if_pos hok, if_pos hok, if_neg (show ¬ n < k by omega), if_neg (show ¬ n < k by omega)]
                              rw [rd_eq hR]
                              refine ⟨rfl, hS0.sup (by omega) (by omega) ?_ ?_ ?_ ?_ ?_, ?_⟩
                              · show (fun b => if b = s then 1 else c1 41 b) = fun b => if b = s then 1 else c 41 b
                                rw [ff 41 (by decide) (by decide) (by decide) (by decide) (by decide)]
                              · show (fun b => if b = s then k else c1 42 b) = fun b => if b = s then k else c 42 b
                                rw [ff 42 (by decide) (by decide) (by decide) (by decide) (by decide)]
                              · intro r q0 q1
                                have := FR_bd (wd := wd) (N := N) (n := n) (k := k) hok.2.1 j.toNat (by omega) r
                                exact ⟨h1 r q0 q1, by omega, by omega⟩
                              · exact ho
                              · intro q q0 q1 q2 q3 q4
                                rw [qu_ne q2, qu_ne q3]; exact ff q q4 (by omega) (by omega) (by omega) (by omega)
                              · intro q hq
                                rw [qu_ne (by omega), qu_ne (by omega)]
                                exact ff q (by omega) (by omega) (by omega) (by omega) (by omega))
                    · skip
                      refine g_iinc3 dX8_means_82 rfl ?_
                      refine g_iconst dX8_means_85 ?_
                      refine g_istore5 dX8_means_86 rfl ?_
                      have L88 : ∀ (fu88 : Nat) (i : Int) (c2 : qC), (n - i).toNat < fu88 → (0 ≤ i) → (i ≤ n) → (∀ u, u ≠ 53 → c2 u = c1 u) → (∀ x, 0 ≤ x → x < i → c2 53 x = (l0 (sA wd N (MR wd N n k (p0 wd N n) (j).toNat).2) (MR wd N n k (p0 wd N n) (j).toNat).2.1 k) x) → qG (qYn X8_means 3 (pI (fun z c' => z = a_mns n wd N s k ∧ TS c' n wd N (s_mns n wd N S s k) mm md T ∧ FrT c c'))) wN 88 [some (qP 39), some (qI s), some (qI k), some (qI (j + 1)), none, some (qI i), none] [] c2 := by
                        intro fu88
                        induction fu88 with
                        | zero => intro i c2 hm; exact absurd hm (Nat.not_lt_zero _)
                        | succ fu88 ih88 =>
                          intro i c2 hm88 i0 i1 ff2 h2
                          have e2 : c2 39 0 = n := by rw [ff2 39 (by decide)]; exact e1
                          refine g_iload dX8_means_88 rfl ?_
                          refine g_aload_n (i := 0) dX8_means_90 rfl rfl ?_
                          refine g_getI (ji := 0) dX8_means_91 fl8_82 (by first | rfl | assumption) (by first | decide | (show _ < 62; omega)) (by first | rfl | assumption) (by decide) rfl (by first | assumption | rfl) ?_
                          refine g_icmp_ge 165 dX8_means_94 (by decide) (fun b94 => ?_) (fun b94 => ?_)
                          · skip
                            refine g_iconst dX8_means_165 ?_
                            refine g_istore5 dX8_means_166 rfl ?_
                            have L168 : ∀ (fu168 : Nat) (g : Int) (c2 : qC), (k - g).toNat < fu168 → (0 ≤ g) → (g ≤ k) → (∀ u, u ≠ 53 → c2 u = c1 u) → (∀ x, 0 ≤ x → x < n → c2 53 x = (fls (sA wd N (MR wd N n k (p0 wd N n) (j).toNat).2) (MR wd N n k (p0 wd N n) (j).toNat).2.1 n (l0 (sA wd N (MR wd N n k (p0 wd N n) (j).toNat).2) (MR wd N n k (p0 wd N n) (j).toNat).2.1 k) (g).toNat) x) → qG (qYn X8_means 3 (pI (fun z c' => z = a_mns n wd N s k ∧ TS c' n wd N (s_mns n wd N S s k) mm md T ∧ FrT c c'))) wN 168 [some (qP 39), some (qI s), some (qI k), some (qI (j + 1)), none, some (qI g), none] [] c2 := by
                              intro fu168
                              induction fu168 with
                              | zero => intro g c2 hm; exact absurd hm (Nat.not_lt_zero _)
                              | succ fu168 ih168 =>
                                intro g c2 hm168 g0 g1 ff2 h2
                                have hM2 : Md c2 n wd N := hM1.fr (by rw [ff2 39 (by decide)]) (by rw [ff2 39 (by decide)]) (ff2 40 (by decide))
                                have hm2 : MT c2 k wd (MR wd N n k (p0 wd N n) (j).toNat).2 := hm.fr (ff2 51 (by decide)) (ff2 52 (by decide))
                                have hfl := fls_bd (A := sA wd N (MR wd N n k (p0 wd N n) (j).toNat).2) (m := (MR wd N n k (p0 wd N n) (j).toNat).2.1) (n := n) hlb g.toNat (by omega)
                                refine g_iload dX8_means_168 rfl ?_
                                refine g_iload_n (i := 2) dX8_means_170 rfl rfl ?_
                                refine g_icmp_ge 186 dX8_means_171 (by decide) (fun b171 => ?_) (fun b171 => ?_)
                                · skip
                                  refine g_iconst dX8_means_186 ?_
                                  refine g_istore4 dX8_means_187 rfl ?_
                                  refine g_iconst dX8_means_189 ?_
                                  refine g_istore5 dX8_means_190 rfl ?_
                                  have L192 : ∀ (fu192 : Nat) (mo i : Int) (c2 : qC), (n - i).toNat < fu192 → (0 ≤ i) → (i ≤ n) → (∀ u, u ≠ 43 → u ≠ 51 → u ≠ 52 → u ≠ 53 → u ≠ 54 → c2 u = c u) → (∀ x, 0 ≤ x → x < n → c2 53 x = (FR wd N n k) (j + 1).toNat x) → (∀ x, 0 ≤ x → x < i → c2 43 (30 * s + x) = (FR wd N n k) (j + 1).toNat x) → (∀ x, i ≤ x → x < n → c2 43 (30 * s + x) = (FR wd N n k) j.toNat x) → (∀ t r, 0 ≤ t → t ≤ 1 → ¬ t = s → 0 ≤ r → r < n → c2 43 (30 * t + r) = c 43 (30 * t + r)) → ((mo = 1 ∧ Mv ((FR wd N n k) j.toNat) ((FR wd N n k) (j + 1).toNat) n) ∨ (mo = 0 ∧ ∀ x, 0 ≤ x → x < i → (FR wd N n k) (j + 1).toNat x = (FR wd N n k) j.toNat x)) → qG (qYn X8_means 3 (pI (fun z c' => z = a_mns n wd N s k ∧ TS c' n wd N (s_mns n wd N S s k) mm md T ∧ FrT c c'))) wN 192 [some (qP 39), some (qI s), some (qI k), some (qI (j + 1)), some (qI mo), some (qI i), none] [] c2 := by
                                    intro fu192
                                    induction fu192 with
                                    | zero => intro mo i c2 hm; exact absurd hm (Nat.not_lt_zero _)
                                    | succ fu192 ih192 =>
                                      intro mo i c2 hm192 i0 i1 ff2 h5 h2 h6 ho2 hmo9
                                      have e2 : c2 39 0 = n := by rw [ff2 39 (by decide) (by decide) (by decide) (by decide) (by decide)]; exact t1
                                      have hM2 : Md c2 n wd N := hM0.fr (by rw [ff2 39 (by decide) (by decide) (by decide) (by decide) (by decide)]) (by rw [ff2 39 (by decide) (by decide) (by decide) (by decide) (by decide)]) (ff2 40 (by decide) (by decide) (by decide) (by decide) (by decide))
                                      refine g_iload dX8_means_192 rfl ?_
                                      refine g_aload_n (i := 0) dX8_means_194 rfl rfl ?_
                                      refine g_getI (ji := 0) dX8_means_195 fl8_82 (by first | rfl | assumption) (by first | decide | (show _ < 62; omega)) (by first | rfl | assumption) (by decide) rfl (by first | assumption | rfl) ?_
                                      refine g_icmp_ge 260 dX8_means_198 (by decide) (fun b198 => ?_) (fun b198 => ?_)
                                      · skip
                                        refine g_aload_n (i := 0) dX8_means_260 rfl rfl ?_
                                        refine g_iload_n (i := 2) dX8_means_261 rfl rfl ?_
                                        refine n_callVv (k_X8_takeMeans _ n wd N hM2 k (lb wd N n k (MR wd N n k (p0 wd N n) (j).toNat).2) (by omega) (fun r q0 q1 => ⟨by rw [h5 r q0 q1, hFR], lb_bd hok.2.1 r⟩)) dX8_means_262 lk8_140 im_X8_takeMeans (by first | rfl | assumption) (by first | decide | (show _ < 62; omega)) rfl rfl rfl rfl (Nat.le_of_ble_eq_true rfl) (fun c3 hz => ?_)
                                        obtain ⟨w1, w2⟩ := hz
                                        refine g_goto 71 dX8_means_265 (by decide) ?_
                                        refine g_fg5 ?_
                                        exact ih71 _ _ _ (by omega) (by first | assumption | omega) (by first | assumption | omega) (fun u u1 u2 u3 u4 u5 => by rw [w1 u u2 u3]; exact ff2 u u1 u2 u3 u4 u5) (by rw [hms]; exact w2) (fun x q0 q1 => by rw [w1 43 (by decide) (by decide)]; exact h2 x q0 (by omega)) (fun t r a0 a1 a2 a3 a4 => by rw [w1 43 (by decide) (by decide)]; exact ho2 t r a0 a1 a2 a3 a4) (fun i i0 i1 => by
                                                by_cases e : i = j
                                                · rw [e]; exact hmo.elim (fun q => q.2 (by omega)) (fun q => by omega)
                                                · exact hmv i i0 (by omega)) (by rw [show j + 1 - 1 = j by omega]; exact hmo9.elim (fun q => Or.inl ⟨q.1, fun _ => q.2⟩) (fun q => Or.inr ⟨q.1, by omega, fun ⟨x, x0, x1, x2⟩ => x2 (q.2 x x0 (by omega))⟩))
                                      · skip
                                        have h5i := h5 i i0 (by omega)
                                        have h6i := h6 i (by omega) (by omega)
                                        have hbi := FR_bd (wd := wd) (N := N) (n := n) (k := k) hok.2.1 (j + 1).toNat (by omega) i
                                        have hbi2 : -1 ≤ (FR wd N n k) j.toNat i ∧ (FR wd N n k) j.toNat i < 30 := by
                                          by_cases e : j = 0
                                          · rw [e]; show (-1 : Int) ≤ -1 ∧ (-1 : Int) < 30; omega
                                          · have := FR_bd (wd := wd) (N := N) (n := n) (k := k) hok.2.1 j.toNat (by omega) i
                                            omega
                                        have hmo := hmo9
                                        have J233 : ∀ (mo : Int), ((mo = 1 ∧ Mv ((FR wd N n k) j.toNat) ((FR wd N n k) (j + 1).toNat) n) ∨ (mo = 0 ∧ ∀ x, 0 ≤ x → x < i + 1 → (FR wd N n k) (j + 1).toNat x = (FR wd N n k) j.toNat x)) → qG (qYn X8_means 3 (pI (fun z c' => z = a_mns n wd N s k ∧ TS c' n wd N (s_mns n wd N S s k) mm md T ∧ FrT c c'))) wN 233 [some (qP 39), some (qI s), some (qI k), some (qI (j + 1)), none, some (qI i), none] [qI mo] c2 := by
                                          intro mo hmo2
                                          refine g_istore4 dX8_means_233 rfl ?_
                                          refine g_aload_n (i := 0) dX8_means_235 rfl rfl ?_
                                          refine g_getP dX8_means_236 fl8_24 (by first | rfl | assumption) (by first | decide | (show _ < 62; omega)) (by first | rfl | assumption) ?_
                                          refine g_bipush dX8_means_239 (by decide) ?_
                                          refine g_iload_n (i := 1) dX8_means_241 rfl rfl ?_
                                          refine g_imul dX8_means_242 ?_
                                          refine g_iload dX8_means_243 rfl ?_
                                          refine g_iadd dX8_means_245 ?_
                                          refine g_aload_n (i := 0) dX8_means_246 rfl rfl ?_
                                          refine g_getP dX8_means_247 fl8_55 (by first | rfl | assumption) (by first | decide | (show _ < 62; omega)) (by first | rfl | assumption) ?_
                                          refine g_iload dX8_means_250 rfl ?_
                                          refine g_iaload dX8_means_252 (by first | rfl | assumption) (by first | decide | (show _ < 62; omega)) ?_
                                          refine g_iastore dX8_means_253 (by first | rfl | assumption) (by first | decide | (show _ < 62; omega)) ?_
                                          refine g_iinc5 dX8_means_254 rfl ?_
                                          refine g_goto 192 dX8_means_257 (by decide) ?_
                                          exact ih192 _ _ _ (by omega) (by first | assumption | omega) (by first | assumption | omega) (fun u u1 u2 u3 u4 u5 => by rw [qu_ne u1]; exact ff2 u u1 u2 u3 u4 u5) h5 (fun x q0 q1 => by
                                                  rw [qu_at]; split
                                                  · rw [show x = i by omega]; exact h5 i i0 (by omega)
                                                  · exact h2 x q0 (by omega)) (fun x q0 q1 => by rw [qu_off (by omega)]; exact h6 x (by omega) q1) (fun t r a0 a1 a2 a3 a4 => by rw [qu_off (by omega)]; exact ho2 t r a0 a1 a2 a3 a4) hmo2
                                        refine g_iload dX8_means_201 rfl ?_
                                        refine g_if_ne 228 dX8_means_203 (by decide) (fun b203 => ?_) (fun b203 => ?_)
                                        · skip
                                          refine g_iconst dX8_means_228 ?_
                                          refine g_goto 233 dX8_means_229 (by decide) ?_
                                          refine g_fg4 ?_
                                          exact J233 _ (by
                                                      first
                                                        | exact Or.inl ⟨rfl, i, i0, by omega, by omega⟩
                                                        | exact Or.inl ⟨rfl, hmo.elim (fun q => q.2) (fun q => by omega)⟩
                                                        | exact Or.inr ⟨rfl, fun x x0 x1 => by
                                                            by_cases e : x = i
                                                            · rw [e]; omega
                                                            · exact hmo.elim (fun q => by omega) (fun q => q.2 x x0 (by omega))⟩)
                                        · skip
                                          refine g_aload_n (i := 0) dX8_means_206 rfl rfl ?_
                                          refine g_getP dX8_means_207 fl8_24 (by first | rfl | assumption) (by first | decide | (show _ < 62; omega)) (by first | rfl | assumption) ?_
                                          refine g_bipush dX8_means_210 (by decide) ?_
                                          refine g_iload_n (i := 1) dX8_means_212 rfl rfl ?_
                                          refine g_imul dX8_means_213 ?_
                                          refine g_iload dX8_means_214 rfl ?_
                                          refine g_iadd dX8_means_216 ?_
                                          refine g_iaload dX8_means_217 rfl (by decide) ?_
                                          rw [h6i]
                                          skip -- ?_
                                          refine g_aload_n (i := 0) dX8_means_218 rfl rfl ?_
                                          refine g_getP dX8_means_219 fl8_55 (by first | rfl | assumption) (by first | decide | (show _ < 62; omega)) (by first | rfl | assumption) ?_
                                          refine g_iload dX8_means_222 rfl ?_
                                          refine g_iaload dX8_means_224 rfl (by decide) ?_
                                          rw [h5i]
                                          skip -- ?_
                                          refine g_icmp_eq 232 dX8_means_225 (by decide) (fun b225 => ?_) (fun b225 => ?_)
                                          · skip
                                            refine g_iconst dX8_means_232 ?_
                                            refine g_fg4 ?_
                                            exact J233 _ (by
                                                        first
                                                          | exact Or.inl ⟨rfl, i, i0, by omega, by omega⟩
                                                          | exact Or.inl ⟨rfl, hmo.elim (fun q => q.2) (fun q => by omega)⟩
                                                          | exact Or.inr ⟨rfl, fun x x0 x1 => by
                                                              by_cases e : x = i
                                                              · rw [e]; omega
                                                              · exact hmo.elim (fun q => by omega) (fun q => q.2 x x0 (by omega))⟩)
                                          · skip
                                            refine g_iconst dX8_means_228 ?_
                                            refine g_goto 233 dX8_means_229 (by decide) ?_
                                            refine g_fg4 ?_
                                            exact J233 _ (by
                                                        first
                                                          | exact Or.inl ⟨rfl, i, i0, by omega, by omega⟩
                                                          | exact Or.inl ⟨rfl, hmo.elim (fun q => q.2) (fun q => by omega)⟩
                                                          | exact Or.inr ⟨rfl, fun x x0 x1 => by
                                                              by_cases e : x = i
                                                              · rw [e]; omega
                                                              · exact hmo.elim (fun q => by omega) (fun q => q.2 x x0 (by omega))⟩)
                                  exact L192 _ _ _ _ (Nat.lt_succ_self _) (by first | assumption | omega) (by first | assumption | omega) (fun u u1 u2 u3 u4 u5 => by rw [ff2 u u4]; exact ff u u1 u2 u3 u4 u5) (fun x q0 q1 => by rw [hFR, h2 x q0 q1, show g = k by omega]; rfl) (fun x q0 q1 => by omega) (fun x q0 q1 => by rw [ff2 43 (by decide)]; exact h1 x (by omega) q1) (fun t r a0 a1 a2 a3 a4 => by rw [ff2 43 (by decide)]; exact ho t r a0 a1 a2 a3 a4) (Or.inr ⟨rfl, fun x q0 q1 => by omega⟩)
                                · skip
                                  refine g_aload_n (i := 0) dX8_means_174 rfl rfl ?_
                                  refine g_iload dX8_means_175 rfl ?_
                                  refine n_callVv (k_X8_fill _ n wd N hM2 k (MR wd N n k (p0 wd N n) (j).toNat).2 (by omega) hpj hm2 (fls (sA wd N (MR wd N n k (p0 wd N n) (j).toNat).2) (MR wd N n k (p0 wd N n) (j).toNat).2.1 n (l0 (sA wd N (MR wd N n k (p0 wd N n) (j).toNat).2) (MR wd N n k (p0 wd N n) (j).toNat).2.1 k) (g).toNat) g (by omega) g0 (by omega) (fun r q0 q1 => ⟨h2 r q0 q1, hfl r⟩)) dX8_means_177 lk8_137 im_X8_fill (by first | rfl | assumption) (by first | decide | (show _ < 62; omega)) rfl rfl rfl rfl (Nat.le_of_ble_eq_true rfl) (fun c3 hz => ?_)
                                  skip
                                  refine g_iinc5 dX8_means_180 rfl ?_
                                  refine g_goto 168 dX8_means_183 (by decide) ?_
                                  exact ih168 _ _ (by omega) (by first | assumption | omega) (by first | assumption | omega) (fun u hu => by rw [hz.1 u hu]; exact ff2 u hu) (by rw [fls_s g0]; exact hz.2)
                            exact L168 _ _ _ (Nat.lt_succ_self _) (by first | assumption | omega) (by first | assumption | omega) (by first | assumption | omega) (fun x q0 q1 => h2 x q0 (by omega))
                          · skip
                            refine g_aload_n (i := 0) dX8_means_97 rfl rfl ?_
                            refine g_getP dX8_means_98 fl8_55 (by first | rfl | assumption) (by first | decide | (show _ < 62; omega)) (by first | rfl | assumption) ?_
                            refine g_iload dX8_means_101 rfl ?_
                            refine g_iconst dX8_means_103 ?_
                            refine g_iastore dX8_means_104 (by first | rfl | assumption) (by first | decide | (show _ < 62; omega)) ?_
                            refine g_iconst dX8_means_105 ?_
                            refine g_istore6 dX8_means_106 rfl ?_
                            have L108 : ∀ (fu108 : Nat) (g : Int) (c3 : qC), (k - g).toNat < fu108 → (1 ≤ g) → (g ≤ k) → (∀ u, u ≠ 53 → c3 u = c1 u) → (∀ x, 0 ≤ x → x < i → c3 53 x = (l0 (sA wd N (MR wd N n k (p0 wd N n) (j).toNat).2) (MR wd N n k (p0 wd N n) (j).toNat).2.1 k) x) → (c3 53 i = nn (sA wd N (MR wd N n k (p0 wd N n) (j).toNat).2) (MR wd N n k (p0 wd N n) (j).toNat).2.1 i (g - 1).toNat) → qG (qYn X8_means 3 (pI (fun z c' => z = a_mns n wd N s k ∧ TS c' n wd N (s_mns n wd N S s k) mm md T ∧ FrT c c'))) wN 108 [some (qP 39), some (qI s), some (qI k), some (qI (j + 1)), none, some (qI i), some (qI g)] [] c3 := by
                              intro fu108
                              induction fu108 with
                              | zero => intro g c3 hm; exact absurd hm (Nat.not_lt_zero _)
                              | succ fu108 ih108 =>
                                intro g c3 hm108 g0 g1 ff3 h3 hnw
                                have hM3 : Md c3 n wd N := hM1.fr (by rw [ff3 39 (by decide)]) (by rw [ff3 39 (by decide)]) (ff3 40 (by decide))
                                have hm3 : MT c3 k wd (MR wd N n k (p0 wd N n) (j).toNat).2 := hm.fr (ff3 51 (by decide)) (ff3 52 (by decide))
                                have hnb := nn_bd (A := sA wd N (MR wd N n k (p0 wd N n) (j).toNat).2) (m := (MR wd N n k (p0 wd N n) (j).toNat).2.1) (r := i) (g - 1).toNat
                                rw [← hnw] at hnb
                                refine g_iload dX8_means_108 rfl ?_
                                refine g_iload_n (i := 2) dX8_means_110 rfl rfl ?_
                                refine g_icmp_ge 159 dX8_means_111 (by decide) (fun b111 => ?_) (fun b111 => ?_)
                                · skip
                                  refine g_iinc5 dX8_means_159 rfl ?_
                                  refine g_goto 88 dX8_means_162 (by decide) ?_
                                  refine g_fg6 ?_
                                  exact ih88 _ _ (by omega) (by first | assumption | omega) (by first | assumption | omega) ff3 (fun x q0 q1 => by
                                          by_cases e : x = i
                                          · rw [e, hnw, show g = k by omega]; rfl
                                          · exact h3 x q0 (by omega))
                                · skip
                                  refine g_aload_n (i := 0) dX8_means_114 rfl rfl ?_
                                  refine g_getP dX8_means_115 fl8_55 (by first | rfl | assumption) (by first | decide | (show _ < 62; omega)) (by first | rfl | assumption) ?_
                                  refine g_iload dX8_means_118 rfl ?_
                                  refine g_aload_n (i := 0) dX8_means_120 rfl rfl ?_
                                  refine g_iload dX8_means_121 rfl ?_
                                  refine g_iload dX8_means_123 rfl ?_
                                  refine g_iload dX8_means_125 rfl ?_
                                  refine g_aload_n (i := 0) dX8_means_127 rfl rfl ?_
                                  refine g_getP dX8_means_128 fl8_55 (by first | rfl | assumption) (by first | decide | (show _ < 62; omega)) (by first | rfl | assumption) ?_
                                  refine g_iload dX8_means_131 rfl ?_
                                  refine g_iaload dX8_means_133 (by first | rfl | assumption) (by first | decide | (show _ < 62; omega)) ?_
                                  refine n_callVi (k_X8_isNearer _ n wd N hM3 k (MR wd N n k (p0 wd N n) (j).toNat).2 (by omega) hpj hm3 _ _ _ _ (by omega) (by omega) (by omega) (by omega) (by omega) (by omega) (by omega) (by omega)) dX8_means_134 lk8_130 im_X8_isNearer (by first | rfl | assumption) (by first | decide | (show _ < 62; omega)) rfl rfl rfl rfl (Nat.le_of_ble_eq_true rfl) (fun z c' hz => ?_)
                                  obtain ⟨hz2, hz⟩ := hz
                                  have hz2 := hz2.symm
                                  subst hz2
                                  have J152 : ∀ (v : Int), (v = nn (sA wd N (MR wd N n k (p0 wd N n) (j).toNat).2) (MR wd N n k (p0 wd N n) (j).toNat).2.1 i (g + 1 - 1).toNat) → qG (qYn X8_means 3 (pI (fun z c' => z = a_mns n wd N s k ∧ TS c' n wd N (s_mns n wd N S s k) mm md T ∧ FrT c c'))) wN 152 [some (qP 39), some (qI s), some (qI k), some (qI (j + 1)), none, some (qI i), some (qI g)] [qI v, qI i, qP 53] c3 := by
                                    intro v hv
                                    refine g_iastore dX8_means_152 (by first | rfl | assumption) (by first | decide | (show _ < 62; omega)) ?_
                                    refine g_iinc6 dX8_means_153 rfl ?_
                                    refine g_goto 108 dX8_means_156 (by decide) ?_
                                    exact ih108 _ _ (by omega) (by first | assumption | omega) (by first | assumption | omega) (fun u hu => by rw [qu_ne hu]; exact ff3 u hu) (fun x q0 q1 => by rw [qu_off (by omega)]; exact h3 x q0 q1) (by rw [qu_eq]; exact hv)
                                  refine g_if_eq 145 dX8_means_137 (by decide) (fun b137 => ?_) (fun b137 => ?_)
                                  · skip
                                    refine g_aload_n (i := 0) dX8_means_145 rfl rfl ?_
                                    refine g_getP dX8_means_146 fl8_55 (by first | rfl | assumption) (by first | decide | (show _ < 62; omega)) (by first | rfl | assumption) ?_
                                    refine g_iload dX8_means_149 rfl ?_
                                    refine g_iaload dX8_means_151 (by first | rfl | assumption) (by first | decide | (show _ < 62; omega)) ?_
                                    exact J152 _ (by rw [nn_s g0, ← hnw]; first | (rw [if_pos (hz.elim (fun q => q.2) (fun q => by omega))]) | (rw [if_neg (hz.elim (fun q => by omega) (fun q => q.2))]))
                                  · skip
                                    refine g_iload dX8_means_140 rfl ?_
                                    refine g_goto 152 dX8_means_142 (by decide) ?_
                                    exact J152 _ (by rw [nn_s g0, ← hnw]; first | (rw [if_pos (hz.elim (fun q => q.2) (fun q => by omega))]) | (rw [if_neg (hz.elim (fun q => by omega) (fun q => q.2))]))
                            exact L108 _ _ _ (Nat.lt_succ_self _) (by first | assumption | omega) (by first | assumption | omega) (fun u hu => by rw [qu_ne hu]; exact ff2 u hu) (fun x q0 q1 => by rw [qu_off (by omega)]; exact h2 x q0 q1) (by rw [qu_eq]; rfl)
                      refine g_fg4 ?_
                      exact L88 _ _ _ (Nat.lt_succ_self _) (by first | assumption | omega) (by first | assumption | omega) (fun u _ => rfl) (fun x q0 q1 => by omega)
              exact L71 _ _ _ _ (Nat.lt_succ_self _) (by first | assumption | omega) (by first | assumption | omega) ff hm (fun x q0 q1 => by rw [h1 x q0 (by omega)]; rfl) (by first | assumption | omega) (fun i i0 i1 => by omega) (Or.inl ⟨rfl, fun h => by omega⟩)
            · skip
              refine g_aload_n (i := 0) dX8_means_48 rfl rfl ?_
              refine g_getP dX8_means_49 fl8_24 (by first | rfl | assumption) (by first | decide | (show _ < 62; omega)) (by first | rfl | assumption) ?_
              refine g_bipush dX8_means_52 (by decide) ?_
              refine g_iload_n (i := 1) dX8_means_54 rfl rfl ?_
              refine g_imul dX8_means_55 ?_
              refine g_iload_n (i := 3) dX8_means_56 rfl rfl ?_
              refine g_iadd dX8_means_57 ?_
              refine g_iconst dX8_means_58 ?_
              refine g_iastore dX8_means_59 (by first | rfl | assumption) (by first | decide | (show _ < 62; omega)) ?_
              refine g_iinc3 dX8_means_60 rfl ?_
              refine g_goto 40 dX8_means_63 (by decide) ?_
              exact ih40 _ _ (by omega) (by first | assumption | omega) (by first | assumption | omega) (fun u u1 u2 u3 u4 u5 => by rw [qu_ne u1]; exact ff u u1 u2 u3 u4 u5) (hm.fr rfl rfl) (fun x q0 q1 => by
                      rw [qu_at]; split
                      · rfl
                      · exact h1 x q0 (by omega)) (fun t r a0 a1 a2 a3 a4 => by rw [qu_off (by omega)]; exact ho t r a0 a1 a2 a3 a4)
        exact L40 _ _ _ (Nat.lt_succ_self _) (by first | assumption | omega) (by first | assumption | omega) (fun u _ u2 u3 _ u5 => v1 u u2 u3 u5) v2 (fun x q0 q1 => by omega) (fun t r _ _ _ _ _ => by rw [v1 43 (by decide) (by decide) (by decide)])
      · skip
        refine g_ldc (z := -2000000003) dX8_means_30 cw8_97 ?_
        exact n_reti dX8_means_32 rfl (by unfold a_mns s_mns; rw [if_pos (show (0 ≤ s ∧ s ≤ 1) ∧ 1 ≤ k ∧ k ≤ 6 by omega), if_pos (show (0 ≤ s ∧ s ≤ 1) ∧ 1 ≤ k ∧ k ≤ 6 by omega), if_pos (show n < k by omega), if_pos (show n < k by omega)]; exact ⟨rfl, hS0, FrT.rf c⟩)
    · skip
      refine g_ldc (z := -2000000002) dX8_means_19 cw8_96 ?_
      exact n_reti dX8_means_21 rfl (by unfold a_mns s_mns; rw [if_neg (show ¬ ((0 ≤ s ∧ s ≤ 1) ∧ 1 ≤ k ∧ k ≤ 6) by omega), if_neg (show ¬ ((0 ≤ s ∧ s ≤ 1) ∧ 1 ≤ k ∧ k ≤ 6) by omega)]; exact ⟨rfl, hS0, FrT.rf c⟩)
