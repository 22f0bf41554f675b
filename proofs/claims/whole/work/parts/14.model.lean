theorem cn_s {g : Int → Int} {r k : Int} (h : 0 ≤ r) : cn g (r + 1) k = cn g r k + if g r = k then 1 else 0 := sI_s h
theorem sg_s {g : Int → Int} {r k : Int} {v : Int → Int} (h : 0 ≤ r) : sg g (r + 1) k v = sg g r k v + if g r = k then v r else 0 := sI_s h
/-- the reference holds n ROWS of wd COLUMNS with the numbers N -/
def Md (c : qC) (n wd : Int) (N : Int → Int → Int) : Prop := c 39 0 = n ∧ c 39 1 = wd ∧ (0 ≤ n ∧ n ≤ 30) ∧ (1 ≤ wd ∧ wd ≤ 4) ∧ (∀ i x, 0 ≤ i → i < n → 0 ≤ x → x < wd → c 40 (4 * i + x) = N i x) ∧ (∀ i, 0 ≤ i → i < n → Nb wd N i)
theorem Md.fr {c c' : qC} {n wd : Int} {N : Int → Int → Int} (h : Md c n wd N) (h0 : c' 39 0 = c 39 0) (h1 : c' 39 1 = c 39 1) (h2 : c' 40 = c 40) : Md c' n wd N := by
  unfold Md at h ⊢
  rw [h0, h1, h2]
  exact h
theorem Md.bd {c : qC} {n wd : Int} {N : Int → Int → Int} (h : Md c n wd N) {kd i j : Int} (i0 : 0 ≤ i) (i1 : i < n) (j0 : 0 ≤ j) (j1 : j < n) : 0 ≤ ds wd N kd i j ∧ ds wd N kd i j ≤ 16000000 := ds_bd (by have := h.2.2.2.1; omega) (by have := h.2.2.2.1; omega) (h.2.2.2.2.2 i i0 i1) (h.2.2.2.2.2 j j0 j1)
/-- distances over the first columns -/
theorem ds_s {wd : Int} {N : Int → Int → Int} {kd i j : Int} (h : 0 ≤ wd) : ds (wd + 1) N kd i j = if kd = 0 then ds wd N kd i j + ab (N i wd - N j wd) * ab (N i wd - N j wd) else if kd = 1 then ds wd N kd i j + ab (N i wd - N j wd) else mx (ds wd N kd i j) (ab (N i wd - N j wd)) := by
  unfold ds
  split
  · exact sI_s h
  · split
    · exact sI_s h
    · exact gI_s h
theorem ds_z {N : Int → Int → Int} {kd i j : Int} : ds 0 N kd i j = 0 := by
  unfold ds
  split
  · rfl
  · split <;> rfl
set_option maxHeartbeats 4000000 in
set_option maxRecDepth 100000 in
theorem k_X8_within (c : qC) (v a b : Int) (h0 : iR v) (h1 : iR a) (h2 : iR b) : qN X8_within 0 [qI v, qI a, qI b] c (pI (fun z c' => c' = c ∧ ((z = 1 ∧ a ≤ v ∧ v ≤ b) ∨ (z = 0 ∧ ¬ (a ≤ v ∧ v ≤ b))))) := by
  refine qN.of [some (qI v), some (qI a), some (qI b)] (by decide) rfl (fun _ => rfl) (fun _ => Nat.le_of_ble_eq_true rfl) ?_
  refine g_iload_n (i := 0) dX8_within_0 rfl rfl ?_
  refine g_iload_n (i := 1) dX8_within_1 rfl rfl ?_
  refine g_icmp_lt 14 dX8_within_2 (by decide) (fun b2 => ?_) (fun b2 => ?_)
  · skip
    refine g_iconst dX8_within_14 ?_
    exact n_retz dX8_within_15 rfl (by first | exact Or.inl rfl | exact Or.inr rfl | assumption | omega) (⟨rfl, by omega⟩)
  · skip
    refine g_iload_n (i := 0) dX8_within_5 rfl rfl ?_
    refine g_iload_n (i := 2) dX8_within_6 rfl rfl ?_
    refine g_icmp_gt 14 dX8_within_7 (by decide) (fun b7 => ?_) (fun b7 => ?_)
    · skip
      refine g_iconst dX8_within_14 ?_
      exact n_retz dX8_within_15 rfl (by first | exact Or.inl rfl | exact Or.inr rfl | assumption | omega) (⟨rfl, by omega⟩)
    · skip
      refine g_iconst dX8_within_10 ?_
      refine g_goto 15 dX8_within_11 (by decide) ?_
      exact n_retz dX8_within_15 rfl (by first | exact Or.inl rfl | exact Or.inr rfl | assumption | omega) (⟨rfl, by omega⟩)
set_option maxHeartbeats 4000000 in
set_option maxRecDepth 100000 in
theorem k_X8_isRow (c : qC) (n i : Int) (hn : c 39 0 = n) (n0 : 0 ≤ n ∧ n ≤ 30) (i0 : iR i) : qN X8_isRow 1 [qP 39, qI i] c (pI (fun z c' => c' = c ∧ ((z = 1 ∧ 0 ≤ i ∧ i < n) ∨ (z = 0 ∧ ¬ (0 ≤ i ∧ i < n))))) := by
  refine qN.of [some (qP 39), some (qI i)] (by decide) rfl (fun _ => rfl) (fun _ => Nat.le_of_ble_eq_true rfl) ?_
  refine g_iload_n (i := 1) dX8_isRow_0 rfl rfl ?_
  refine g_iconst dX8_isRow_1 ?_
  refine g_aload_n (i := 0) dX8_isRow_2 rfl rfl ?_
  refine g_getI (ji := 0) dX8_isRow_3 fl8_82 (by first | rfl | assumption) (by first | decide | (show _ < 62; omega)) (by first | rfl | assumption) (by decide) rfl (by first | assumption | rfl) ?_
  refine g_iconst dX8_isRow_6 ?_
  refine g_isub dX8_isRow_7 ?_
  refine n_callSi (k_X8_within _ _ _ _ (by omega) (by omega) (by omega)) dX8_isRow_8 lk8_85 sm_X8_within rfl rfl rfl (Nat.le_of_ble_eq_true rfl) (fun z c' hz => ?_)
  obtain ⟨hz2, hz⟩ := hz
  have hz2 := hz2.symm
  subst hz2
  exact n_retz dX8_isRow_11 rfl (by first | exact Or.inl rfl | exact Or.inr rfl | assumption | omega) (⟨rfl, by omega⟩)
set_option maxHeartbeats 4000000 in
set_option maxRecDepth 100000 in
theorem k_X8_common (c : qC) (a b : Int) (a1 : -9223372036854775807 ≤ a ∧ a ≤ 9223372036854775807) (b1 : -9223372036854775807 ≤ b ∧ b ≤ 9223372036854775807) : qN X8_common 0 [qJ a, qJ b] c (pJ (fun z c' => z = gc a b ∧ c' = c)) := by
  refine qN.of [some (qJ a), none, some (qJ b), none, none, none, none, none, none, none] (by decide) rfl (fun _ => rfl) (fun _ => Nat.le_of_ble_eq_true rfl) ?_
  refine g_lload_n (i := 0) dX8_common_0 rfl rfl ?_
  refine g_lconst (z := 0) dX8_common_1 (by decide) ?_
  refine g_lif_ge 12 dX8_common_2 dX8_common_3 (by decide) (fun b2 => ?_) (fun b2 => ?_)
  · skip
    refine g_lload_n (i := 0) dX8_common_12 rfl rfl ?_
    refine g_lstore4 dX8_common_13 rfl ?_
    refine g_lload_n (i := 2) dX8_common_15 rfl rfl ?_
    refine g_lconst (z := 0) dX8_common_16 (by decide) ?_
    refine g_lif_ge 27 dX8_common_17 dX8_common_18 (by decide) (fun b17 => ?_) (fun b17 => ?_)
    · skip
      refine g_lload_n (i := 2) dX8_common_27 rfl rfl ?_
      refine g_lstore6 dX8_common_28 rfl ?_
      have L30 : ∀ (fu30 : Nat) (x y : Int) (p q : Nat), (y).toNat < fu30 → (x = p) → (y = q) → (lR x) → (lR y) → (Nat.gcd p q = Int.gcd a b) → qG (qYn X8_common 0 (pJ (fun z c' => z = gc a b ∧ c' = c))) wN 30 [some (qJ a), none, some (qJ b), none, some (qJ x), none, some (qJ y), none, none, none] [] c := by
        intro fu30
        induction fu30 with
        | zero => intro x y p q hm; exact absurd hm (Nat.not_lt_zero _)
        | succ fu30 ih30 =>
          intro x y p q hm30 hx hy xb yb hg
          refine g_lload dX8_common_30 rfl ?_
          refine g_lconst (z := 0) dX8_common_32 (by decide) ?_
          refine g_lif_eq 55 dX8_common_33 dX8_common_34 (by decide) (fun b33 => ?_) (fun b33 => ?_)
          · skip
            refine g_lload dX8_common_55 rfl ?_
            exact n_retj dX8_common_57 rfl (⟨by rw [hx]; unfold gc; rw [← hg, show q = 0 by omega, Nat.gcd_zero_right], rfl⟩)
          · skip
            refine g_lload dX8_common_37 rfl ?_
            refine g_lload dX8_common_39 rfl ?_
            refine g_lrem dX8_common_41 (by omega) (by omega) (by omega) ?_
            refine g_lstore8 dX8_common_42 rfl ?_
            refine g_lload dX8_common_44 rfl ?_
            refine g_lstore4 dX8_common_46 rfl ?_
            refine g_lload dX8_common_48 rfl ?_
            refine g_lstore6 dX8_common_50 rfl ?_
            have hm := Nat.mod_lt p (show 0 < q by omega)
            have he : x.tmod y = ((p % q : Nat) : Int) := by rw [hx, hy]; exact (Int.ofNat_tmod p q).symm
            refine g_goto 30 dX8_common_52 (by decide) ?_
            refine g_fg8 ?_
            exact ih30 _ _ q (p % q) (by rw [he]; omega) (by omega) he (by first | assumption | omega) (by rw [he]; omega) (by rw [gcd_step]; exact hg)
      exact L30 _ _ _ a.natAbs b.natAbs (Nat.lt_succ_self _) (by omega) (by omega) (by first | assumption | omega) (by first | assumption | omega) rfl
    · skip
      refine g_lconst (z := 0) dX8_common_21 (by decide) ?_
      refine g_lload_n (i := 2) dX8_common_22 rfl rfl ?_
      refine g_lsub dX8_common_23 ?_
      refine g_goto 28 dX8_common_24 (by decide) ?_
      refine g_lstore6 dX8_common_28 rfl ?_
      have L30 : ∀ (fu30 : Nat) (x y : Int) (p q : Nat), (y).toNat < fu30 → (x = p) → (y = q) → (lR x) → (lR y) → (Nat.gcd p q = Int.gcd a b) → qG (qYn X8_common 0 (pJ (fun z c' => z = gc a b ∧ c' = c))) wN 30 [some (qJ a), none, some (qJ b), none, some (qJ x), none, some (qJ y), none, none, none] [] c := by
        intro fu30
        induction fu30 with
        | zero => intro x y p q hm; exact absurd hm (Nat.not_lt_zero _)
        | succ fu30 ih30 =>
          intro x y p q hm30 hx hy xb yb hg
          refine g_lload dX8_common_30 rfl ?_
          refine g_lconst (z := 0) dX8_common_32 (by decide) ?_
          refine g_lif_eq 55 dX8_common_33 dX8_common_34 (by decide) (fun b33 => ?_) (fun b33 => ?_)
          · skip
            refine g_lload dX8_common_55 rfl ?_
            exact n_retj dX8_common_57 rfl (⟨by rw [hx]; unfold gc; rw [← hg, show q = 0 by omega, Nat.gcd_zero_right], rfl⟩)
          · skip
            refine g_lload dX8_common_37 rfl ?_
            refine g_lload dX8_common_39 rfl ?_
            refine g_lrem dX8_common_41 (by omega) (by omega) (by omega) ?_
            refine g_lstore8 dX8_common_42 rfl ?_
            refine g_lload dX8_common_44 rfl ?_
            refine g_lstore4 dX8_common_46 rfl ?_
            refine g_lload dX8_common_48 rfl ?_
            refine g_lstore6 dX8_common_50 rfl ?_
            have hm := Nat.mod_lt p (show 0 < q by omega)
            have he : x.tmod y = ((p % q : Nat) : Int) := by rw [hx, hy]; exact (Int.ofNat_tmod p q).symm
            refine g_goto 30 dX8_common_52 (by decide) ?_
            refine g_fg8 ?_
            exact ih30 _ _ q (p % q) (by rw [he]; omega) (by omega) he (by first | assumption | omega) (by rw [he]; omega) (by rw [gcd_step]; exact hg)
      exact L30 _ _ _ a.natAbs b.natAbs (Nat.lt_succ_self _) (by omega) (by omega) (by first | assumption | omega) (by first | assumption | omega) rfl
  · skip
    refine g_lconst (z := 0) dX8_common_6 (by decide) ?_
    refine g_lload_n (i := 0) dX8_common_7 rfl rfl ?_
    refine g_lsub dX8_common_8 ?_
    refine g_goto 13 dX8_common_9 (by decide) ?_
    refine g_lstore4 dX8_common_13 rfl ?_
    refine g_lload_n (i := 2) dX8_common_15 rfl rfl ?_
    refine g_lconst (z := 0) dX8_common_16 (by decide) ?_
    refine g_lif_ge 27 dX8_common_17 dX8_common_18 (by decide) (fun b17 => ?_) (fun b17 => ?_)
    · skip
      refine g_lload_n (i := 2) dX8_common_27 rfl rfl ?_
      refine g_lstore6 dX8_common_28 rfl ?_
      have L30 : ∀ (fu30 : Nat) (x y : Int) (p q : Nat), (y).toNat < fu30 → (x = p) → (y = q) → (lR x) → (lR y) → (Nat.gcd p q = Int.gcd a b) → qG (qYn X8_common 0 (pJ (fun z c' => z = gc a b ∧ c' = c))) wN 30 [some (qJ a), none, some (qJ b), none, some (qJ x), none, some (qJ y), none, none, none] [] c := by
        intro fu30
        induction fu30 with
        | zero => intro x y p q hm; exact absurd hm (Nat.not_lt_zero _)
        | succ fu30 ih30 =>
          intro x y p q hm30 hx hy xb yb hg
          refine g_lload dX8_common_30 rfl ?_
          refine g_lconst (z := 0) dX8_common_32 (by decide) ?_
          refine g_lif_eq 55 dX8_common_33 dX8_common_34 (by decide) (fun b33 => ?_) (fun b33 => ?_)
          · skip
            refine g_lload dX8_common_55 rfl ?_
            exact n_retj dX8_common_57 rfl (⟨by rw [hx]; unfold gc; rw [← hg, show q = 0 by omega, Nat.gcd_zero_right], rfl⟩)
          · skip
            refine g_lload dX8_common_37 rfl ?_
            refine g_lload dX8_common_39 rfl ?_
            refine g_lrem dX8_common_41 (by omega) (by omega) (by omega) ?_
            refine g_lstore8 dX8_common_42 rfl ?_
            refine g_lload dX8_common_44 rfl ?_
            refine g_lstore4 dX8_common_46 rfl ?_
            refine g_lload dX8_common_48 rfl ?_
            refine g_lstore6 dX8_common_50 rfl ?_
            have hm := Nat.mod_lt p (show 0 < q by omega)
            have he : x.tmod y = ((p % q : Nat) : Int) := by rw [hx, hy]; exact (Int.ofNat_tmod p q).symm
            refine g_goto 30 dX8_common_52 (by decide) ?_
            refine g_fg8 ?_
            exact ih30 _ _ q (p % q) (by rw [he]; omega) (by omega) he (by first | assumption | omega) (by rw [he]; omega) (by rw [gcd_step]; exact hg)
      exact L30 _ _ _ a.natAbs b.natAbs (Nat.lt_succ_self _) (by omega) (by omega) (by first | assumption | omega) (by first | assumption | omega) rfl
    · skip
      refine g_lconst (z := 0) dX8_common_21 (by decide) ?_
      refine g_lload_n (i := 2) dX8_common_22 rfl rfl ?_
      refine g_lsub dX8_common_23 ?_
      refine g_goto 28 dX8_common_24 (by decide) ?_
      refine g_lstore6 dX8_common_28 rfl ?_
      have L30 : ∀ (fu30 : Nat) (x y : Int) (p q : Nat), (y).toNat < fu30 → (x = p) → (y = q) → (lR x) → (lR y) → (Nat.gcd p q = Int.gcd a b) → qG (qYn X8_common 0 (pJ (fun z c' => z = gc a b ∧ c' = c))) wN 30 [some (qJ a), none, some (qJ b), none, some (qJ x), none, some (qJ y), none, none, none] [] c := by
        intro fu30
        induction fu30 with
        | zero => intro x y p q hm; exact absurd hm (Nat.not_lt_zero _)
        | succ fu30 ih30 =>
          intro x y p q hm30 hx hy xb yb hg
          refine g_lload dX8_common_30 rfl ?_
          refine g_lconst (z := 0) dX8_common_32 (by decide) ?_
          refine g_lif_eq 55 dX8_common_33 dX8_common_34 (by decide) (fun b33 => ?_) (fun b33 => ?_)
          · skip
            refine g_lload dX8_common_55 rfl ?_
            exact n_retj dX8_common_57 rfl (⟨by rw [hx]; unfold gc; rw [← hg, show q = 0 by omega, Nat.gcd_zero_right], rfl⟩)
          · skip
            refine g_lload dX8_common_37 rfl ?_
            refine g_lload dX8_common_39 rfl ?_
            refine g_lrem dX8_common_41 (by omega) (by omega) (by omega) ?_
            refine g_lstore8 dX8_common_42 rfl ?_
            refine g_lload dX8_common_44 rfl ?_
            refine g_lstore4 dX8_common_46 rfl ?_
            refine g_lload dX8_common_48 rfl ?_
            refine g_lstore6 dX8_common_50 rfl ?_
            have hm := Nat.mod_lt p (show 0 < q by omega)
            have he : x.tmod y = ((p % q : Nat) : Int) := by rw [hx, hy]; exact (Int.ofNat_tmod p q).symm
            refine g_goto 30 dX8_common_52 (by decide) ?_
            refine g_fg8 ?_
            exact ih30 _ _ q (p % q) (by rw [he]; omega) (by omega) he (by first | assumption | omega) (by rw [he]; omega) (by rw [gcd_step]; exact hg)
      exact L30 _ _ _ a.natAbs b.natAbs (Nat.lt_succ_self _) (by omega) (by omega) (by first | assumption | omega) (by first | assumption | omega) rfl
def fg (c : qC) : qC := qu (qu (qu (qu c 41 0 0) 41 1 0) 39 6 0) 39 8 0
set_option maxHeartbeats 4000000 in
set_option maxRecDepth 100000 in
theorem k_X8_forget (c : qC) : qN X8_forget 0 [qP 39] c (pV (fun c' => c' = fg c)) := by
  refine qN.of [some (qP 39)] (by decide) rfl (fun _ => rfl) (fun _ => Nat.le_of_ble_eq_true rfl) ?_
  refine g_aload_n (i := 0) dX8_forget_0 rfl rfl ?_
  refine g_getP dX8_forget_1 fl8_17 (by first | rfl | assumption) (by first | decide | (show _ < 62; omega)) (by first | rfl | assumption) ?_
  refine g_iconst dX8_forget_4 ?_
  refine g_iconst dX8_forget_5 ?_
  refine g_bastore dX8_forget_6 (by first | rfl | assumption) (by first | decide | (show _ < 62; omega)) (by first | exact Or.inl rfl | exact Or.inr rfl | omega) ?_
  refine g_aload_n (i := 0) dX8_forget_7 rfl rfl ?_
  refine g_getP dX8_forget_8 fl8_17 (by first | rfl | assumption) (by first | decide | (show _ < 62; omega)) (by first | rfl | assumption) ?_
  refine g_iconst dX8_forget_11 ?_
  refine g_iconst dX8_forget_12 ?_
  refine g_bastore dX8_forget_13 (by first | rfl | assumption) (by first | decide | (show _ < 62; omega)) (by first | exact Or.inl rfl | exact Or.inr rfl | omega) ?_
  refine g_aload_n (i := 0) dX8_forget_14 rfl rfl ?_
  refine g_iconst dX8_forget_15 ?_
  refine g_putI 6 dX8_forget_16 fl8_89 fw8_6 (by first | rfl | assumption) (by first | decide | (show _ < 62; omega)) (by first | rfl | assumption) (by decide) rfl ?_
  refine g_aload_n (i := 0) dX8_forget_19 rfl rfl ?_
  refine g_iconst dX8_forget_20 ?_
  refine g_putZ 8 dX8_forget_21 fl8_92 fw8_8 (by first | rfl | assumption) (by first | decide | (show _ < 62; omega)) (by first | rfl | assumption) (by decide) rfl (by first | exact Or.inl rfl | exact Or.inr rfl | omega) ?_
  exact n_retv dX8_forget_24 rfl (rfl)
set_option maxHeartbeats 4000000 in
set_option maxRecDepth 100000 in
theorem k_X8_apart (c : qC) (n wd kd i j : Int) (N : Int → Int → Int) (hM : Md c n wd N) (d0 : 0 ≤ kd) (d1 : kd < 3) (i0 : 0 ≤ i) (i1 : i < n) (j0 : 0 ≤ j) (j1 : j < n) : qN X8_apart 0 [qP 39, qI kd, qI i, qI j] c (pI (fun z c' => z = ds wd N kd i j ∧ c' = c)) := by
  obtain ⟨t1, t2, t3, t4, t5, t6⟩ := hM
  refine qN.of [some (qP 39), some (qI kd), some (qI i), some (qI j), none, none, none] (by decide) rfl (fun _ => rfl) (fun _ => Nat.le_of_ble_eq_true rfl) ?_
  refine g_iconst dX8_apart_0 ?_
  refine g_istore4 dX8_apart_1 rfl ?_
  refine g_iconst dX8_apart_3 ?_
  refine g_istore5 dX8_apart_4 rfl ?_
  have L6 : ∀ (fu6 : Nat) (x a : Int), (wd - x).toNat < fu6 → (0 ≤ x) → (x ≤ wd) → (a = ds x N kd i j) → qG (qYn X8_apart 0 (pI (fun z c' => z = ds wd N kd i j ∧ c' = c))) wN 6 [some (qP 39), some (qI kd), some (qI i), some (qI j), some (qI a), some (qI x), none] [] c := by
    intro fu6
    induction fu6 with
    | zero => intro x a hm; exact absurd hm (Nat.not_lt_zero _)
    | succ fu6 ih6 =>
      intro x a hm6 x0 x1 ha
      have hbd : 0 ≤ a ∧ a ≤ 16000000 := by rw [ha]; exact ds_bd x0 (by omega) (fun q q0 q1 => t6 i i0 i1 q q0 (by omega)) (fun q q0 q1 => t6 j j0 j1 q q0 (by omega))
      refine g_iload dX8_apart_6 rfl ?_
      refine g_aload_n (i := 0) dX8_apart_8 rfl rfl ?_
      refine g_getI (ji := 1) dX8_apart_9 fl8_7 (by first | rfl | assumption) (by first | decide | (show _ < 62; omega)) (by first | rfl | assumption) (by decide) rfl (by first | assumption | rfl) ?_
      refine g_icmp_ge 106 dX8_apart_12 (by decide) (fun b12 => ?_) (fun b12 => ?_)
      · skip
        refine g_iload dX8_apart_106 rfl ?_
        exact n_reti dX8_apart_108 rfl (⟨by rw [ha, show x = wd by omega], rfl⟩)
      · skip
        refine g_aload_n (i := 0) dX8_apart_15 rfl rfl ?_
        refine g_getP dX8_apart_16 fl8_13 (by first | rfl | assumption) (by first | decide | (show _ < 62; omega)) (by first | rfl | assumption) ?_
        refine g_iconst dX8_apart_19 ?_
        refine g_iload_n (i := 2) dX8_apart_20 rfl rfl ?_
        refine g_imul dX8_apart_21 ?_
        refine g_iload dX8_apart_22 rfl ?_
        refine g_iadd dX8_apart_24 ?_
        refine g_iaload dX8_apart_25 rfl (by decide) ?_
        rw [t5 i x i0 i1 x0 (by omega)]
        skip -- ?_
        refine g_aload_n (i := 0) dX8_apart_26 rfl rfl ?_
        refine g_getP dX8_apart_27 fl8_13 (by first | rfl | assumption) (by first | decide | (show _ < 62; omega)) (by first | rfl | assumption) ?_
        refine g_iconst dX8_apart_30 ?_
        refine g_iload_n (i := 3) dX8_apart_31 rfl rfl ?_
        refine g_imul dX8_apart_32 ?_
        refine g_iload dX8_apart_33 rfl ?_
        refine g_iadd dX8_apart_35 ?_
        refine g_iaload dX8_apart_36 rfl (by decide) ?_
        rw [t5 j x j0 j1 x0 (by omega)]
        have hbi := (t6 i i0 i1) x x0 (by omega)
        have hbj := (t6 j j0 j1) x x0 (by omega)
        skip -- ?_
        refine g_isub dX8_apart_37 ?_
        refine g_istore6 dX8_apart_38 rfl ?_
        refine g_iload dX8_apart_40 rfl ?_
        refine g_if_ge 52 dX8_apart_42 (by decide) (fun b42 => ?_) (fun b42 => ?_)
        · skip
          refine g_iload dX8_apart_52 rfl ?_
          refine g_istore6 dX8_apart_54 rfl ?_
          refine g_iload_n (i := 1) dX8_apart_56 rfl rfl ?_
          refine g_if_ne 71 dX8_apart_57 (by decide) (fun b57 => ?_) (fun b57 => ?_)
          · skip
            refine g_iload_n (i := 1) dX8_apart_71 rfl rfl ?_
            refine g_iconst dX8_apart_72 ?_
            refine g_icmp_ne 84 dX8_apart_73 (by decide) (fun b73 => ?_) (fun b73 => ?_)
            · skip
              refine g_iload dX8_apart_84 rfl ?_
              refine g_iload dX8_apart_86 rfl ?_
              refine g_icmp_le 96 dX8_apart_88 (by decide) (fun b88 => ?_) (fun b88 => ?_)
              · skip
                refine g_iload dX8_apart_96 rfl ?_
                refine g_istore4 dX8_apart_98 rfl ?_
                refine g_iinc5 dX8_apart_100 rfl ?_
                refine g_goto 6 dX8_apart_103 (by decide) ?_
                refine g_fg6 ?_
                exact ih6 _ _ (by omega) (by first | assumption | omega) (by first | assumption | omega) (by
        rw [ds_s x0, ← ha]
        first
          | (rw [if_pos (by omega)]; unfold ab; first | rw [if_pos (by omega)] | rw [if_neg (by omega)])
          | (rw [if_neg (by omega), if_pos (by omega)]; unfold ab; first | rw [if_pos (by omega)] | rw [if_neg (by omega)])
          | (rw [if_neg (by omega), if_neg (by omega)]; unfold mx ab; (repeat' split) <;> omega))
              · skip
                refine g_iload dX8_apart_91 rfl ?_
                refine g_goto 98 dX8_apart_93 (by decide) ?_
                refine g_istore4 dX8_apart_98 rfl ?_
                refine g_iinc5 dX8_apart_100 rfl ?_
                refine g_goto 6 dX8_apart_103 (by decide) ?_
                refine g_fg6 ?_
                exact ih6 _ _ (by omega) (by first | assumption | omega) (by first | assumption | omega) (by
        rw [ds_s x0, ← ha]
        first
          | (rw [if_pos (by omega)]; unfold ab; first | rw [if_pos (by omega)] | rw [if_neg (by omega)])
          | (rw [if_neg (by omega), if_pos (by omega)]; unfold ab; first | rw [if_pos (by omega)] | rw [if_neg (by omega)])
          | (rw [if_neg (by omega), if_neg (by omega)]; unfold mx ab; (repeat' split) <;> omega))
            · skip
              refine g_iload dX8_apart_76 rfl ?_
              refine g_iload dX8_apart_78 rfl ?_
              refine g_iadd dX8_apart_80 ?_
              refine g_goto 98 dX8_apart_81 (by decide) ?_
              refine g_istore4 dX8_apart_98 rfl ?_
              refine g_iinc5 dX8_apart_100 rfl ?_
              refine g_goto 6 dX8_apart_103 (by decide) ?_
              refine g_fg6 ?_
              exact ih6 _ _ (by omega) (by first | assumption | omega) (by first | assumption | omega) (by
        rw [ds_s x0, ← ha]
        first
          | (rw [if_pos (by omega)]; unfold ab; first | rw [if_pos (by omega)] | rw [if_neg (by omega)])
          | (rw [if_neg (by omega), if_pos (by omega)]; unfold ab; first | rw [if_pos (by omega)] | rw [if_neg (by omega)])
          | (rw [if_neg (by omega), if_neg (by omega)]; unfold mx ab; (repeat' split) <;> omega))
          · skip
            refine g_iload dX8_apart_60 rfl ?_
            refine g_iload dX8_apart_62 rfl ?_
            refine g_iload dX8_apart_64 rfl ?_
            refine g_imul dX8_apart_66 ?_
            refine g_iadd dX8_apart_67 ?_
            refine g_goto 98 dX8_apart_68 (by decide) ?_
            refine g_istore4 dX8_apart_98 rfl ?_
            refine g_iinc5 dX8_apart_100 rfl ?_
            refine g_goto 6 dX8_apart_103 (by decide) ?_
            refine g_fg6 ?_
            exact ih6 _ _ (by omega) (by first | assumption | omega) (by first | assumption | omega) (by
        rw [ds_s x0, ← ha]
        first
          | (rw [if_pos (by omega)]; unfold ab; first | rw [if_pos (by omega)] | rw [if_neg (by omega)])
          | (rw [if_neg (by omega), if_pos (by omega)]; unfold ab; first | rw [if_pos (by omega)] | rw [if_neg (by omega)])
          | (rw [if_neg (by omega), if_neg (by omega)]; unfold mx ab; (repeat' split) <;> omega))
        · skip
          refine g_iconst dX8_apart_45 ?_
          refine g_iload dX8_apart_46 rfl ?_
          refine g_isub dX8_apart_48 ?_
          refine g_goto 54 dX8_apart_49 (by decide) ?_
          refine g_istore6 dX8_apart_54 rfl ?_
          refine g_iload_n (i := 1) dX8_apart_56 rfl rfl ?_
          refine g_if_ne 71 dX8_apart_57 (by decide) (fun b57 => ?_) (fun b57 => ?_)
          · skip
            refine g_iload_n (i := 1) dX8_apart_71 rfl rfl ?_
            refine g_iconst dX8_apart_72 ?_
            refine g_icmp_ne 84 dX8_apart_73 (by decide) (fun b73 => ?_) (fun b73 => ?_)
            · skip
              refine g_iload dX8_apart_84 rfl ?_
              refine g_iload dX8_apart_86 rfl ?_
              refine g_icmp_le 96 dX8_apart_88 (by decide) (fun b88 => ?_) (fun b88 => ?_)
              · skip
                refine g_iload dX8_apart_96 rfl ?_
                refine g_istore4 dX8_apart_98 rfl ?_
                refine g_iinc5 dX8_apart_100 rfl ?_
                refine g_goto 6 dX8_apart_103 (by decide) ?_
                refine g_fg6 ?_
                exact ih6 _ _ (by omega) (by first | assumption | omega) (by first | assumption | omega) (by
        rw [ds_s x0, ← ha]
        first
          | (rw [if_pos (by omega)]; unfold ab; first | rw [if_pos (by omega)] | rw [if_neg (by omega)])
          | (rw [if_neg (by omega), if_pos (by omega)]; unfold ab; first | rw [if_pos (by omega)] | rw [if_neg (by omega)])
          | (rw [if_neg (by omega), if_neg (by omega)]; unfold mx ab; (repeat' split) <;> omega))
              · skip
                refine g_iload dX8_apart_91 rfl ?_
                refine g_goto 98 dX8_apart_93 (by decide) ?_
                refine g_istore4 dX8_apart_98 rfl ?_
                refine g_iinc5 dX8_apart_100 rfl ?_
                refine g_goto 6 dX8_apart_103 (by decide) ?_
                refine g_fg6 ?_
                exact ih6 _ _ (by omega) (by first | assumption | omega) (by first | assumption | omega) (by
        rw [ds_s x0, ← ha]
        first
          | (rw [if_pos (by omega)]; unfold ab; first | rw [if_pos (by omega)] | rw [if_neg (by omega)])
          | (rw [if_neg (by omega), if_pos (by omega)]; unfold ab; first | rw [if_pos (by omega)] | rw [if_neg (by omega)])
          | (rw [if_neg (by omega), if_neg (by omega)]; unfold mx ab; (repeat' split) <;> omega))
            · skip
              refine g_iload dX8_apart_76 rfl ?_
              refine g_iload dX8_apart_78 rfl ?_
              refine g_iadd dX8_apart_80 ?_
              refine g_goto 98 dX8_apart_81 (by decide) ?_
              refine g_istore4 dX8_apart_98 rfl ?_
              refine g_iinc5 dX8_apart_100 rfl ?_
              refine g_goto 6 dX8_apart_103 (by decide) ?_
              refine g_fg6 ?_
              exact ih6 _ _ (by omega) (by first | assumption | omega) (by first | assumption | omega) (by
        rw [ds_s x0, ← ha]
        first
          | (rw [if_pos (by omega)]; unfold ab; first | rw [if_pos (by omega)] | rw [if_neg (by omega)])
          | (rw [if_neg (by omega), if_pos (by omega)]; unfold ab; first | rw [if_pos (by omega)] | rw [if_neg (by omega)])
          | (rw [if_neg (by omega), if_neg (by omega)]; unfold mx ab; (repeat' split) <;> omega))
          · skip
            refine g_iload dX8_apart_60 rfl ?_
            refine g_iload dX8_apart_62 rfl ?_
            refine g_iload dX8_apart_64 rfl ?_
            refine g_imul dX8_apart_66 ?_
            refine g_iadd dX8_apart_67 ?_
            refine g_goto 98 dX8_apart_68 (by decide) ?_
            refine g_istore4 dX8_apart_98 rfl ?_
            refine g_iinc5 dX8_apart_100 rfl ?_
            refine g_goto 6 dX8_apart_103 (by decide) ?_
            refine g_fg6 ?_
            exact ih6 _ _ (by omega) (by first | assumption | omega) (by first | assumption | omega) (by
        rw [ds_s x0, ← ha]
        first
          | (rw [if_pos (by omega)]; unfold ab; first | rw [if_pos (by omega)] | rw [if_neg (by omega)])
          | (rw [if_neg (by omega), if_pos (by omega)]; unfold ab; first | rw [if_pos (by omega)] | rw [if_neg (by omega)])
          | (rw [if_neg (by omega), if_neg (by omega)]; unfold mx ab; (repeat' split) <;> omega))
  exact L6 _ _ _ (Nat.lt_succ_self _) (by first | assumption | omega) (by first | assumption | omega) ds_z.symm
set_option maxHeartbeats 4000000 in
set_option maxRecDepth 100000 in
theorem k_X8_lay (c : qC) (n wd kd : Int) (N : Int → Int → Int) (hM : Md c n wd N) (d0 : 0 ≤ kd) (d1 : kd < 3) : qN X8_lay 1 [qP 39, qI kd] c (pV (fun c' => (∀ k, k ≠ 50 → c' k = c k) ∧ ∀ i j, 0 ≤ i → i < n → 0 ≤ j → j < n → c' 50 (30 * i + j) = ds wd N kd i j)) := by
  have hM0 := hM
  obtain ⟨t1, t2, t3, t4, t5, t6⟩ := hM
  refine qN.of [some (qP 39), some (qI kd), none, none] (by decide) rfl (fun _ => rfl) (fun _ => Nat.le_of_ble_eq_true rfl) ?_
  refine g_iconst dX8_lay_0 ?_
  refine g_istore_n2 dX8_lay_1 rfl ?_
  have L2 : ∀ (fu2 : Nat) (i : Int) (c1 : qC), (n - i).toNat < fu2 → (0 ≤ i) → (i ≤ n) → (∀ k, k ≠ 50 → c1 k = c k) → (∀ p q, 0 ≤ p → p < i → 0 ≤ q → q < n → c1 50 (30 * p + q) = ds wd N kd p q) → qG (qYn X8_lay 1 (pV (fun c' => (∀ k, k ≠ 50 → c' k = c k) ∧ ∀ i j, 0 ≤ i → i < n → 0 ≤ j → j < n → c' 50 (30 * i + j) = ds wd N kd i j))) wN 2 [some (qP 39), some (qI kd), some (qI i), none] [] c1 := by
    intro fu2
    induction fu2 with
    | zero => intro i c1 hm; exact absurd hm (Nat.not_lt_zero _)
    | succ fu2 ih2 =>
      intro i c1 hm2 i0 i1 fr hd
      have r1 : c1 39 0 = n := by rw [fr 39 (by decide)]; exact t1
      refine g_iload_n (i := 2) dX8_lay_2 rfl rfl ?_
      refine g_aload_n (i := 0) dX8_lay_3 rfl rfl ?_
      refine g_getI (ji := 0) dX8_lay_4 fl8_82 (by first | rfl | assumption) (by first | decide | (show _ < 62; omega)) (by first | rfl | assumption) (by decide) rfl (by first | assumption | rfl) ?_
      refine g_icmp_ge 50 dX8_lay_7 (by decide) (fun b7 => ?_) (fun b7 => ?_)
      · skip
        exact n_retv dX8_lay_50 rfl (⟨fr, fun p q p0 p1 q0 q1 => hd p q p0 (by omega) q0 q1⟩)
      · skip
        refine g_iconst dX8_lay_10 ?_
        refine g_istore_n3 dX8_lay_11 rfl ?_
        have L12 : ∀ (fu12 : Nat) (j : Int) (c2 : qC), (n - j).toNat < fu12 → (0 ≤ j) → (j ≤ n) → (∀ k, k ≠ 50 → c2 k = c k) → (∀ p q, 0 ≤ p → p < i + 1 → 0 ≤ q → q < n → (p < i ∨ q < j) → c2 50 (30 * p + q) = ds wd N kd p q) → qG (qYn X8_lay 1 (pV (fun c' => (∀ k, k ≠ 50 → c' k = c k) ∧ ∀ i j, 0 ≤ i → i < n → 0 ≤ j → j < n → c' 50 (30 * i + j) = ds wd N kd i j))) wN 12 [some (qP 39), some (qI kd), some (qI i), some (qI j)] [] c2 := by
          intro fu12
          induction fu12 with
          | zero => intro j c2 hm; exact absurd hm (Nat.not_lt_zero _)
          | succ fu12 ih12 =>
            intro j c2 hm12 j0 j1 fr2 hd2
            have r2 : c2 39 0 = n := by rw [fr2 39 (by decide)]; exact t1
            have hM2 : Md c2 n wd N := hM0.fr (by rw [fr2 39 (by decide)]) (by rw [fr2 39 (by decide)]) (fr2 40 (by decide))
            refine g_iload_n (i := 3) dX8_lay_12 rfl rfl ?_
            refine g_aload_n (i := 0) dX8_lay_13 rfl rfl ?_
            refine g_getI (ji := 0) dX8_lay_14 fl8_82 (by first | rfl | assumption) (by first | decide | (show _ < 62; omega)) (by first | rfl | assumption) (by decide) rfl (by first | assumption | rfl) ?_
            refine g_icmp_ge 44 dX8_lay_17 (by decide) (fun b17 => ?_) (fun b17 => ?_)
            · skip
              refine g_iinc2 dX8_lay_44 rfl ?_
              refine g_goto 2 dX8_lay_47 (by decide) ?_
              refine g_fg3 ?_
              exact ih2 _ _ (by omega) (by first | assumption | omega) (by first | assumption | omega) fr2 (fun p q p0 p1 q0 q1 => hd2 p q p0 (by omega) q0 q1 (by omega))
            · skip
              refine g_aload_n (i := 0) dX8_lay_20 rfl rfl ?_
              refine g_getP dX8_lay_21 fl8_46 (by first | rfl | assumption) (by first | decide | (show _ < 62; omega)) (by first | rfl | assumption) ?_
              refine g_bipush dX8_lay_24 (by decide) ?_
              refine g_iload_n (i := 2) dX8_lay_26 rfl rfl ?_
              refine g_imul dX8_lay_27 ?_
              refine g_iload_n (i := 3) dX8_lay_28 rfl rfl ?_
              refine g_iadd dX8_lay_29 ?_
              refine g_aload_n (i := 0) dX8_lay_30 rfl rfl ?_
              refine g_iload_n (i := 1) dX8_lay_31 rfl rfl ?_
              refine g_iload_n (i := 2) dX8_lay_32 rfl rfl ?_
              refine g_iload_n (i := 3) dX8_lay_33 rfl rfl ?_
              refine n_callVi (k_X8_apart _ _ _ _ _ _ _ (by assumption) (by omega) (by omega) (by omega) (by omega) (by omega) (by omega)) dX8_lay_34 lk8_105 im_X8_apart (by first | rfl | assumption) (by first | decide | (show _ < 62; omega)) rfl rfl rfl rfl (Nat.le_of_ble_eq_true rfl) (fun z c' hz => ?_)
              obtain ⟨rfl, hz2⟩ := hz
              have hz2 := hz2.symm
              subst hz2
              refine g_iastore dX8_lay_37 (by first | rfl | assumption) (by first | decide | (show _ < 62; omega)) ?_
              refine g_iinc3 dX8_lay_38 rfl ?_
              refine g_goto 12 dX8_lay_41 (by decide) ?_
              exact ih12 _ _ (by omega) (by first | assumption | omega) (by first | assumption | omega) (fun k hk => by rw [qu_ne hk]; exact fr2 k hk) (fun p q p0 p1 q0 q1 h => by
                rw [qu_at]
                split
                · rename_i e
                  rw [show p = i by omega, show q = j by omega]
                · exact hd2 p q p0 p1 q0 q1 (by omega))
        exact L12 _ _ _ (Nat.lt_succ_self _) (by first | assumption | omega) (by first | assumption | omega) fr (fun p q p0 p1 q0 q1 h => hd p q p0 (by omega) q0 q1)
  exact L2 _ _ _ (Nat.lt_succ_self _) (by first | assumption | omega) (by first | assumption | omega) (fun k _ => rfl) (fun p q p0 p1 => by omega)
set_option maxHeartbeats 4000000 in
set_option maxRecDepth 100000 in
theorem k_X8_of0 (c : qC) (s i : Int) (s0 : 0 ≤ s ∧ s ≤ 1) (i0 : 0 ≤ i) (i1 : i < 30) : qN X8_of0 0 [qP 39, qI s, qI i] c (pI (fun z c' => z = c 43 (30 * s + i) ∧ c' = c)) := by
  refine qN.of [some (qP 39), some (qI s), some (qI i)] (by decide) rfl (fun _ => rfl) (fun _ => Nat.le_of_ble_eq_true rfl) ?_
  refine g_aload_n (i := 0) dX8_of0_0 rfl rfl ?_
  refine g_getP dX8_of0_1 fl8_24 (by first | rfl | assumption) (by first | decide | (show _ < 62; omega)) (by first | rfl | assumption) ?_
  refine g_bipush dX8_of0_4 (by decide) ?_
  refine g_iload_n (i := 1) dX8_of0_6 rfl rfl ?_
  refine g_imul dX8_of0_7 ?_
  refine g_iload_n (i := 2) dX8_of0_8 rfl rfl ?_
  refine g_iadd dX8_of0_9 ?_
  refine g_iaload dX8_of0_10 (by first | rfl | assumption) (by first | decide | (show _ < 62; omega)) ?_
  exact n_reti dX8_of0_11 rfl (⟨rfl, rfl⟩)
set_option maxHeartbeats 4000000 in
set_option maxRecDepth 100000 in
theorem k_X8_sizeIn (c : qC) (n wd s k : Int) (N : Int → Int → Int) (g : Int → Int) (hM : Md c n wd N) (s0 : 0 ≤ s ∧ s ≤ 1) (hg : ∀ r, 0 ≤ r → r < n → c 43 (30 * s + r) = g r ∧ -1 ≤ g r ∧ g r < 30) (k0 : iR k) : qN X8_sizeIn 1 [qP 39, qI s, qI k] c (pI (fun z c' => z = cn g n k ∧ c' = c)) := by
  have hM0 := hM
  obtain ⟨t1, t2, t3, t4, t5, t6⟩ := hM
  refine qN.of [some (qP 39), some (qI s), some (qI k), none, none] (by decide) rfl (fun _ => rfl) (fun _ => Nat.le_of_ble_eq_true rfl) ?_
  refine g_iconst dX8_sizeIn_0 ?_
  refine g_istore_n3 dX8_sizeIn_1 rfl ?_
  refine g_iconst dX8_sizeIn_2 ?_
  refine g_istore4 dX8_sizeIn_3 rfl ?_
  have L5 : ∀ (fu5 : Nat) (r a : Int), (n - r).toNat < fu5 → (0 ≤ r) → (r ≤ n) → (a = cn g r k) → qG (qYn X8_sizeIn 1 (pI (fun z c' => z = cn g n k ∧ c' = c))) wN 5 [some (qP 39), some (qI s), some (qI k), some (qI a), some (qI r)] [] c := by
    intro fu5
    induction fu5 with
    | zero => intro r a hm; exact absurd hm (Nat.not_lt_zero _)
    | succ fu5 ih5 =>
      intro r a hm5 r0 r1 ha
      refine g_iload dX8_sizeIn_5 rfl ?_
      refine g_aload_n (i := 0) dX8_sizeIn_7 rfl rfl ?_
      refine g_getI (ji := 0) dX8_sizeIn_8 fl8_82 (by first | rfl | assumption) (by first | decide | (show _ < 62; omega)) (by first | rfl | assumption) (by decide) rfl (by first | assumption | rfl) ?_
      refine g_icmp_ge 39 dX8_sizeIn_11 (by decide) (fun b11 => ?_) (fun b11 => ?_)
      · skip
        refine g_iload_n (i := 3) dX8_sizeIn_39 rfl rfl ?_
        exact n_reti dX8_sizeIn_40 rfl (⟨by rw [ha, show r = n by omega], rfl⟩)
      · skip
        refine g_iload_n (i := 3) dX8_sizeIn_14 rfl rfl ?_
        refine g_aload_n (i := 0) dX8_sizeIn_15 rfl rfl ?_
        refine g_iload_n (i := 1) dX8_sizeIn_16 rfl rfl ?_
        refine g_iload dX8_sizeIn_17 rfl ?_
        refine n_callVi (k_X8_of0 _ _ _ (by omega) (by omega) (by omega)) dX8_sizeIn_19 lk8_182 im_X8_of0 (by first | rfl | assumption) (by first | decide | (show _ < 62; omega)) rfl rfl rfl rfl (Nat.le_of_ble_eq_true rfl) (fun z c' hz => ?_)
        obtain ⟨rfl, hz2⟩ := hz
        have hz2 := hz2.symm
        subst hz2
        have hgr := hg r r0 (by omega)
        rw [hgr.1]
        refine g_iload_n (i := 2) dX8_sizeIn_22 rfl rfl ?_
        refine g_icmp_ne 30 dX8_sizeIn_23 (by decide) (fun b23 => ?_) (fun b23 => ?_)
        · skip
          refine g_iconst dX8_sizeIn_30 ?_
          refine g_iadd dX8_sizeIn_31 ?_
          refine g_istore_n3 dX8_sizeIn_32 rfl ?_
          refine g_iinc4 dX8_sizeIn_33 rfl ?_
          refine g_goto 5 dX8_sizeIn_36 (by decide) ?_
          exact ih5 _ _ (by omega) (by first | assumption | omega) (by first | assumption | omega) (by (first | rw [cn_s r0, ha] | rw [sg_s r0, ha]); first | rw [if_pos (by omega)] | rw [if_neg (by omega)])
        · skip
          refine g_iconst dX8_sizeIn_26 ?_
          refine g_goto 31 dX8_sizeIn_27 (by decide) ?_
          refine g_iadd dX8_sizeIn_31 ?_
          refine g_istore_n3 dX8_sizeIn_32 rfl ?_
          refine g_iinc4 dX8_sizeIn_33 rfl ?_
          refine g_goto 5 dX8_sizeIn_36 (by decide) ?_
          exact ih5 _ _ (by omega) (by first | assumption | omega) (by first | assumption | omega) (by (first | rw [cn_s r0, ha] | rw [sg_s r0, ha]); first | rw [if_pos (by omega)] | rw [if_neg (by omega)])
  exact L5 _ _ _ (Nat.lt_succ_self _) (by first | assumption | omega) (by first | assumption | omega) rfl
set_option maxHeartbeats 4000000 in
set_option maxRecDepth 100000 in
theorem k_X8_sumIn (c : qC) (n wd s k : Int) (N : Int → Int → Int) (g : Int → Int) (hM : Md c n wd N) (s0 : 0 ≤ s ∧ s ≤ 1) (hg : ∀ r, 0 ≤ r → r < n → c 43 (30 * s + r) = g r ∧ -1 ≤ g r ∧ g r < 30) (k0 : iR k) (x : Int) (x0 : 0 ≤ x) (x1 : x < wd) : qN X8_sumIn 1 [qP 39, qI s, qI k, qI x] c (pJ (fun z c' => z = sg g n k (fun r => N r x) ∧ c' = c)) := by
  have hM0 := hM
  obtain ⟨t1, t2, t3, t4, t5, t6⟩ := hM
  refine qN.of [some (qP 39), some (qI s), some (qI k), some (qI x), none, none, none] (by decide) rfl (fun _ => rfl) (fun _ => Nat.le_of_ble_eq_true rfl) ?_
  refine g_lconst (z := 0) dX8_sumIn_0 (by decide) ?_
  refine g_lstore4 dX8_sumIn_1 rfl ?_
  refine g_iconst dX8_sumIn_3 ?_
  refine g_istore6 dX8_sumIn_4 rfl ?_
  have L6 : ∀ (fu6 : Nat) (r a : Int), (n - r).toNat < fu6 → (0 ≤ r) → (r ≤ n) → (a = sg g r k (fun r => N r x)) → qG (qYn X8_sumIn 1 (pJ (fun z c' => z = sg g n k (fun r => N r x) ∧ c' = c))) wN 6 [some (qP 39), some (qI s), some (qI k), some (qI x), some (qJ a), none, some (qI r)] [] c := by
    intro fu6
    induction fu6 with
    | zero => intro r a hm; exact absurd hm (Nat.not_lt_zero _)
    | succ fu6 ih6 =>
      intro r a hm6 r0 r1 ha
      refine g_iload dX8_sumIn_6 rfl ?_
      refine g_aload_n (i := 0) dX8_sumIn_8 rfl rfl ?_
      refine g_getI (ji := 0) dX8_sumIn_9 fl8_82 (by first | rfl | assumption) (by first | decide | (show _ < 62; omega)) (by first | rfl | assumption) (by decide) rfl (by first | assumption | rfl) ?_
      refine g_icmp_ge 53 dX8_sumIn_12 (by decide) (fun b12 => ?_) (fun b12 => ?_)
      · skip
        refine g_lload dX8_sumIn_53 rfl ?_
        exact n_retj dX8_sumIn_55 rfl (⟨by rw [ha, show r = n by omega], rfl⟩)
      · skip
        refine g_lload dX8_sumIn_15 rfl ?_
        refine g_aload_n (i := 0) dX8_sumIn_17 rfl rfl ?_
        refine g_iload_n (i := 1) dX8_sumIn_18 rfl rfl ?_
        refine g_iload dX8_sumIn_19 rfl ?_
        refine n_callVi (k_X8_of0 _ _ _ (by omega) (by omega) (by omega)) dX8_sumIn_21 lk8_182 im_X8_of0 (by first | rfl | assumption) (by first | decide | (show _ < 62; omega)) rfl rfl rfl rfl (Nat.le_of_ble_eq_true rfl) (fun z c' hz => ?_)
        obtain ⟨rfl, hz2⟩ := hz
        have hz2 := hz2.symm
        subst hz2
        have hgr := hg r r0 (by omega)
        rw [hgr.1]
        refine g_iload_n (i := 2) dX8_sumIn_24 rfl rfl ?_
        refine g_icmp_ne 43 dX8_sumIn_25 (by decide) (fun b25 => ?_) (fun b25 => ?_)
        · skip
          refine g_lconst (z := 0) dX8_sumIn_43 (by decide) ?_
          refine g_ladd dX8_sumIn_44 ?_
          refine g_lstore4 dX8_sumIn_45 rfl ?_
          refine g_iinc6 dX8_sumIn_47 rfl ?_
          refine g_goto 6 dX8_sumIn_50 (by decide) ?_
          exact ih6 _ _ (by omega) (by first | assumption | omega) (by first | assumption | omega) (by (first | rw [cn_s r0, ha] | rw [sg_s r0, ha]); first | rw [if_pos (by omega)] | rw [if_neg (by omega)])
        · skip
          refine g_aload_n (i := 0) dX8_sumIn_28 rfl rfl ?_
          refine g_getP dX8_sumIn_29 fl8_13 (by first | rfl | assumption) (by first | decide | (show _ < 62; omega)) (by first | rfl | assumption) ?_
          refine g_iconst dX8_sumIn_32 ?_
          refine g_iload dX8_sumIn_33 rfl ?_
          refine g_imul dX8_sumIn_35 ?_
          refine g_iload_n (i := 3) dX8_sumIn_36 rfl rfl ?_
          refine g_iadd dX8_sumIn_37 ?_
          refine g_iaload dX8_sumIn_38 rfl (by decide) ?_
          rw [t5 r x r0 (by omega) x0 x1]
          have hb := t6 r r0 (by omega) x x0 x1
          skip -- ?_
          refine g_i2lx dX8_sumIn_39 ?_
          refine g_goto 44 dX8_sumIn_40 (by decide) ?_
          refine g_ladd dX8_sumIn_44 ?_
          refine g_lstore4 dX8_sumIn_45 rfl ?_
          refine g_iinc6 dX8_sumIn_47 rfl ?_
          refine g_goto 6 dX8_sumIn_50 (by decide) ?_
          exact ih6 _ _ (by omega) (by first | assumption | omega) (by first | assumption | omega) (by (first | rw [cn_s r0, ha] | rw [sg_s r0, ha]); first | rw [if_pos (by omega)] | rw [if_neg (by omega)])
  exact L6 _ _ _ (Nat.lt_succ_self _) (by first | assumption | omega) (by first | assumption | omega) rfl
set_option maxHeartbeats 4000000 in
set_option maxRecDepth 100000 in
theorem k_X8_farFrom (c : qC) (n wd s k : Int) (N : Int → Int → Int) (g : Int → Int) (hM : Md c n wd N) (s0 : 0 ≤ s ∧ s ≤ 1) (hg : ∀ r, 0 ≤ r → r < n → c 43 (30 * s + r) = g r ∧ -1 ≤ g r ∧ g r < 30) (k0 : iR k) (kd i : Int) (d0 : 0 ≤ kd) (d1 : kd < 3) (i0 : 0 ≤ i) (i1 : i < n) : qN X8_farFrom 1 [qP 39, qI s, qI kd, qI i, qI k] c (pJ (fun z c' => z = sg g n k (fun r => ds wd N kd i r) ∧ c' = c)) := by
  have hM0 := hM
  obtain ⟨t1, t2, t3, t4, t5, t6⟩ := hM
  refine qN.of [some (qP 39), some (qI s), some (qI kd), some (qI i), some (qI k), none, none, none] (by decide) rfl (fun _ => rfl) (fun _ => Nat.le_of_ble_eq_true rfl) ?_
  refine g_lconst (z := 0) dX8_farFrom_0 (by decide) ?_
  refine g_lstore5 dX8_farFrom_1 rfl ?_
  refine g_iconst dX8_farFrom_3 ?_
  refine g_istore7 dX8_farFrom_4 rfl ?_
  have L6 : ∀ (fu6 : Nat) (r a : Int), (n - r).toNat < fu6 → (0 ≤ r) → (r ≤ n) → (a = sg g r k (fun r => ds wd N kd i r)) → qG (qYn X8_farFrom 1 (pJ (fun z c' => z = sg g n k (fun r => ds wd N kd i r) ∧ c' = c))) wN 6 [some (qP 39), some (qI s), some (qI kd), some (qI i), some (qI k), some (qJ a), none, some (qI r)] [] c := by
    intro fu6
    induction fu6 with
    | zero => intro r a hm; exact absurd hm (Nat.not_lt_zero _)
    | succ fu6 ih6 =>
      intro r a hm6 r0 r1 ha
      refine g_iload dX8_farFrom_6 rfl ?_
      refine g_aload_n (i := 0) dX8_farFrom_8 rfl rfl ?_
      refine g_getI (ji := 0) dX8_farFrom_9 fl8_82 (by first | rfl | assumption) (by first | decide | (show _ < 62; omega)) (by first | rfl | assumption) (by decide) rfl (by first | assumption | rfl) ?_
      refine g_icmp_ge 51 dX8_farFrom_12 (by decide) (fun b12 => ?_) (fun b12 => ?_)
      · skip
        refine g_lload dX8_farFrom_51 rfl ?_
        exact n_retj dX8_farFrom_53 rfl (⟨by rw [ha, show r = n by omega], rfl⟩)
      · skip
        refine g_lload dX8_farFrom_15 rfl ?_
        refine g_aload_n (i := 0) dX8_farFrom_17 rfl rfl ?_
        refine g_iload_n (i := 1) dX8_farFrom_18 rfl rfl ?_
        refine g_iload dX8_farFrom_19 rfl ?_
        refine n_callVi (k_X8_of0 _ _ _ (by omega) (by omega) (by omega)) dX8_farFrom_21 lk8_182 im_X8_of0 (by first | rfl | assumption) (by first | decide | (show _ < 62; omega)) rfl rfl rfl rfl (Nat.le_of_ble_eq_true rfl) (fun z c' hz => ?_)
        obtain ⟨rfl, hz2⟩ := hz
        have hz2 := hz2.symm
        subst hz2
        have hgr := hg r r0 (by omega)
        rw [hgr.1]
        refine g_iload dX8_farFrom_24 rfl ?_
        refine g_icmp_ne 41 dX8_farFrom_26 (by decide) (fun b26 => ?_) (fun b26 => ?_)
        · skip
          refine g_lconst (z := 0) dX8_farFrom_41 (by decide) ?_
          refine g_ladd dX8_farFrom_42 ?_
          refine g_lstore5 dX8_farFrom_43 rfl ?_
          refine g_iinc7 dX8_farFrom_45 rfl ?_
          refine g_goto 6 dX8_farFrom_48 (by decide) ?_
          exact ih6 _ _ (by omega) (by first | assumption | omega) (by first | assumption | omega) (by (first | rw [cn_s r0, ha] | rw [sg_s r0, ha]); first | rw [if_pos (by omega)] | rw [if_neg (by omega)])
        · skip
          refine g_aload_n (i := 0) dX8_farFrom_29 rfl rfl ?_
          refine g_iload_n (i := 2) dX8_farFrom_30 rfl rfl ?_
          refine g_iload_n (i := 3) dX8_farFrom_31 rfl rfl ?_
          refine g_iload dX8_farFrom_32 rfl ?_
          refine n_callVi (k_X8_apart _ n wd _ _ _ N hM0 (by omega) (by omega) (by omega) (by omega) (by omega) (by omega)) dX8_farFrom_34 lk8_105 im_X8_apart (by first | rfl | assumption) (by first | decide | (show _ < 62; omega)) rfl rfl rfl rfl (Nat.le_of_ble_eq_true rfl) (fun z c' hz => ?_)
          obtain ⟨rfl, hz2⟩ := hz
          have hz2 := hz2.symm
          subst hz2
          have hb := hM0.bd (kd := kd) i0 i1 r0 (show r < n by omega)
          refine g_i2lx dX8_farFrom_37 ?_
          refine g_goto 42 dX8_farFrom_38 (by decide) ?_
          refine g_ladd dX8_farFrom_42 ?_
          refine g_lstore5 dX8_farFrom_43 rfl ?_
          refine g_iinc7 dX8_farFrom_45 rfl ?_
          refine g_goto 6 dX8_farFrom_48 (by decide) ?_
          exact ih6 _ _ (by omega) (by first | assumption | omega) (by first | assumption | omega) (by (first | rw [cn_s r0, ha] | rw [sg_s r0, ha]); first | rw [if_pos (by omega)] | rw [if_neg (by omega)])
  exact L6 _ _ _ (Nat.lt_succ_self _) (by first | assumption | omega) (by first | assumption | omega) rfl
