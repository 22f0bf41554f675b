/-- of the first n ROWS those in GROUP k: how many, what they sum to -/
def cn (g : Int → Int) (n k : Int) : Int := sI (fun r => if g r = k then 1 else 0) n
def sg (g : Int → Int) (n k : Int) (v : Int → Int) : Int := sI (fun r => if g r = k then v r else 0) n
theorem cn_bd {g : Int → Int} {n k : Int} (hn : 0 ≤ n) : 0 ≤ cn g n k ∧ cn g n k ≤ n := by
  have := sI_bd (f := fun r => if g r = k then 1 else 0) (lo := 0) (hi := 1) hn (fun r _ _ => by split <;> omega)
  unfold cn; omega
theorem sg_bd {g v : Int → Int} {n k m : Int} (hn : 0 ≤ n) (hm : 0 ≤ m) (hv : ∀ r, 0 ≤ r → r < n → -m ≤ v r ∧ v r ≤ m) : -m * n ≤ sg g n k v ∧ sg g n k v ≤ m * n := by
  exact sI_bd (f := fun r => if g r = k then v r else 0) hn (fun r h0 h1 => by have := hv r h0 h1; split <;> omega)
/-- a Grouping at cell o holds the labels g of n ROWS, m GROUPS -/
def Gr (c : qC) (o : Nat) (n : Int) (g : Int → Int) (m : Int) : Prop := c o 2 = n ∧ c o 3 = m ∧ (0 ≤ n ∧ n ≤ 30) ∧ (0 ≤ m ∧ m ≤ 30) ∧ (∀ r, 0 ≤ r → r < n → c (o + 1) r = g r ∧ -1 ≤ g r ∧ g r < m) ∧ (∀ k, 0 ≤ k → k < m → c (o + 2) k = cn g n k)
theorem Gr.fr {c c' : qC} {o : Nat} {n m : Int} {g : Int → Int} (h : Gr c o n g m) (h0 : c' o = c o) (h1 : c' (o + 1) = c (o + 1)) (h2 : c' (o + 2) = c (o + 2)) : Gr c' o n g m := by
  unfold Gr at h ⊢
  rw [h0, h1, h2]
  exact h
/-- the sum of squares from the MEAN of GROUP k, times its size -/
def sq (wd : Int) (N : Int → Int → Int) (g : Int → Int) (n k : Int) : Int := sI (fun x => cn g n k * sg g n k (fun r => N r x * N r x) - sg g n k (fun r => N r x) * sg g n k (fun r => N r x)) wd
set_option maxHeartbeats 4000000 in
set_option maxRecDepth 100000 in
theorem k_X3_isEmpty_5 (c : qC) (m : Int) (hm : c 5 3 = m) (m0 : iR m) : qN X3_isEmpty 0 [qP 5] c (pI (fun z c' => c' = c ∧ ((z = 1 ∧ m = -1) ∨ (z = 0 ∧ ¬ m = -1)))) := by
  refine qN.of [some (qP 5)] (by decide) rfl (fun _ => rfl) (fun _ => Nat.le_of_ble_eq_true rfl) ?_
  refine g_aload_n (i := 0) dX3_isEmpty_0 rfl rfl ?_
  refine g_getI (ji := 3) dX3_isEmpty_1 fl3_22 (by first | rfl | assumption) (by first | decide | (show _ < 62; omega)) (by first | rfl | assumption) (by decide) rfl (by first | assumption | rfl) ?_
  refine g_iconst dX3_isEmpty_4 ?_
  refine g_icmp_ne 12 dX3_isEmpty_5 (by decide) (fun b5 => ?_) (fun b5 => ?_)
  · skip
    refine g_iconst dX3_isEmpty_12 ?_
    exact n_retz dX3_isEmpty_13 rfl (by first | exact Or.inl rfl | exact Or.inr rfl | assumption | omega) (⟨rfl, by omega⟩)
  · skip
    refine g_iconst dX3_isEmpty_8 ?_
    refine g_goto 13 dX3_isEmpty_9 (by decide) ?_
    exact n_retz dX3_isEmpty_13 rfl (by first | exact Or.inl rfl | exact Or.inr rfl | assumption | omega) (⟨rfl, by omega⟩)
set_option maxHeartbeats 4000000 in
set_option maxRecDepth 100000 in
theorem k_X3_fill_5 (c : qC) (q : Nat) (n m : Int) (g : Int → Int) (hq : LAY q = .inl (0, 30)) (q1 : q < 62) (q2 : q ≠ 5 ∧ q ≠ 6 ∧ q ≠ 7) (n0 : 0 ≤ n ∧ n ≤ 30) (m0 : 0 ≤ m ∧ m ≤ 30) (hg : ∀ r, 0 ≤ r → r < n → c q r = g r ∧ -1 ≤ g r ∧ g r < m) : qN X3_fill 1 [qP 5, qP q, qI n, qI m] c (pV (fun c' => Gr c' 5 n g m ∧ ∀ k, k ≠ 5 → k ≠ 6 → k ≠ 7 → c' k = c k)) := by
  refine qN.of [some (qP 5), some (qP q), some (qI n), some (qI m), none] (by decide) rfl (fun _ => rfl) (fun _ => Nat.le_of_ble_eq_true rfl) ?_
  refine g_aload_n (i := 0) dX3_fill_0 rfl rfl ?_
  refine g_iload_n (i := 2) dX3_fill_1 rfl rfl ?_
  refine g_putI 2 dX3_fill_2 fl3_18 fw3_2 (by first | rfl | assumption) (by first | decide | (show _ < 62; omega)) (by first | rfl | assumption) (by decide) rfl ?_
  refine g_aload_n (i := 0) dX3_fill_5 rfl rfl ?_
  refine g_iload_n (i := 3) dX3_fill_6 rfl rfl ?_
  refine g_putI 3 dX3_fill_7 fl3_22 fw3_3 (by first | rfl | assumption) (by first | decide | (show _ < 62; omega)) (by first | rfl | assumption) (by decide) rfl ?_
  refine g_iconst dX3_fill_10 ?_
  refine g_istore4 dX3_fill_11 rfl ?_
  have L13 : ∀ (fu13 : Nat) (x : Int) (c1 : qC), (m - x).toNat < fu13 → (0 ≤ x) → (x ≤ m) → (c1 5 2 = n) → (c1 5 3 = m) → (∀ k, k ≠ 5 → k ≠ 6 → k ≠ 7 → c1 k = c k) → (∀ k, 0 ≤ k → k < x → c1 7 k = 0) → qG (qYn X3_fill 1 (pV (fun c' => Gr c' 5 n g m ∧ ∀ k, k ≠ 5 → k ≠ 6 → k ≠ 7 → c' k = c k))) wN 13 [some (qP 5), some (qP q), some (qI n), some (qI m), some (qI x)] [] c1 := by
    intro fu13
    induction fu13 with
    | zero => intro x c1 hm; exact absurd hm (Nat.not_lt_zero _)
    | succ fu13 ih13 =>
      intro x c1 hm13 x0 x1 f1 f2 ff fz
      refine g_iload dX3_fill_13 rfl ?_
      refine g_aload_n (i := 0) dX3_fill_15 rfl rfl ?_
      refine g_getI (ji := 3) dX3_fill_16 fl3_22 (by first | rfl | assumption) (by first | decide | (show _ < 62; omega)) (by first | rfl | assumption) (by decide) rfl (by first | assumption | rfl) ?_
      refine g_icmp_ge 36 dX3_fill_19 (by decide) (fun b19 => ?_) (fun b19 => ?_)
      · skip
        refine g_iconst dX3_fill_36 ?_
        refine g_istore4 dX3_fill_37 rfl ?_
        have L39 : ∀ (fu39 : Nat) (x : Int) (c2 : qC), (n - x).toNat < fu39 → (0 ≤ x) → (x ≤ n) → (c2 5 2 = n) → (c2 5 3 = m) → (∀ k, k ≠ 5 → k ≠ 6 → k ≠ 7 → c2 k = c k) → (∀ r, 0 ≤ r → r < x → c2 6 r = g r) → (∀ k, 0 ≤ k → k < m → c2 7 k = cn g x k) → qG (qYn X3_fill 1 (pV (fun c' => Gr c' 5 n g m ∧ ∀ k, k ≠ 5 → k ≠ 6 → k ≠ 7 → c' k = c k))) wN 39 [some (qP 5), some (qP q), some (qI n), some (qI m), some (qI x)] [] c2 := by
          intro fu39
          induction fu39 with
          | zero => intro x c2 hm; exact absurd hm (Nat.not_lt_zero _)
          | succ fu39 ih39 =>
            intro x c2 hm39 y0 y1 e1 e2 ef eg es
            have hqc : c2 q = c q := ef q q2.1 q2.2.1 q2.2.2
            refine g_iload dX3_fill_39 rfl ?_
            refine g_aload_n (i := 0) dX3_fill_41 rfl rfl ?_
            refine g_getI (ji := 2) dX3_fill_42 fl3_18 (by first | rfl | assumption) (by first | decide | (show _ < 62; omega)) (by first | rfl | assumption) (by decide) rfl (by first | assumption | rfl) ?_
            refine g_icmp_ge 86 dX3_fill_45 (by decide) (fun b45 => ?_) (fun b45 => ?_)
            · skip
              exact n_retv dX3_fill_86 rfl (⟨⟨e1, e2, n0, m0, fun r r0 r1 => ⟨eg r r0 (by omega), (hg r r0 r1).2⟩, fun k k0 k1 => by rw [es k k0 k1, show x = n by omega]⟩, ef⟩)
            · skip
              have hgx := hg x y0 (by omega)
              have hqcx : ∀ v, qu c2 6 x v q x = g x := fun v => by rw [qu_ne q2.2.1, hqc]; exact hgx.1
              refine g_aload_n (i := 0) dX3_fill_48 rfl rfl ?_
              refine g_getP dX3_fill_49 fl3_9 (by first | rfl | assumption) (by first | decide | (show _ < 62; omega)) (by first | rfl | assumption) ?_
              refine g_iload dX3_fill_52 rfl ?_
              refine g_aload_n (i := 1) dX3_fill_54 rfl rfl ?_
              refine g_iload dX3_fill_55 rfl ?_
              refine g_iaload dX3_fill_57 hq q1 ?_
              refine g_iastore dX3_fill_58 (by first | rfl | assumption) (by first | decide | (show _ < 62; omega)) ?_
              refine g_aload_n (i := 1) dX3_fill_59 rfl rfl ?_
              refine g_iload dX3_fill_60 rfl ?_
              refine g_iaload dX3_fill_62 hq q1 ?_
              rw [hqcx]
              refine g_iconst dX3_fill_63 ?_
              refine g_icmp_eq 80 dX3_fill_64 (by decide) (fun b64 => ?_) (fun b64 => ?_)
              · skip
                refine g_iinc4 dX3_fill_80 rfl ?_
                refine g_goto 39 dX3_fill_83 (by decide) ?_
                exact ih39 _ _ (by omega) (by first | assumption | omega) (by first | assumption | omega) e1 e2 (fun k k1 k2 k3 => by first | (rw [qu_ne k3, qu_ne k2]; exact ef k k1 k2 k3) | (rw [qu_ne k2]; exact ef k k1 k2 k3)) (fun r r0 r1 => by
              first
                | (show qu c2 6 x _ 6 r = g r
                   rw [qu_at]
                   split
                   · rename_i h; rw [h, hqc]; exact hgx.1
                   · exact eg r r0 (by omega))) (fun k k0 k1 => by
              have hs := sI_s (f := fun r => if g r = k then 1 else 0) y0
              have hes := es k k0 k1
              unfold cn at hes ⊢
              rw [hs]
              first
                | (rw [qu_at]
                   split
                   · rename_i h
                     rw [if_pos h.symm, ← hes, h]; rfl
                   · rename_i h
                     rw [if_neg (fun e => h e.symm), ← hes]
                     show c2 7 k = c2 7 k + 0
                     omega)
                | (rw [if_neg (by omega), ← hes]
                   show c2 7 k = c2 7 k + 0
                   omega))
              · skip
                refine g_aload_n (i := 0) dX3_fill_67 rfl rfl ?_
                refine g_getP dX3_fill_68 fl3_15 (by first | rfl | assumption) (by first | decide | (show _ < 62; omega)) (by first | rfl | assumption) ?_
                refine g_aload_n (i := 1) dX3_fill_71 rfl rfl ?_
                refine g_iload dX3_fill_72 rfl ?_
                refine g_iaload dX3_fill_74 hq q1 ?_
                rw [hqcx]
                have hb64 : ¬ g x = -1 := b64
                first | refine g_dup2 dX3_fill_75 rfl rfl ?_ | refine g_dup2l dX3_fill_75 rfl ?_
                refine g_iaload dX3_fill_76 (by first | rfl | assumption) (by first | decide | (show _ < 62; omega)) ?_
                refine g_iconst dX3_fill_77 ?_
                refine g_iadd dX3_fill_78 ?_
                refine g_iastore dX3_fill_79 (by first | rfl | assumption) (by first | decide | (show _ < 62; omega)) ?_
                refine g_iinc4 dX3_fill_80 rfl ?_
                refine g_goto 39 dX3_fill_83 (by decide) ?_
                exact ih39 _ _ (by omega) (by first | assumption | omega) (by first | assumption | omega) e1 e2 (fun k k1 k2 k3 => by first | (rw [qu_ne k3, qu_ne k2]; exact ef k k1 k2 k3) | (rw [qu_ne k2]; exact ef k k1 k2 k3)) (fun r r0 r1 => by
              first
                | (show qu c2 6 x _ 6 r = g r
                   rw [qu_at]
                   split
                   · rename_i h; rw [h, hqc]; exact hgx.1
                   · exact eg r r0 (by omega))) (fun k k0 k1 => by
              have hs := sI_s (f := fun r => if g r = k then 1 else 0) y0
              have hes := es k k0 k1
              unfold cn at hes ⊢
              rw [hs]
              first
                | (rw [qu_at]
                   split
                   · rename_i h
                     rw [if_pos h.symm, ← hes, h]; rfl
                   · rename_i h
                     rw [if_neg (fun e => h e.symm), ← hes]
                     show c2 7 k = c2 7 k + 0
                     omega)
                | (rw [if_neg (by omega), ← hes]
                   show c2 7 k = c2 7 k + 0
                   omega))
        exact L39 _ _ _ (Nat.lt_succ_self _) (by first | assumption | omega) (by first | assumption | omega) f1 f2 ff (fun r r0 r1 => by omega) (fun k k0 k1 => by rw [fz k k0 (by omega)]; rfl)
      · skip
        refine g_aload_n (i := 0) dX3_fill_22 rfl rfl ?_
        refine g_getP dX3_fill_23 fl3_15 (by first | rfl | assumption) (by first | decide | (show _ < 62; omega)) (by first | rfl | assumption) ?_
        refine g_iload dX3_fill_26 rfl ?_
        refine g_iconst dX3_fill_28 ?_
        refine g_iastore dX3_fill_29 (by first | rfl | assumption) (by first | decide | (show _ < 62; omega)) ?_
        refine g_iinc4 dX3_fill_30 rfl ?_
        refine g_goto 13 dX3_fill_33 (by decide) ?_
        exact ih13 _ _ (by omega) (by first | assumption | omega) (by first | assumption | omega) f1 f2 (fun k k1 k2 k3 => by rw [qu_ne k3]; exact ff k k1 k2 k3) (fun k k0 k1 => by rw [qu_at]; split <;> first | rfl | exact fz k k0 (by omega))
  exact L13 _ _ _ (Nat.lt_succ_self _) (by first | assumption | omega) (by first | assumption | omega) (by rw [qu_off (by decide), qu_eq]) (by rw [qu_eq]) (fun k k1 k2 k3 => by rw [qu_ne k1, qu_ne k1]) (fun k k0 k1 => by omega)
set_option maxHeartbeats 4000000 in
set_option maxRecDepth 100000 in
theorem k_X3_holdsBoth_5 (c : qC) (i j : Int) (i0 : 0 ≤ i) (i1 : i < 30) (j0 : 0 ≤ j) (j1 : j < 30) (ri : iR (c 6 i)) (rj : iR (c 6 j)) : qN X3_holdsBoth 0 [qP 5, qI i, qI j] c (pI (fun z c' => c' = c ∧ ((z = 1 ∧ ¬ c 6 i = -1 ∧ ¬ c 6 j = -1) ∨ (z = 0 ∧ (c 6 i = -1 ∨ c 6 j = -1))))) := by
  refine qN.of [some (qP 5), some (qI i), some (qI j)] (by decide) rfl (fun _ => rfl) (fun _ => Nat.le_of_ble_eq_true rfl) ?_
  refine g_aload_n (i := 0) dX3_holdsBoth_0 rfl rfl ?_
  refine g_getP dX3_holdsBoth_1 fl3_9 (by first | rfl | assumption) (by first | decide | (show _ < 62; omega)) (by first | rfl | assumption) ?_
  refine g_iload_n (i := 1) dX3_holdsBoth_4 rfl rfl ?_
  refine g_iaload dX3_holdsBoth_5 (by first | rfl | assumption) (by first | decide | (show _ < 62; omega)) ?_
  refine g_iconst dX3_holdsBoth_6 ?_
  refine g_icmp_eq 24 dX3_holdsBoth_7 (by decide) (fun b7 => ?_) (fun b7 => ?_)
  · skip
    refine g_iconst dX3_holdsBoth_24 ?_
    exact n_retz dX3_holdsBoth_25 rfl (by first | exact Or.inl rfl | exact Or.inr rfl | assumption | omega) (⟨rfl, by omega⟩)
  · skip
    refine g_aload_n (i := 0) dX3_holdsBoth_10 rfl rfl ?_
    refine g_getP dX3_holdsBoth_11 fl3_9 (by first | rfl | assumption) (by first | decide | (show _ < 62; omega)) (by first | rfl | assumption) ?_
    refine g_iload_n (i := 2) dX3_holdsBoth_14 rfl rfl ?_
    refine g_iaload dX3_holdsBoth_15 (by first | rfl | assumption) (by first | decide | (show _ < 62; omega)) ?_
    refine g_iconst dX3_holdsBoth_16 ?_
    refine g_icmp_eq 24 dX3_holdsBoth_17 (by decide) (fun b17 => ?_) (fun b17 => ?_)
    · skip
      refine g_iconst dX3_holdsBoth_24 ?_
      exact n_retz dX3_holdsBoth_25 rfl (by first | exact Or.inl rfl | exact Or.inr rfl | assumption | omega) (⟨rfl, by omega⟩)
    · skip
      refine g_iconst dX3_holdsBoth_20 ?_
      refine g_goto 25 dX3_holdsBoth_21 (by decide) ?_
      exact n_retz dX3_holdsBoth_25 rfl (by first | exact Or.inl rfl | exact Or.inr rfl | assumption | omega) (⟨rfl, by omega⟩)
set_option maxHeartbeats 4000000 in
set_option maxRecDepth 100000 in
theorem k_X3_total_5 (c : qC) (n wd m : Int) (N : Int → Int → Int) (g : Int → Int) (k x : Int) (hG : Gr c 5 n g m) (hT : Tb c n wd N) (k0 : iR k) (x0 : 0 ≤ x) (x1 : x < wd) : qN X3_total 1 [qP 5, qP 1, qI k, qI x] c (pJ (fun z c' => z = sg g n k (fun r => N r x) ∧ c' = c)) := by
  obtain ⟨g1, g2, g3, g4, g5, g6⟩ := hG
  obtain ⟨t1, t2, t3, t4, t5, t6, t7⟩ := hT
  refine qN.of [some (qP 5), some (qP 1), some (qI k), some (qI x), none, none, none] (by decide) rfl (fun _ => rfl) (fun _ => Nat.le_of_ble_eq_true rfl) ?_
  refine g_lconst (z := 0) dX3_total_0 (by decide) ?_
  refine g_lstore4 dX3_total_1 rfl ?_
  refine g_iconst dX3_total_3 ?_
  refine g_istore6 dX3_total_4 rfl ?_
  have L6 : ∀ (fu6 : Nat) (r a : Int), (n - r).toNat < fu6 → (0 ≤ r) → (r ≤ n) → (a = sg g r k (fun r => N r x)) → qG (qYn X3_total 1 (pJ (fun z c' => z = sg g n k (fun r => N r x) ∧ c' = c))) wN 6 [some (qP 5), some (qP 1), some (qI k), some (qI x), some (qJ a), none, some (qI r)] [] c := by
    intro fu6
    induction fu6 with
    | zero => intro r a hm; exact absurd hm (Nat.not_lt_zero _)
    | succ fu6 ih6 =>
      intro r a hm6 r0 r1 ha
      have hgr := g5 r r0
      refine g_iload dX3_total_6 rfl ?_
      refine g_aload_n (i := 0) dX3_total_8 rfl rfl ?_
      refine g_getI (ji := 2) dX3_total_9 fl3_18 (by first | rfl | assumption) (by first | decide | (show _ < 62; omega)) (by first | rfl | assumption) (by decide) rfl (by first | assumption | rfl) ?_
      refine g_icmp_ge 45 dX3_total_12 (by decide) (fun b12 => ?_) (fun b12 => ?_)
      · skip
        refine g_lload dX3_total_45 rfl ?_
        exact n_retj dX3_total_47 rfl (⟨by rw [ha, show r = n by omega], rfl⟩)
      · skip
        refine g_aload_n (i := 0) dX3_total_15 rfl rfl ?_
        refine g_getP dX3_total_16 fl3_9 (by first | rfl | assumption) (by first | decide | (show _ < 62; omega)) (by first | rfl | assumption) ?_
        refine g_iload dX3_total_19 rfl ?_
        refine g_iaload dX3_total_21 (by first | rfl | assumption) (by decide) ?_
        have hgr2 := hgr (by omega)
        rw [hgr2.1]
        skip -- ?_
        refine g_iload_n (i := 2) dX3_total_22 rfl rfl ?_
        refine g_icmp_ne 39 dX3_total_23 (by decide) (fun b23 => ?_) (fun b23 => ?_)
        · skip
          refine g_iinc6 dX3_total_39 rfl ?_
          refine g_goto 6 dX3_total_42 (by decide) ?_
          exact ih6 _ _ (by omega) (by first | assumption | omega) (by first | assumption | omega) (by unfold sg at ha ⊢; rw [sI_s r0, ha]; first | (rw [if_pos (by omega)]) | (rw [if_neg (by omega)]; omega))
        · skip
          refine g_lload dX3_total_26 rfl ?_
          refine g_aload_n (i := 1) dX3_total_28 rfl rfl ?_
          refine g_iload dX3_total_29 rfl ?_
          refine g_iload_n (i := 3) dX3_total_31 rfl rfl ?_
          refine n_callVi (k_X6_cell _ _ _ (by omega) (by omega) (by omega) (by omega)) dX3_total_32 lk3_25 im_X6_cell (by first | rfl | assumption) (by first | decide | (show _ < 62; omega)) rfl rfl rfl rfl (Nat.le_of_ble_eq_true rfl) (fun z c' hz => ?_)
          obtain ⟨rfl, hz2⟩ := hz
          have hz2 := hz2.symm
          subst hz2
          rw [t5 r x r0 (by omega) x0 x1]
          have hb := t6 r r0 (by omega) x x0 x1
          refine g_i2lx dX3_total_35 ?_
          refine g_ladd dX3_total_36 ?_
          refine g_lstore4 dX3_total_37 rfl ?_
          refine g_iinc6 dX3_total_39 rfl ?_
          refine g_goto 6 dX3_total_42 (by decide) ?_
          exact ih6 _ _ (by omega) (by first | assumption | omega) (by first | assumption | omega) (by unfold sg at ha ⊢; rw [sI_s r0, ha]; first | (rw [if_pos (by omega)]) | (rw [if_neg (by omega)]; omega))
  exact L6 _ _ _ (Nat.lt_succ_self _) (by first | assumption | omega) (by first | assumption | omega) rfl
set_option maxHeartbeats 4000000 in
set_option maxRecDepth 100000 in
theorem k_X3_totalOfSquares_5 (c : qC) (n wd m : Int) (N : Int → Int → Int) (g : Int → Int) (k x : Int) (hG : Gr c 5 n g m) (hT : Tb c n wd N) (k0 : iR k) (x0 : 0 ≤ x) (x1 : x < wd) : qN X3_totalOfSquares 1 [qP 5, qP 1, qI k, qI x] c (pJ (fun z c' => z = sg g n k (fun r => N r x * N r x) ∧ c' = c)) := by
  obtain ⟨g1, g2, g3, g4, g5, g6⟩ := hG
  obtain ⟨t1, t2, t3, t4, t5, t6, t7⟩ := hT
  refine qN.of [some (qP 5), some (qP 1), some (qI k), some (qI x), none, none, none, none, none] (by decide) rfl (fun _ => rfl) (fun _ => Nat.le_of_ble_eq_true rfl) ?_
  refine g_lconst (z := 0) dX3_totalOfSquares_0 (by decide) ?_
  refine g_lstore4 dX3_totalOfSquares_1 rfl ?_
  refine g_iconst dX3_totalOfSquares_3 ?_
  refine g_istore6 dX3_totalOfSquares_4 rfl ?_
  have L6 : ∀ (fu6 : Nat) (r a : Int), (n - r).toNat < fu6 → (0 ≤ r) → (r ≤ n) → (a = sg g r k (fun r => N r x * N r x)) → qG (qYn X3_totalOfSquares 1 (pJ (fun z c' => z = sg g n k (fun r => N r x * N r x) ∧ c' = c))) wN 6 [some (qP 5), some (qP 1), some (qI k), some (qI x), some (qJ a), none, some (qI r), none, none] [] c := by
    intro fu6
    induction fu6 with
    | zero => intro r a hm; exact absurd hm (Nat.not_lt_zero _)
    | succ fu6 ih6 =>
      intro r a hm6 r0 r1 ha
      have hgr := g5 r r0
      refine g_iload dX3_totalOfSquares_6 rfl ?_
      refine g_aload_n (i := 0) dX3_totalOfSquares_8 rfl rfl ?_
      refine g_getI (ji := 2) dX3_totalOfSquares_9 fl3_18 (by first | rfl | assumption) (by first | decide | (show _ < 62; omega)) (by first | rfl | assumption) (by decide) rfl (by first | assumption | rfl) ?_
      refine g_icmp_ge 52 dX3_totalOfSquares_12 (by decide) (fun b12 => ?_) (fun b12 => ?_)
      · skip
        refine g_lload dX3_totalOfSquares_52 rfl ?_
        exact n_retj dX3_totalOfSquares_54 rfl (⟨by rw [ha, show r = n by omega], rfl⟩)
      · skip
        refine g_aload_n (i := 0) dX3_totalOfSquares_15 rfl rfl ?_
        refine g_getP dX3_totalOfSquares_16 fl3_9 (by first | rfl | assumption) (by first | decide | (show _ < 62; omega)) (by first | rfl | assumption) ?_
        refine g_iload dX3_totalOfSquares_19 rfl ?_
        refine g_iaload dX3_totalOfSquares_21 (by first | rfl | assumption) (by decide) ?_
        have hgr2 := hgr (by omega)
        rw [hgr2.1]
        skip -- ?_
        refine g_iload_n (i := 2) dX3_totalOfSquares_22 rfl rfl ?_
        refine g_icmp_ne 46 dX3_totalOfSquares_23 (by decide) (fun b23 => ?_) (fun b23 => ?_)
        · skip
          refine g_iinc6 dX3_totalOfSquares_46 rfl ?_
          refine g_goto 6 dX3_totalOfSquares_49 (by decide) ?_
          exact ih6 _ _ (by omega) (by first | assumption | omega) (by first | assumption | omega) (by unfold sg at ha ⊢; rw [sI_s r0, ha]; first | (rw [if_pos (by omega)]) | (rw [if_neg (by omega)]; omega))
        · skip
          refine g_aload_n (i := 1) dX3_totalOfSquares_26 rfl rfl ?_
          refine g_iload dX3_totalOfSquares_27 rfl ?_
          refine g_iload_n (i := 3) dX3_totalOfSquares_29 rfl rfl ?_
          refine n_callVi (k_X6_cell _ _ _ (by omega) (by omega) (by omega) (by omega)) dX3_totalOfSquares_30 lk3_25 im_X6_cell (by first | rfl | assumption) (by first | decide | (show _ < 62; omega)) rfl rfl rfl rfl (Nat.le_of_ble_eq_true rfl) (fun z c' hz => ?_)
          obtain ⟨rfl, hz2⟩ := hz
          have hz2 := hz2.symm
          subst hz2
          rw [t5 r x r0 (by omega) x0 x1]
          have hb := t6 r r0 (by omega) x x0 x1
          refine g_i2lx dX3_totalOfSquares_33 ?_
          refine g_lstore7 dX3_totalOfSquares_34 rfl ?_
          refine g_lload dX3_totalOfSquares_36 rfl ?_
          refine g_lload dX3_totalOfSquares_38 rfl ?_
          refine g_lload dX3_totalOfSquares_40 rfl ?_
          refine g_lmul dX3_totalOfSquares_42 ?_
          refine g_ladd dX3_totalOfSquares_43 ?_
          refine g_lstore4 dX3_totalOfSquares_44 rfl ?_
          refine g_iinc6 dX3_totalOfSquares_46 rfl ?_
          refine g_goto 6 dX3_totalOfSquares_49 (by decide) ?_
          refine g_fg7 ?_
          exact ih6 _ _ (by omega) (by first | assumption | omega) (by first | assumption | omega) (by unfold sg at ha ⊢; rw [sI_s r0, ha]; first | (rw [if_pos (by omega)]) | (rw [if_neg (by omega)]; omega))
  exact L6 _ _ _ (Nat.lt_succ_self _) (by first | assumption | omega) (by first | assumption | omega) rfl
set_option maxHeartbeats 4000000 in
set_option maxRecDepth 100000 in
theorem k_X3_distancesTo_5 (c : qC) (n wd m : Int) (N : Int → Int → Int) (g : Int → Int) (kd i k : Int) (hG : Gr c 5 n g m) (hT : Tb c n wd N) (k0 : iR k) (d0 : 0 ≤ kd) (d1 : kd < 3) (i0 : 0 ≤ i) (i1 : i < n) : qN X3_distancesTo 2 [qP 5, qP 1, qI kd, qI i, qI k] c (pJ (fun z c' => z = sg g n k (fun r => ds wd N kd i r) ∧ c' = c)) := by
  have hT0 := hT
  obtain ⟨g1, g2, g3, g4, g5, g6⟩ := hG
  obtain ⟨t1, t2, t3, t4, t5, t6, t7⟩ := hT
  refine qN.of [some (qP 5), some (qP 1), some (qI kd), some (qI i), some (qI k), none, none, none] (by decide) rfl (fun _ => rfl) (fun _ => Nat.le_of_ble_eq_true rfl) ?_
  refine g_lconst (z := 0) dX3_distancesTo_0 (by decide) ?_
  refine g_lstore5 dX3_distancesTo_1 rfl ?_
  refine g_iconst dX3_distancesTo_3 ?_
  refine g_istore7 dX3_distancesTo_4 rfl ?_
  have L6 : ∀ (fu6 : Nat) (r a : Int), (n - r).toNat < fu6 → (0 ≤ r) → (r ≤ n) → (a = sg g r k (fun r => ds wd N kd i r)) → qG (qYn X3_distancesTo 2 (pJ (fun z c' => z = sg g n k (fun r => ds wd N kd i r) ∧ c' = c))) wN 6 [some (qP 5), some (qP 1), some (qI kd), some (qI i), some (qI k), some (qJ a), none, some (qI r)] [] c := by
    intro fu6
    induction fu6 with
    | zero => intro r a hm; exact absurd hm (Nat.not_lt_zero _)
    | succ fu6 ih6 =>
      intro r a hm6 r0 r1 ha
      have hgr := g5 r r0
      refine g_iload dX3_distancesTo_6 rfl ?_
      refine g_aload_n (i := 0) dX3_distancesTo_8 rfl rfl ?_
      refine g_getI (ji := 2) dX3_distancesTo_9 fl3_18 (by first | rfl | assumption) (by first | decide | (show _ < 62; omega)) (by first | rfl | assumption) (by decide) rfl (by first | assumption | rfl) ?_
      refine g_icmp_ge 47 dX3_distancesTo_12 (by decide) (fun b12 => ?_) (fun b12 => ?_)
      · skip
        refine g_lload dX3_distancesTo_47 rfl ?_
        exact n_retj dX3_distancesTo_49 rfl (⟨by rw [ha, show r = n by omega], rfl⟩)
      · skip
        refine g_aload_n (i := 0) dX3_distancesTo_15 rfl rfl ?_
        refine g_getP dX3_distancesTo_16 fl3_9 (by first | rfl | assumption) (by first | decide | (show _ < 62; omega)) (by first | rfl | assumption) ?_
        refine g_iload dX3_distancesTo_19 rfl ?_
        refine g_iaload dX3_distancesTo_21 (by first | rfl | assumption) (by decide) ?_
        have hgr2 := hgr (by omega)
        rw [hgr2.1]
        skip -- ?_
        refine g_iload dX3_distancesTo_22 rfl ?_
        refine g_icmp_ne 41 dX3_distancesTo_24 (by decide) (fun b24 => ?_) (fun b24 => ?_)
        · skip
          refine g_iinc7 dX3_distancesTo_41 rfl ?_
          refine g_goto 6 dX3_distancesTo_44 (by decide) ?_
          exact ih6 _ _ (by omega) (by first | assumption | omega) (by first | assumption | omega) (by unfold sg at ha ⊢; rw [sI_s r0, ha]; first | (rw [if_pos (by omega)]) | (rw [if_neg (by omega)]; omega))
        · skip
          refine g_lload dX3_distancesTo_27 rfl ?_
          refine g_aload_n (i := 1) dX3_distancesTo_29 rfl rfl ?_
          refine g_iload_n (i := 2) dX3_distancesTo_30 rfl rfl ?_
          refine g_iload_n (i := 3) dX3_distancesTo_31 rfl rfl ?_
          refine g_iload dX3_distancesTo_32 rfl ?_
          refine n_callVi (k_X6_apart _ _ _ _ (by omega) (by omega) (by omega) (by omega) (by omega) (by omega)) dX3_distancesTo_34 lk3_41 im_X6_apart (by first | rfl | assumption) (by first | decide | (show _ < 62; omega)) rfl rfl rfl rfl (Nat.le_of_ble_eq_true rfl) (fun z c' hz => ?_)
          obtain ⟨rfl, hz2⟩ := hz
          have hz2 := hz2.symm
          subst hz2
          rw [t7 kd i r d0 d1 i0 i1 r0 (by omega)]
          have hb := hT0.bd (kd := kd) i0 i1 r0 (by omega)
          refine g_i2lx dX3_distancesTo_37 ?_
          refine g_ladd dX3_distancesTo_38 ?_
          refine g_lstore5 dX3_distancesTo_39 rfl ?_
          refine g_iinc7 dX3_distancesTo_41 rfl ?_
          refine g_goto 6 dX3_distancesTo_44 (by decide) ?_
          exact ih6 _ _ (by omega) (by first | assumption | omega) (by first | assumption | omega) (by unfold sg at ha ⊢; rw [sI_s r0, ha]; first | (rw [if_pos (by omega)]) | (rw [if_neg (by omega)]; omega))
  exact L6 _ _ _ (Nat.lt_succ_self _) (by first | assumption | omega) (by first | assumption | omega) rfl
set_option maxHeartbeats 4000000 in
set_option maxRecDepth 100000 in
theorem k_X3_squaresTimesSize_5 (c : qC) (n wd m : Int) (N : Int → Int → Int) (g : Int → Int) (k : Int) (hG : Gr c 5 n g m) (hT : Tb c n wd N) (k0 : 0 ≤ k) (k1 : k < m) : qN X3_squaresTimesSize 2 [qP 5, qP 1, qI k] c (pJ (fun z c' => z = sq wd N g n k ∧ c' = c)) := by
  have hT0 := hT
  have hG0 := hG
  obtain ⟨g1, g2, g3, g4, g5, g6⟩ := hG
  obtain ⟨t1, t2, t3, t4, t5, t6, t7⟩ := hT
  have hcb := cn_bd (g := g) (k := k) g3.1
  refine qN.of [some (qP 5), some (qP 1), some (qI k), none, none, none, none, none] (by decide) rfl (fun _ => rfl) (fun _ => Nat.le_of_ble_eq_true rfl) ?_
  refine g_lconst (z := 0) dX3_squaresTimesSize_0 (by decide) ?_
  refine g_lstore_n3 dX3_squaresTimesSize_1 rfl ?_
  refine g_iconst dX3_squaresTimesSize_2 ?_
  refine g_istore5 dX3_squaresTimesSize_3 rfl ?_
  have L5 : ∀ (fu5 : Nat) (x a : Int), (wd - x).toNat < fu5 → (0 ≤ x) → (x ≤ wd) → (a = sI (fun x => cn g n k * sg g n k (fun r => N r x * N r x) - sg g n k (fun r => N r x) * sg g n k (fun r => N r x)) x) → qG (qYn X3_squaresTimesSize 2 (pJ (fun z c' => z = sq wd N g n k ∧ c' = c))) wN 5 [some (qP 5), some (qP 1), some (qI k), some (qJ a), none, some (qI x), none, none] [] c := by
    intro fu5
    induction fu5 with
    | zero => intro x a hm; exact absurd hm (Nat.not_lt_zero _)
    | succ fu5 ih5 =>
      intro x a hm5 x0 x1 ha
      refine g_iload dX3_squaresTimesSize_5 rfl ?_
      refine g_aload_n (i := 1) dX3_squaresTimesSize_7 rfl rfl ?_
      refine g_getI (ji := 2) dX3_squaresTimesSize_8 fl3_31 (by first | rfl | assumption) (by first | decide | (show _ < 62; omega)) (by first | rfl | assumption) (by decide) rfl (by first | assumption | rfl) ?_
      refine g_icmp_ge 55 dX3_squaresTimesSize_11 (by decide) (fun b11 => ?_) (fun b11 => ?_)
      · skip
        refine g_lload_n (i := 3) dX3_squaresTimesSize_55 rfl rfl ?_
        exact n_retj dX3_squaresTimesSize_56 rfl (⟨by rw [ha, show x = wd by omega]; rfl, rfl⟩)
      · skip
        refine g_aload_n (i := 0) dX3_squaresTimesSize_14 rfl rfl ?_
        refine g_aload_n (i := 1) dX3_squaresTimesSize_15 rfl rfl ?_
        refine g_iload_n (i := 2) dX3_squaresTimesSize_16 rfl rfl ?_
        refine g_iload dX3_squaresTimesSize_17 rfl ?_
        refine n_callVj (k_X3_total_5 _ n wd m N g _ _ hG0 hT0 (by omega) (by omega) (by omega)) dX3_squaresTimesSize_19 lk3_34 im_X3_total (by first | rfl | assumption) (by first | decide | (show _ < 62; omega)) rfl rfl rfl rfl (Nat.le_of_ble_eq_true rfl) (fun z c' hz => ?_)
        obtain ⟨rfl, hz2⟩ := hz
        have hz2 := hz2.symm
        subst hz2
        refine g_lstore6 dX3_squaresTimesSize_22 rfl ?_
        refine g_lload_n (i := 3) dX3_squaresTimesSize_24 rfl rfl ?_
        refine g_aload_n (i := 0) dX3_squaresTimesSize_25 rfl rfl ?_
        refine g_getP dX3_squaresTimesSize_26 fl3_15 (by first | rfl | assumption) (by first | decide | (show _ < 62; omega)) (by first | rfl | assumption) ?_
        refine g_iload_n (i := 2) dX3_squaresTimesSize_29 rfl rfl ?_
        refine g_iaload dX3_squaresTimesSize_30 (by first | rfl | assumption) (by decide) ?_
        rw [g6 k k0 k1]
        skip -- ?_
        refine g_i2lx dX3_squaresTimesSize_31 ?_
        refine g_aload_n (i := 0) dX3_squaresTimesSize_32 rfl rfl ?_
        refine g_aload_n (i := 1) dX3_squaresTimesSize_33 rfl rfl ?_
        refine g_iload_n (i := 2) dX3_squaresTimesSize_34 rfl rfl ?_
        refine g_iload dX3_squaresTimesSize_35 rfl ?_
        refine n_callVj (k_X3_totalOfSquares_5 _ n wd m N g _ _ hG0 hT0 (by omega) (by omega) (by omega)) dX3_squaresTimesSize_37 lk3_38 im_X3_totalOfSquares (by first | rfl | assumption) (by first | decide | (show _ < 62; omega)) rfl rfl rfl rfl (Nat.le_of_ble_eq_true rfl) (fun z c' hz => ?_)
        obtain ⟨rfl, hz2⟩ := hz
        have hz2 := hz2.symm
        subst hz2
        refine g_lmul dX3_squaresTimesSize_40 ?_
        refine g_lload dX3_squaresTimesSize_41 rfl ?_
        refine g_lload dX3_squaresTimesSize_43 rfl ?_
        refine g_lmul dX3_squaresTimesSize_45 ?_
        refine g_lsub dX3_squaresTimesSize_46 ?_
        refine g_ladd dX3_squaresTimesSize_47 ?_
        refine g_lstore_n3 dX3_squaresTimesSize_48 rfl ?_
        refine g_iinc5 dX3_squaresTimesSize_49 rfl ?_
        refine g_goto 5 dX3_squaresTimesSize_52 (by decide) ?_
        refine g_fg6 ?_
        exact ih5 _ _ (by omega) (by first | assumption | omega) (by first | assumption | omega) (by rw [sI_s x0, ha])
  exact L5 _ _ _ (Nat.lt_succ_self _) (by first | assumption | omega) (by first | assumption | omega) rfl
set_option maxHeartbeats 4000000 in
set_option maxRecDepth 100000 in
theorem k_X3_isEmpty_8 (c : qC) (m : Int) (hm : c 8 3 = m) (m0 : iR m) : qN X3_isEmpty 0 [qP 8] c (pI (fun z c' => c' = c ∧ ((z = 1 ∧ m = -1) ∨ (z = 0 ∧ ¬ m = -1)))) := by
  refine qN.of [some (qP 8)] (by decide) rfl (fun _ => rfl) (fun _ => Nat.le_of_ble_eq_true rfl) ?_
  refine g_aload_n (i := 0) dX3_isEmpty_0 rfl rfl ?_
  refine g_getI (ji := 3) dX3_isEmpty_1 fl3_22 (by first | rfl | assumption) (by first | decide | (show _ < 62; omega)) (by first | rfl | assumption) (by decide) rfl (by first | assumption | rfl) ?_
  refine g_iconst dX3_isEmpty_4 ?_
  refine g_icmp_ne 12 dX3_isEmpty_5 (by decide) (fun b5 => ?_) (fun b5 => ?_)
  · skip
    refine g_iconst dX3_isEmpty_12 ?_
    exact n_retz dX3_isEmpty_13 rfl (by first | exact Or.inl rfl | exact Or.inr rfl | assumption | omega) (⟨rfl, by omega⟩)
  · skip
    refine g_iconst dX3_isEmpty_8 ?_
    refine g_goto 13 dX3_isEmpty_9 (by decide) ?_
    exact n_retz dX3_isEmpty_13 rfl (by first | exact Or.inl rfl | exact Or.inr rfl | assumption | omega) (⟨rfl, by omega⟩)
set_option maxHeartbeats 4000000 in
set_option maxRecDepth 100000 in
theorem k_X3_fill_8 (c : qC) (q : Nat) (n m : Int) (g : Int → Int) (hq : LAY q = .inl (0, 30)) (q1 : q < 62) (q2 : q ≠ 8 ∧ q ≠ 9 ∧ q ≠ 10) (n0 : 0 ≤ n ∧ n ≤ 30) (m0 : 0 ≤ m ∧ m ≤ 30) (hg : ∀ r, 0 ≤ r → r < n → c q r = g r ∧ -1 ≤ g r ∧ g r < m) : qN X3_fill 1 [qP 8, qP q, qI n, qI m] c (pV (fun c' => Gr c' 8 n g m ∧ ∀ k, k ≠ 8 → k ≠ 9 → k ≠ 10 → c' k = c k)) := by
  refine qN.of [some (qP 8), some (qP q), some (qI n), some (qI m), none] (by decide) rfl (fun _ => rfl) (fun _ => Nat.le_of_ble_eq_true rfl) ?_
  refine g_aload_n (i := 0) dX3_fill_0 rfl rfl ?_
  refine g_iload_n (i := 2) dX3_fill_1 rfl rfl ?_
  refine g_putI 2 dX3_fill_2 fl3_18 fw3_2 (by first | rfl | assumption) (by first | decide | (show _ < 62; omega)) (by first | rfl | assumption) (by decide) rfl ?_
  refine g_aload_n (i := 0) dX3_fill_5 rfl rfl ?_
  refine g_iload_n (i := 3) dX3_fill_6 rfl rfl ?_
  refine g_putI 3 dX3_fill_7 fl3_22 fw3_3 (by first | rfl | assumption) (by first | decide | (show _ < 62; omega)) (by first | rfl | assumption) (by decide) rfl ?_
  refine g_iconst dX3_fill_10 ?_
  refine g_istore4 dX3_fill_11 rfl ?_
  have L13 : ∀ (fu13 : Nat) (x : Int) (c1 : qC), (m - x).toNat < fu13 → (0 ≤ x) → (x ≤ m) → (c1 8 2 = n) → (c1 8 3 = m) → (∀ k, k ≠ 8 → k ≠ 9 → k ≠ 10 → c1 k = c k) → (∀ k, 0 ≤ k → k < x → c1 10 k = 0) → qG (qYn X3_fill 1 (pV (fun c' => Gr c' 8 n g m ∧ ∀ k, k ≠ 8 → k ≠ 9 → k ≠ 10 → c' k = c k))) wN 13 [some (qP 8), some (qP q), some (qI n), some (qI m), some (qI x)] [] c1 := by
    intro fu13
    induction fu13 with
    | zero => intro x c1 hm; exact absurd hm (Nat.not_lt_zero _)
    | succ fu13 ih13 =>
      intro x c1 hm13 x0 x1 f1 f2 ff fz
      refine g_iload dX3_fill_13 rfl ?_
      refine g_aload_n (i := 0) dX3_fill_15 rfl rfl ?_
      refine g_getI (ji := 3) dX3_fill_16 fl3_22 (by first | rfl | assumption) (by first | decide | (show _ < 62; omega)) (by first | rfl | assumption) (by decide) rfl (by first | assumption | rfl) ?_
      refine g_icmp_ge 36 dX3_fill_19 (by decide) (fun b19 => ?_) (fun b19 => ?_)
      · skip
        refine g_iconst dX3_fill_36 ?_
        refine g_istore4 dX3_fill_37 rfl ?_
        have L39 : ∀ (fu39 : Nat) (x : Int) (c2 : qC), (n - x).toNat < fu39 → (0 ≤ x) → (x ≤ n) → (c2 8 2 = n) → (c2 8 3 = m) → (∀ k, k ≠ 8 → k ≠ 9 → k ≠ 10 → c2 k = c k) → (∀ r, 0 ≤ r → r < x → c2 9 r = g r) → (∀ k, 0 ≤ k → k < m → c2 10 k = cn g x k) → qG (qYn X3_fill 1 (pV (fun c' => Gr c' 8 n g m ∧ ∀ k, k ≠ 8 → k ≠ 9 → k ≠ 10 → c' k = c k))) wN 39 [some (qP 8), some (qP q), some (qI n), some (qI m), some (qI x)] [] c2 := by
          intro fu39
          induction fu39 with
          | zero => intro x c2 hm; exact absurd hm (Nat.not_lt_zero _)
          | succ fu39 ih39 =>
            intro x c2 hm39 y0 y1 e1 e2 ef eg es
            have hqc : c2 q = c q := ef q q2.1 q2.2.1 q2.2.2
            refine g_iload dX3_fill_39 rfl ?_
            refine g_aload_n (i := 0) dX3_fill_41 rfl rfl ?_
            refine g_getI (ji := 2) dX3_fill_42 fl3_18 (by first | rfl | assumption) (by first | decide | (show _ < 62; omega)) (by first | rfl | assumption) (by decide) rfl (by first | assumption | rfl) ?_
            refine g_icmp_ge 86 dX3_fill_45 (by decide) (fun b45 => ?_) (fun b45 => ?_)
            · skip
              exact n_retv dX3_fill_86 rfl (⟨⟨e1, e2, n0, m0, fun r r0 r1 => ⟨eg r r0 (by omega), (hg r r0 r1).2⟩, fun k k0 k1 => by rw [es k k0 k1, show x = n by omega]⟩, ef⟩)
            · skip
              have hgx := hg x y0 (by omega)
              have hqcx : ∀ v, qu c2 9 x v q x = g x := fun v => by rw [qu_ne q2.2.1, hqc]; exact hgx.1
              refine g_aload_n (i := 0) dX3_fill_48 rfl rfl ?_
              refine g_getP dX3_fill_49 fl3_9 (by first | rfl | assumption) (by first | decide | (show _ < 62; omega)) (by first | rfl | assumption) ?_
              refine g_iload dX3_fill_52 rfl ?_
              refine g_aload_n (i := 1) dX3_fill_54 rfl rfl ?_
              refine g_iload dX3_fill_55 rfl ?_
              refine g_iaload dX3_fill_57 hq q1 ?_
              refine g_iastore dX3_fill_58 (by first | rfl | assumption) (by first | decide | (show _ < 62; omega)) ?_
              refine g_aload_n (i := 1) dX3_fill_59 rfl rfl ?_
              refine g_iload dX3_fill_60 rfl ?_
              refine g_iaload dX3_fill_62 hq q1 ?_
              rw [hqcx]
              refine g_iconst dX3_fill_63 ?_
              refine g_icmp_eq 80 dX3_fill_64 (by decide) (fun b64 => ?_) (fun b64 => ?_)
              · skip
                refine g_iinc4 dX3_fill_80 rfl ?_
                refine g_goto 39 dX3_fill_83 (by decide) ?_
                exact ih39 _ _ (by omega) (by first | assumption | omega) (by first | assumption | omega) e1 e2 (fun k k1 k2 k3 => by first | (rw [qu_ne k3, qu_ne k2]; exact ef k k1 k2 k3) | (rw [qu_ne k2]; exact ef k k1 k2 k3)) (fun r r0 r1 => by
              first
                | (show qu c2 9 x _ 9 r = g r
                   rw [qu_at]
                   split
                   · rename_i h; rw [h, hqc]; exact hgx.1
                   · exact eg r r0 (by omega))) (fun k k0 k1 => by
              have hs := sI_s (f := fun r => if g r = k then 1 else 0) y0
              have hes := es k k0 k1
              unfold cn at hes ⊢
              rw [hs]
              first
                | (rw [qu_at]
                   split
                   · rename_i h
                     rw [if_pos h.symm, ← hes, h]; rfl
                   · rename_i h
                     rw [if_neg (fun e => h e.symm), ← hes]
                     show c2 10 k = c2 10 k + 0
                     omega)
                | (rw [if_neg (by omega), ← hes]
                   show c2 10 k = c2 10 k + 0
                   omega))
              · skip
                refine g_aload_n (i := 0) dX3_fill_67 rfl rfl ?_
                refine g_getP dX3_fill_68 fl3_15 (by first | rfl | assumption) (by first | decide | (show _ < 62; omega)) (by first | rfl | assumption) ?_
                refine g_aload_n (i := 1) dX3_fill_71 rfl rfl ?_
                refine g_iload dX3_fill_72 rfl ?_
                refine g_iaload dX3_fill_74 hq q1 ?_
                rw [hqcx]
                have hb64 : ¬ g x = -1 := b64
                first | refine g_dup2 dX3_fill_75 rfl rfl ?_ | refine g_dup2l dX3_fill_75 rfl ?_
                refine g_iaload dX3_fill_76 (by first | rfl | assumption) (by first | decide | (show _ < 62; omega)) ?_
                refine g_iconst dX3_fill_77 ?_
                refine g_iadd dX3_fill_78 ?_
                refine g_iastore dX3_fill_79 (by first | rfl | assumption) (by first | decide | (show _ < 62; omega)) ?_
                refine g_iinc4 dX3_fill_80 rfl ?_
                refine g_goto 39 dX3_fill_83 (by decide) ?_
                exact ih39 _ _ (by omega) (by first | assumption | omega) (by first | assumption | omega) e1 e2 (fun k k1 k2 k3 => by first | (rw [qu_ne k3, qu_ne k2]; exact ef k k1 k2 k3) | (rw [qu_ne k2]; exact ef k k1 k2 k3)) (fun r r0 r1 => by
              first
                | (show qu c2 9 x _ 9 r = g r
                   rw [qu_at]
                   split
                   · rename_i h; rw [h, hqc]; exact hgx.1
                   · exact eg r r0 (by omega))) (fun k k0 k1 => by
              have hs := sI_s (f := fun r => if g r = k then 1 else 0) y0
              have hes := es k k0 k1
              unfold cn at hes ⊢
              rw [hs]
              first
                | (rw [qu_at]
                   split
                   · rename_i h
                     rw [if_pos h.symm, ← hes, h]; rfl
                   · rename_i h
                     rw [if_neg (fun e => h e.symm), ← hes]
                     show c2 10 k = c2 10 k + 0
                     omega)
                | (rw [if_neg (by omega), ← hes]
                   show c2 10 k = c2 10 k + 0
                   omega))
        exact L39 _ _ _ (Nat.lt_succ_self _) (by first | assumption | omega) (by first | assumption | omega) f1 f2 ff (fun r r0 r1 => by omega) (fun k k0 k1 => by rw [fz k k0 (by omega)]; rfl)
      · skip
        refine g_aload_n (i := 0) dX3_fill_22 rfl rfl ?_
        refine g_getP dX3_fill_23 fl3_15 (by first | rfl | assumption) (by first | decide | (show _ < 62; omega)) (by first | rfl | assumption) ?_
        refine g_iload dX3_fill_26 rfl ?_
        refine g_iconst dX3_fill_28 ?_
        refine g_iastore dX3_fill_29 (by first | rfl | assumption) (by first | decide | (show _ < 62; omega)) ?_
        refine g_iinc4 dX3_fill_30 rfl ?_
        refine g_goto 13 dX3_fill_33 (by decide) ?_
        exact ih13 _ _ (by omega) (by first | assumption | omega) (by first | assumption | omega) f1 f2 (fun k k1 k2 k3 => by rw [qu_ne k3]; exact ff k k1 k2 k3) (fun k k0 k1 => by rw [qu_at]; split <;> first | rfl | exact fz k k0 (by omega))
  exact L13 _ _ _ (Nat.lt_succ_self _) (by first | assumption | omega) (by first | assumption | omega) (by rw [qu_off (by decide), qu_eq]) (by rw [qu_eq]) (fun k k1 k2 k3 => by rw [qu_ne k1, qu_ne k1]) (fun k k0 k1 => by omega)
set_option maxHeartbeats 4000000 in
set_option maxRecDepth 100000 in
theorem k_X3_holdsBoth_8 (c : qC) (i j : Int) (i0 : 0 ≤ i) (i1 : i < 30) (j0 : 0 ≤ j) (j1 : j < 30) (ri : iR (c 9 i)) (rj : iR (c 9 j)) : qN X3_holdsBoth 0 [qP 8, qI i, qI j] c (pI (fun z c' => c' = c ∧ ((z = 1 ∧ ¬ c 9 i = -1 ∧ ¬ c 9 j = -1) ∨ (z = 0 ∧ (c 9 i = -1 ∨ c 9 j = -1))))) := by
  refine qN.of [some (qP 8), some (qI i), some (qI j)] (by decide) rfl (fun _ => rfl) (fun _ => Nat.le_of_ble_eq_true rfl) ?_
  refine g_aload_n (i := 0) dX3_holdsBoth_0 rfl rfl ?_
  refine g_getP dX3_holdsBoth_1 fl3_9 (by first | rfl | assumption) (by first | decide | (show _ < 62; omega)) (by first | rfl | assumption) ?_
  refine g_iload_n (i := 1) dX3_holdsBoth_4 rfl rfl ?_
  refine g_iaload dX3_holdsBoth_5 (by first | rfl | assumption) (by first | decide | (show _ < 62; omega)) ?_
  refine g_iconst dX3_holdsBoth_6 ?_
  refine g_icmp_eq 24 dX3_holdsBoth_7 (by decide) (fun b7 => ?_) (fun b7 => ?_)
  · skip
    refine g_iconst dX3_holdsBoth_24 ?_
    exact n_retz dX3_holdsBoth_25 rfl (by first | exact Or.inl rfl | exact Or.inr rfl | assumption | omega) (⟨rfl, by omega⟩)
  · skip
    refine g_aload_n (i := 0) dX3_holdsBoth_10 rfl rfl ?_
    refine g_getP dX3_holdsBoth_11 fl3_9 (by first | rfl | assumption) (by first | decide | (show _ < 62; omega)) (by first | rfl | assumption) ?_
    refine g_iload_n (i := 2) dX3_holdsBoth_14 rfl rfl ?_
    refine g_iaload dX3_holdsBoth_15 (by first | rfl | assumption) (by first | decide | (show _ < 62; omega)) ?_
    refine g_iconst dX3_holdsBoth_16 ?_
    refine g_icmp_eq 24 dX3_holdsBoth_17 (by decide) (fun b17 => ?_) (fun b17 => ?_)
    · skip
      refine g_iconst dX3_holdsBoth_24 ?_
      exact n_retz dX3_holdsBoth_25 rfl (by first | exact Or.inl rfl | exact Or.inr rfl | assumption | omega) (⟨rfl, by omega⟩)
    · skip
      refine g_iconst dX3_holdsBoth_20 ?_
      refine g_goto 25 dX3_holdsBoth_21 (by decide) ?_
      exact n_retz dX3_holdsBoth_25 rfl (by first | exact Or.inl rfl | exact Or.inr rfl | assumption | omega) (⟨rfl, by omega⟩)
set_option maxHeartbeats 4000000 in
set_option maxRecDepth 100000 in
theorem k_X3_total_8 (c : qC) (n wd m : Int) (N : Int → Int → Int) (g : Int → Int) (k x : Int) (hG : Gr c 8 n g m) (hT : Tb c n wd N) (k0 : iR k) (x0 : 0 ≤ x) (x1 : x < wd) : qN X3_total 1 [qP 8, qP 1, qI k, qI x] c (pJ (fun z c' => z = sg g n k (fun r => N r x) ∧ c' = c)) := by
  obtain ⟨g1, g2, g3, g4, g5, g6⟩ := hG
  obtain ⟨t1, t2, t3, t4, t5, t6, t7⟩ := hT
  refine qN.of [some (qP 8), some (qP 1), some (qI k), some (qI x), none, none, none] (by decide) rfl (fun _ => rfl) (fun _ => Nat.le_of_ble_eq_true rfl) ?_
  refine g_lconst (z := 0) dX3_total_0 (by decide) ?_
  refine g_lstore4 dX3_total_1 rfl ?_
  refine g_iconst dX3_total_3 ?_
  refine g_istore6 dX3_total_4 rfl ?_
  have L6 : ∀ (fu6 : Nat) (r a : Int), (n - r).toNat < fu6 → (0 ≤ r) → (r ≤ n) → (a = sg g r k (fun r => N r x)) → qG (qYn X3_total 1 (pJ (fun z c' => z = sg g n k (fun r => N r x) ∧ c' = c))) wN 6 [some (qP 8), some (qP 1), some (qI k), some (qI x), some (qJ a), none, some (qI r)] [] c := by
    intro fu6
    induction fu6 with
    | zero => intro r a hm; exact absurd hm (Nat.not_lt_zero _)
    | succ fu6 ih6 =>
      intro r a hm6 r0 r1 ha
      have hgr := g5 r r0
      refine g_iload dX3_total_6 rfl ?_
      refine g_aload_n (i := 0) dX3_total_8 rfl rfl ?_
      refine g_getI (ji := 2) dX3_total_9 fl3_18 (by first | rfl | assumption) (by first | decide | (show _ < 62; omega)) (by first | rfl | assumption) (by decide) rfl (by first | assumption | rfl) ?_
      refine g_icmp_ge 45 dX3_total_12 (by decide) (fun b12 => ?_) (fun b12 => ?_)
      · skip
        refine g_lload dX3_total_45 rfl ?_
        exact n_retj dX3_total_47 rfl (⟨by rw [ha, show r = n by omega], rfl⟩)
      · skip
        refine g_aload_n (i := 0) dX3_total_15 rfl rfl ?_
        refine g_getP dX3_total_16 fl3_9 (by first | rfl | assumption) (by first | decide | (show _ < 62; omega)) (by first | rfl | assumption) ?_
        refine g_iload dX3_total_19 rfl ?_
        refine g_iaload dX3_total_21 (by first | rfl | assumption) (by decide) ?_
        have hgr2 := hgr (by omega)
        rw [hgr2.1]
        skip -- ?_
        refine g_iload_n (i := 2) dX3_total_22 rfl rfl ?_
        refine g_icmp_ne 39 dX3_total_23 (by decide) (fun b23 => ?_) (fun b23 => ?_)
        · skip
          refine g_iinc6 dX3_total_39 rfl ?_
          refine g_goto 6 dX3_total_42 (by decide) ?_
          exact ih6 _ _ (by omega) (by first | assumption | omega) (by first | assumption | omega) (by unfold sg at ha ⊢; rw [sI_s r0, ha]; first | (rw [if_pos (by omega)]) | (rw [if_neg (by omega)]; omega))
        · skip
          refine g_lload dX3_total_26 rfl ?_
          refine g_aload_n (i := 1) dX3_total_28 rfl rfl ?_
          refine g_iload dX3_total_29 rfl ?_
          refine g_iload_n (i := 3) dX3_total_31 rfl rfl ?_
          refine n_callVi (k_X6_cell _ _ _ (by omega) (by omega) (by omega) (by omega)) dX3_total_32 lk3_25 im_X6_cell (by first | rfl | assumption) (by first | decide | (show _ < 62; omega)) rfl rfl rfl rfl (Nat.le_of_ble_eq_true rfl) (fun z c' hz => ?_)
          obtain ⟨rfl, hz2⟩ := hz
          have hz2 := hz2.symm
          subst hz2
          rw [t5 r x r0 (by omega) x0 x1]
          have hb := t6 r r0 (by omega) x x0 x1
          refine g_i2lx dX3_total_35 ?_
          refine g_ladd dX3_total_36 ?_
          refine g_lstore4 dX3_total_37 rfl ?_
          refine g_iinc6 dX3_total_39 rfl ?_
          refine g_goto 6 dX3_total_42 (by decide) ?_
          exact ih6 _ _ (by omega) (by first | assumption | omega) (by first | assumption | omega) (by unfold sg at ha ⊢; rw [sI_s r0, ha]; first | (rw [if_pos (by omega)]) | (rw [if_neg (by omega)]; omega))
  exact L6 _ _ _ (Nat.lt_succ_self _) (by first | assumption | omega) (by first | assumption | omega) rfl
set_option maxHeartbeats 4000000 in
set_option maxRecDepth 100000 in
theorem k_X3_totalOfSquares_8 (c : qC) (n wd m : Int) (N : Int → Int → Int) (g : Int → Int) (k x : Int) (hG : Gr c 8 n g m) (hT : Tb c n wd N) (k0 : iR k) (x0 : 0 ≤ x) (x1 : x < wd) : qN X3_totalOfSquares 1 [qP 8, qP 1, qI k, qI x] c (pJ (fun z c' => z = sg g n k (fun r => N r x * N r x) ∧ c' = c)) := by
  obtain ⟨g1, g2, g3, g4, g5, g6⟩ := hG
  obtain ⟨t1, t2, t3, t4, t5, t6, t7⟩ := hT
  refine qN.of [some (qP 8), some (qP 1), some (qI k), some (qI x), none, none, none, none, none] (by decide) rfl (fun _ => rfl) (fun _ => Nat.le_of_ble_eq_true rfl) ?_
  refine g_lconst (z := 0) dX3_totalOfSquares_0 (by decide) ?_
  refine g_lstore4 dX3_totalOfSquares_1 rfl ?_
  refine g_iconst dX3_totalOfSquares_3 ?_
  refine g_istore6 dX3_totalOfSquares_4 rfl ?_
  have L6 : ∀ (fu6 : Nat) (r a : Int), (n - r).toNat < fu6 → (0 ≤ r) → (r ≤ n) → (a = sg g r k (fun r => N r x * N r x)) → qG (qYn X3_totalOfSquares 1 (pJ (fun z c' => z = sg g n k (fun r => N r x * N r x) ∧ c' = c))) wN 6 [some (qP 8), some (qP 1), some (qI k), some (qI x), some (qJ a), none, some (qI r), none, none] [] c := by
    intro fu6
    induction fu6 with
    | zero => intro r a hm; exact absurd hm (Nat.not_lt_zero _)
    | succ fu6 ih6 =>
      intro r a hm6 r0 r1 ha
      have hgr := g5 r r0
      refine g_iload dX3_totalOfSquares_6 rfl ?_
      refine g_aload_n (i := 0) dX3_totalOfSquares_8 rfl rfl ?_
      refine g_getI (ji := 2) dX3_totalOfSquares_9 fl3_18 (by first | rfl | assumption) (by first | decide | (show _ < 62; omega)) (by first | rfl | assumption) (by decide) rfl (by first | assumption | rfl) ?_
      refine g_icmp_ge 52 dX3_totalOfSquares_12 (by decide) (fun b12 => ?_) (fun b12 => ?_)
      · skip
        refine g_lload dX3_totalOfSquares_52 rfl ?_
        exact n_retj dX3_totalOfSquares_54 rfl (⟨by rw [ha, show r = n by omega], rfl⟩)
      · skip
        refine g_aload_n (i := 0) dX3_totalOfSquares_15 rfl rfl ?_
        refine g_getP dX3_totalOfSquares_16 fl3_9 (by first | rfl | assumption) (by first | decide | (show _ < 62; omega)) (by first | rfl | assumption) ?_
        refine g_iload dX3_totalOfSquares_19 rfl ?_
        refine g_iaload dX3_totalOfSquares_21 (by first | rfl | assumption) (by decide) ?_
        have hgr2 := hgr (by omega)
        rw [hgr2.1]
        skip -- ?_
        refine g_iload_n (i := 2) dX3_totalOfSquares_22 rfl rfl ?_
        refine g_icmp_ne 46 dX3_totalOfSquares_23 (by decide) (fun b23 => ?_) (fun b23 => ?_)
        · skip
          refine g_iinc6 dX3_totalOfSquares_46 rfl ?_
          refine g_goto 6 dX3_totalOfSquares_49 (by decide) ?_
          exact ih6 _ _ (by omega) (by first | assumption | omega) (by first | assumption | omega) (by unfold sg at ha ⊢; rw [sI_s r0, ha]; first | (rw [if_pos (by omega)]) | (rw [if_neg (by omega)]; omega))
        · skip
          refine g_aload_n (i := 1) dX3_totalOfSquares_26 rfl rfl ?_
          refine g_iload dX3_totalOfSquares_27 rfl ?_
          refine g_iload_n (i := 3) dX3_totalOfSquares_29 rfl rfl ?_
          refine n_callVi (k_X6_cell _ _ _ (by omega) (by omega) (by omega) (by omega)) dX3_totalOfSquares_30 lk3_25 im_X6_cell (by first | rfl | assumption) (by first | decide | (show _ < 62; omega)) rfl rfl rfl rfl (Nat.le_of_ble_eq_true rfl) (fun z c' hz => ?_)
          obtain ⟨rfl, hz2⟩ := hz
          have hz2 := hz2.symm
          subst hz2
          rw [t5 r x r0 (by omega) x0 x1]
          have hb := t6 r r0 (by omega) x x0 x1
          refine g_i2lx dX3_totalOfSquares_33 ?_
          refine g_lstore7 dX3_totalOfSquares_34 rfl ?_
          refine g_lload dX3_totalOfSquares_36 rfl ?_
          refine g_lload dX3_totalOfSquares_38 rfl ?_
          refine g_lload dX3_totalOfSquares_40 rfl ?_
          refine g_lmul dX3_totalOfSquares_42 ?_
          refine g_ladd dX3_totalOfSquares_43 ?_
          refine g_lstore4 dX3_totalOfSquares_44 rfl ?_
          refine g_iinc6 dX3_totalOfSquares_46 rfl ?_
          refine g_goto 6 dX3_totalOfSquares_49 (by decide) ?_
          refine g_fg7 ?_
          exact ih6 _ _ (by omega) (by first | assumption | omega) (by first | assumption | omega) (by unfold sg at ha ⊢; rw [sI_s r0, ha]; first | (rw [if_pos (by omega)]) | (rw [if_neg (by omega)]; omega))
  exact L6 _ _ _ (Nat.lt_succ_self _) (by first | assumption | omega) (by first | assumption | omega) rfl
set_option maxHeartbeats 4000000 in
set_option maxRecDepth 100000 in
theorem k_X3_distancesTo_8 (c : qC) (n wd m : Int) (N : Int → Int → Int) (g : Int → Int) (kd i k : Int) (hG : Gr c 8 n g m) (hT : Tb c n wd N) (k0 : iR k) (d0 : 0 ≤ kd) (d1 : kd < 3) (i0 : 0 ≤ i) (i1 : i < n) : qN X3_distancesTo 2 [qP 8, qP 1, qI kd, qI i, qI k] c (pJ (fun z c' => z = sg g n k (fun r => ds wd N kd i r) ∧ c' = c)) := by
  have hT0 := hT
  obtain ⟨g1, g2, g3, g4, g5, g6⟩ := hG
  obtain ⟨t1, t2, t3, t4, t5, t6, t7⟩ := hT
  refine qN.of [some (qP 8), some (qP 1), some (qI kd), some (qI i), some (qI k), none, none, none] (by decide) rfl (fun _ => rfl) (fun _ => Nat.le_of_ble_eq_true rfl) ?_
  refine g_lconst (z := 0) dX3_distancesTo_0 (by decide) ?_
  refine g_lstore5 dX3_distancesTo_1 rfl ?_
  refine g_iconst dX3_distancesTo_3 ?_
  refine g_istore7 dX3_distancesTo_4 rfl ?_
  have L6 : ∀ (fu6 : Nat) (r a : Int), (n - r).toNat < fu6 → (0 ≤ r) → (r ≤ n) → (a = sg g r k (fun r => ds wd N kd i r)) → qG (qYn X3_distancesTo 2 (pJ (fun z c' => z = sg g n k (fun r => ds wd N kd i r) ∧ c' = c))) wN 6 [some (qP 8), some (qP 1), some (qI kd), some (qI i), some (qI k), some (qJ a), none, some (qI r)] [] c := by
    intro fu6
    induction fu6 with
    | zero => intro r a hm; exact absurd hm (Nat.not_lt_zero _)
    | succ fu6 ih6 =>
      intro r a hm6 r0 r1 ha
      have hgr := g5 r r0
      refine g_iload dX3_distancesTo_6 rfl ?_
      refine g_aload_n (i := 0) dX3_distancesTo_8 rfl rfl ?_
      refine g_getI (ji := 2) dX3_distancesTo_9 fl3_18 (by first | rfl | assumption) (by first | decide | (show _ < 62; omega)) (by first | rfl | assumption) (by decide) rfl (by first | assumption | rfl) ?_
      refine g_icmp_ge 47 dX3_distancesTo_12 (by decide) (fun b12 => ?_) (fun b12 => ?_)
      · skip
        refine g_lload dX3_distancesTo_47 rfl ?_
        exact n_retj dX3_distancesTo_49 rfl (⟨by rw [ha, show r = n by omega], rfl⟩)
      · skip
        refine g_aload_n (i := 0) dX3_distancesTo_15 rfl rfl ?_
        refine g_getP dX3_distancesTo_16 fl3_9 (by first | rfl | assumption) (by first | decide | (show _ < 62; omega)) (by first | rfl | assumption) ?_
        refine g_iload dX3_distancesTo_19 rfl ?_
        refine g_iaload dX3_distancesTo_21 (by first | rfl | assumption) (by decide) ?_
        have hgr2 := hgr (by omega)
        rw [hgr2.1]
        skip -- ?_
        refine g_iload dX3_distancesTo_22 rfl ?_
        refine g_icmp_ne 41 dX3_distancesTo_24 (by decide) (fun b24 => ?_) (fun b24 => ?_)
        · skip
          refine g_iinc7 dX3_distancesTo_41 rfl ?_
          refine g_goto 6 dX3_distancesTo_44 (by decide) ?_
          exact ih6 _ _ (by omega) (by first | assumption | omega) (by first | assumption | omega) (by unfold sg at ha ⊢; rw [sI_s r0, ha]; first | (rw [if_pos (by omega)]) | (rw [if_neg (by omega)]; omega))
        · skip
          refine g_lload dX3_distancesTo_27 rfl ?_
          refine g_aload_n (i := 1) dX3_distancesTo_29 rfl rfl ?_
          refine g_iload_n (i := 2) dX3_distancesTo_30 rfl rfl ?_
          refine g_iload_n (i := 3) dX3_distancesTo_31 rfl rfl ?_
          refine g_iload dX3_distancesTo_32 rfl ?_
          refine n_callVi (k_X6_apart _ _ _ _ (by omega) (by omega) (by omega) (by omega) (by omega) (by omega)) dX3_distancesTo_34 lk3_41 im_X6_apart (by first | rfl | assumption) (by first | decide | (show _ < 62; omega)) rfl rfl rfl rfl (Nat.le_of_ble_eq_true rfl) (fun z c' hz => ?_)
          obtain ⟨rfl, hz2⟩ := hz
          have hz2 := hz2.symm
          subst hz2
          rw [t7 kd i r d0 d1 i0 i1 r0 (by omega)]
          have hb := hT0.bd (kd := kd) i0 i1 r0 (by omega)
          refine g_i2lx dX3_distancesTo_37 ?_
          refine g_ladd dX3_distancesTo_38 ?_
          refine g_lstore5 dX3_distancesTo_39 rfl ?_
          refine g_iinc7 dX3_distancesTo_41 rfl ?_
          refine g_goto 6 dX3_distancesTo_44 (by decide) ?_
          exact ih6 _ _ (by omega) (by first | assumption | omega) (by first | assumption | omega) (by unfold sg at ha ⊢; rw [sI_s r0, ha]; first | (rw [if_pos (by omega)]) | (rw [if_neg (by omega)]; omega))
  exact L6 _ _ _ (Nat.lt_succ_self _) (by first | assumption | omega) (by first | assumption | omega) rfl
set_option maxHeartbeats 4000000 in
set_option maxRecDepth 100000 in
theorem k_X3_squaresTimesSize_8 (c : qC) (n wd m : Int) (N : Int → Int → Int) (g : Int → Int) (k : Int) (hG : Gr c 8 n g m) (hT : Tb c n wd N) (k0 : 0 ≤ k) (k1 : k < m) : qN X3_squaresTimesSize 2 [qP 8, qP 1, qI k] c (pJ (fun z c' => z = sq wd N g n k ∧ c' = c)) := by
  have hT0 := hT
  have hG0 := hG
  obtain ⟨g1, g2, g3, g4, g5, g6⟩ := hG
  obtain ⟨t1, t2, t3, t4, t5, t6, t7⟩ := hT
  have hcb := cn_bd (g := g) (k := k) g3.1
  refine qN.of [some (qP 8), some (qP 1), some (qI k), none, none, none, none, none] (by decide) rfl (fun _ => rfl) (fun _ => Nat.le_of_ble_eq_true rfl) ?_
  refine g_lconst (z := 0) dX3_squaresTimesSize_0 (by decide) ?_
  refine g_lstore_n3 dX3_squaresTimesSize_1 rfl ?_
  refine g_iconst dX3_squaresTimesSize_2 ?_
  refine g_istore5 dX3_squaresTimesSize_3 rfl ?_
  have L5 : ∀ (fu5 : Nat) (x a : Int), (wd - x).toNat < fu5 → (0 ≤ x) → (x ≤ wd) → (a = sI (fun x => cn g n k * sg g n k (fun r => N r x * N r x) - sg g n k (fun r => N r x) * sg g n k (fun r => N r x)) x) → qG (qYn X3_squaresTimesSize 2 (pJ (fun z c' => z = sq wd N g n k ∧ c' = c))) wN 5 [some (qP 8), some (qP 1), some (qI k), some (qJ a), none, some (qI x), none, none] [] c := by
    intro fu5
    induction fu5 with
    | zero => intro x a hm; exact absurd hm (Nat.not_lt_zero _)
    | succ fu5 ih5 =>
      intro x a hm5 x0 x1 ha
      refine g_iload dX3_squaresTimesSize_5 rfl ?_
      refine g_aload_n (i := 1) dX3_squaresTimesSize_7 rfl rfl ?_
      refine g_getI (ji := 2) dX3_squaresTimesSize_8 fl3_31 (by first | rfl | assumption) (by first | decide | (show _ < 62; omega)) (by first | rfl | assumption) (by decide) rfl (by first | assumption | rfl) ?_
      refine g_icmp_ge 55 dX3_squaresTimesSize_11 (by decide) (fun b11 => ?_) (fun b11 => ?_)
      · skip
        refine g_lload_n (i := 3) dX3_squaresTimesSize_55 rfl rfl ?_
        exact n_retj dX3_squaresTimesSize_56 rfl (⟨by rw [ha, show x = wd by omega]; rfl, rfl⟩)
      · skip
        refine g_aload_n (i := 0) dX3_squaresTimesSize_14 rfl rfl ?_
        refine g_aload_n (i := 1) dX3_squaresTimesSize_15 rfl rfl ?_
        refine g_iload_n (i := 2) dX3_squaresTimesSize_16 rfl rfl ?_
        refine g_iload dX3_squaresTimesSize_17 rfl ?_
        refine n_callVj (k_X3_total_8 _ n wd m N g _ _ hG0 hT0 (by omega) (by omega) (by omega)) dX3_squaresTimesSize_19 lk3_34 im_X3_total (by first | rfl | assumption) (by first | decide | (show _ < 62; omega)) rfl rfl rfl rfl (Nat.le_of_ble_eq_true rfl) (fun z c' hz => ?_)
        obtain ⟨rfl, hz2⟩ := hz
        have hz2 := hz2.symm
        subst hz2
        refine g_lstore6 dX3_squaresTimesSize_22 rfl ?_
        refine g_lload_n (i := 3) dX3_squaresTimesSize_24 rfl rfl ?_
        refine g_aload_n (i := 0) dX3_squaresTimesSize_25 rfl rfl ?_
        refine g_getP dX3_squaresTimesSize_26 fl3_15 (by first | rfl | assumption) (by first | decide | (show _ < 62; omega)) (by first | rfl | assumption) ?_
        refine g_iload_n (i := 2) dX3_squaresTimesSize_29 rfl rfl ?_
        refine g_iaload dX3_squaresTimesSize_30 (by first | rfl | assumption) (by decide) ?_
        rw [g6 k k0 k1]
        skip -- ?_
        refine g_i2lx dX3_squaresTimesSize_31 ?_
        refine g_aload_n (i := 0) dX3_squaresTimesSize_32 rfl rfl ?_
        refine g_aload_n (i := 1) dX3_squaresTimesSize_33 rfl rfl ?_
        refine g_iload_n (i := 2) dX3_squaresTimesSize_34 rfl rfl ?_
        refine g_iload dX3_squaresTimesSize_35 rfl ?_
        refine n_callVj (k_X3_totalOfSquares_8 _ n wd m N g _ _ hG0 hT0 (by omega) (by omega) (by omega)) dX3_squaresTimesSize_37 lk3_38 im_X3_totalOfSquares (by first | rfl | assumption) (by first | decide | (show _ < 62; omega)) rfl rfl rfl rfl (Nat.le_of_ble_eq_true rfl) (fun z c' hz => ?_)
        obtain ⟨rfl, hz2⟩ := hz
        have hz2 := hz2.symm
        subst hz2
        refine g_lmul dX3_squaresTimesSize_40 ?_
        refine g_lload dX3_squaresTimesSize_41 rfl ?_
        refine g_lload dX3_squaresTimesSize_43 rfl ?_
        refine g_lmul dX3_squaresTimesSize_45 ?_
        refine g_lsub dX3_squaresTimesSize_46 ?_
        refine g_ladd dX3_squaresTimesSize_47 ?_
        refine g_lstore_n3 dX3_squaresTimesSize_48 rfl ?_
        refine g_iinc5 dX3_squaresTimesSize_49 rfl ?_
        refine g_goto 5 dX3_squaresTimesSize_52 (by decide) ?_
        refine g_fg6 ?_
        exact ih5 _ _ (by omega) (by first | assumption | omega) (by first | assumption | omega) (by rw [sI_s x0, ha])
  exact L5 _ _ _ (Nat.lt_succ_self _) (by first | assumption | omega) (by first | assumption | omega) rfl
