/-- the greatest common divisor -/
def gc (x y : Int) : Int := ((Int.gcd x y : Nat) : Int)
theorem gc_pos {x y : Int} (h : 0 < y) : 1 ≤ gc x y ∧ gc x y ≤ y := by
  unfold gc Int.gcd
  have h1 : 0 < Nat.gcd x.natAbs y.natAbs := Nat.gcd_pos_of_pos_right _ (by omega)
  have h2 : Nat.gcd x.natAbs y.natAbs ≤ y.natAbs := Nat.gcd_le_right _ (by omega)
  omega
theorem gc_ab (x y : Int) : gc (ab x) y = gc x y := by
  unfold gc Int.gcd ab
  split
  · rw [show (0 - x).natAbs = x.natAbs by omega]
  · rfl
theorem gc_ab2 (x y : Int) : gc (ab x) (ab y) = gc x y := by
  unfold gc Int.gcd ab
  congr 2 <;> (split <;> omega)
theorem gcd_step {p q : Nat} : Nat.gcd q (p % q) = Nat.gcd p q := by
  rw [Nat.gcd_comm q (p % q), ← Nat.gcd_rec, Nat.gcd_comm]
theorem half_mod {p q : Nat} (h : q < p) (hq : 0 < q) : 2 * (p % q) ≤ p := by
  have h1 := Nat.div_add_mod p q
  have h2 := Nat.mod_lt p hq
  have h3 : 1 ≤ p / q := (Nat.one_le_div_iff hq).mpr (by omega)
  have h4 : q * 1 ≤ q * (p / q) := Nat.mul_le_mul_left q h3
  omega
theorem euc_step {p q t : Nat} (h : q < p) (hq : 0 < q) (hb : p * q * 2 ^ t ≤ 2 ^ 127) : q * (p % q) * 2 ^ (t + 1) ≤ 2 ^ 127 := by
  refine Nat.le_trans ?_ hb
  have h1 := half_mod h hq
  calc q * (p % q) * 2 ^ (t + 1) = q * (2 * (p % q)) * 2 ^ t := by rw [Nat.pow_succ]; simp only [Nat.mul_comm, Nat.mul_left_comm, Nat.mul_assoc]
    _ ≤ q * p * 2 ^ t := Nat.mul_le_mul_right _ (Nat.mul_le_mul_left _ h1)
    _ = p * q * 2 ^ t := by rw [Nat.mul_comm q p]
theorem euc_end {p q : Nat} (h : q < p) (hq : 0 < q) (hb : p * q * 2 ^ 200 ≤ 2 ^ 127) : False := by
  have h1 : 1 ≤ p * q := Nat.mul_pos (by omega) hq
  have h2 : 1 * 2 ^ 200 ≤ p * q * 2 ^ 200 := Nat.mul_le_mul_right _ h1
  have h3 : ¬ (1 * 2 ^ 200 ≤ 2 ^ 127) := by decide
  exact h3 (Nat.le_trans h2 hb)
set_option maxHeartbeats 4000000 in
set_option maxRecDepth 100000 in
theorem k_X2_commonDivisor (c : qC) (a b : Int) (a0 : 0 ≤ a) (a1 : lR a) (b0 : 0 ≤ b) (b1 : lR b) : qN X2_commonDivisor 0 [qJ a, qJ b] c (pJ (fun z c' => z = gc a b ∧ c' = c)) := by
  refine qN.of [some (qJ a), none, some (qJ b), none, none, none, none, none, none, none, none] (by decide) rfl (fun _ => rfl) (fun _ => Nat.le_of_ble_eq_true rfl) ?_
  refine g_lload_n (i := 0) dX2_commonDivisor_0 rfl rfl ?_
  refine g_lstore4 dX2_commonDivisor_1 rfl ?_
  refine g_lload_n (i := 2) dX2_commonDivisor_3 rfl rfl ?_
  refine g_lstore6 dX2_commonDivisor_4 rfl ?_
  refine g_iconst dX2_commonDivisor_6 ?_
  refine g_istore8 dX2_commonDivisor_7 rfl ?_
  have L9 : ∀ (fu9 : Nat) (t x y : Int) (tn p q : Nat), (200 - t).toNat < fu9 → (t = tn) → (x = p) → (y = q) → (tn ≤ 200) → (lR x) → (lR y) → (Nat.gcd p q = Int.gcd a b) → (tn = 0 ∨ (q < p ∧ p * q * 2 ^ tn ≤ 2 ^ 127)) → qG (qYn X2_commonDivisor 0 (pJ (fun z c' => z = gc a b ∧ c' = c))) wN 9 [some (qJ a), none, some (qJ b), none, some (qJ x), none, some (qJ y), none, some (qI t), none, none] [] c := by
    intro fu9
    induction fu9 with
    | zero => intro t x y tn p q hm; exact absurd hm (Nat.not_lt_zero _)
    | succ fu9 ih9 =>
      intro t x y tn p q hm9 ht hx hy t1 xb yb hg hp
      refine g_iload dX2_commonDivisor_9 rfl ?_
      refine g_sipush dX2_commonDivisor_11 (by decide) ?_
      refine g_icmp_ge 45 dX2_commonDivisor_14 (by decide) (fun b14 => ?_) (fun b14 => ?_)
      · skip
        refine g_lload dX2_commonDivisor_45 rfl ?_
        exact n_retj dX2_commonDivisor_47 rfl (⟨by
        have hq : q = 0 := by
          rcases Nat.eq_zero_or_pos q with h | h
          · exact h
          · exfalso
            first
              | omega
              | (rcases hp with h3 | ⟨h1, h2⟩
                 · omega
                 · rw [show tn = 200 by omega] at h2
                   exact euc_end h1 h h2)
        rw [hx]; unfold gc; rw [← hg, hq, Nat.gcd_zero_right], rfl⟩)
      · skip
        refine g_lload dX2_commonDivisor_17 rfl ?_
        refine g_lconst (z := 0) dX2_commonDivisor_19 (by decide) ?_
        refine g_lif_eq 45 dX2_commonDivisor_20 dX2_commonDivisor_21 (by decide) (fun b20 => ?_) (fun b20 => ?_)
        · skip
          refine g_lload dX2_commonDivisor_45 rfl ?_
          exact n_retj dX2_commonDivisor_47 rfl (⟨by
        have hq : q = 0 := by
          rcases Nat.eq_zero_or_pos q with h | h
          · exact h
          · exfalso
            first
              | omega
              | (rcases hp with h3 | ⟨h1, h2⟩
                 · omega
                 · rw [show tn = 200 by omega] at h2
                   exact euc_end h1 h h2)
        rw [hx]; unfold gc; rw [← hg, hq, Nat.gcd_zero_right], rfl⟩)
        · skip
          refine g_lload dX2_commonDivisor_24 rfl ?_
          refine g_lload dX2_commonDivisor_26 rfl ?_
          refine g_lrem dX2_commonDivisor_28 (by omega) (by omega) (by omega) ?_
          refine g_lstore9 dX2_commonDivisor_29 rfl ?_
          refine g_lload dX2_commonDivisor_31 rfl ?_
          refine g_lstore4 dX2_commonDivisor_33 rfl ?_
          refine g_lload dX2_commonDivisor_35 rfl ?_
          refine g_lstore6 dX2_commonDivisor_37 rfl ?_
          refine g_iinc8 dX2_commonDivisor_39 rfl ?_
          have hm := Nat.mod_lt p (show 0 < q by omega)
          have he : x.tmod y = ((p % q : Nat) : Int) := by rw [hx, hy]; exact (Int.ofNat_tmod p q).symm
          refine g_goto 9 dX2_commonDivisor_42 (by decide) ?_
          refine g_fg9 ?_
          exact ih9 _ _ _ (tn + 1) q (p % q) (by omega) (by omega) (by omega) he (by omega) (by omega) (by rw [he]; omega) (by rw [gcd_step]; exact hg) (by
          right
          have hq : 0 < q := by omega
          refine ⟨Nat.mod_lt p hq, ?_⟩
          rcases hp with h | ⟨h1, h2⟩
          · subst h
            have h3 : p % q ≤ 2 ^ 63 := Nat.le_of_lt (Nat.lt_of_le_of_lt (Nat.mod_le p q) (by omega))
            calc q * (p % q) * 2 ^ (0 + 1) ≤ 2 ^ 63 * 2 ^ 63 * 2 ^ (0 + 1) := Nat.mul_le_mul_right _ (Nat.mul_le_mul (by omega) h3)
              _ = 2 ^ 127 := by decide
          · exact euc_step h1 hq h2)
  exact L9 _ _ _ _ 0 a.natAbs b.natAbs (Nat.lt_succ_self _) rfl (by omega) (by omega) (by first | assumption | omega) (by first | assumption | omega) (by first | assumption | omega) rfl (Or.inl rfl)
set_option maxHeartbeats 4000000 in
set_option maxRecDepth 100000 in
theorem k_X2_put_37 (c : qC) (x y : Int) (x1 : -9223372036854775807 ≤ x ∧ x ≤ 9223372036854775807) (y0 : 0 < y) (y1 : lR y) : qN X2_put 1 [qP 37, qJ x, qJ y] c (pV (fun c' => c' = qu (qu c 37 0 (x.tdiv (gc x y))) 37 1 (y.tdiv (gc x y)))) := by
  have hax := ab_0 x
  have hay := ab_le (x := x) (m := 9223372036854775807) (by omega) (by omega)
  have hgp := gc_pos (x := x) y0
  refine qN.of [some (qP 37), some (qJ x), none, some (qJ y), none, none, none] (by decide) rfl (fun _ => rfl) (fun _ => Nat.le_of_ble_eq_true rfl) ?_
  refine g_lload_n (i := 1) dX2_put_0 rfl rfl ?_
  refine g_mabsJ dX2_put_1 mw2_16 ?_ (Nat.le_refl 0) (Nat.le_refl 0) rfl (Nat.le_of_ble_eq_true rfl)
  refine g_lload_n (i := 3) dX2_put_4 rfl rfl ?_
  refine n_callSj (k_X2_commonDivisor _ _ _ (by omega) (by omega) (by omega) (by omega)) dX2_put_5 lk2_22 sm_X2_commonDivisor rfl rfl rfl (Nat.le_of_ble_eq_true rfl) (fun z c' hz => ?_)
  obtain ⟨rfl, hz2⟩ := hz
  have hz2 := hz2.symm
  subst hz2
  rw [gc_ab]
  refine g_lstore5 dX2_put_8 rfl ?_
  refine g_lload dX2_put_10 rfl ?_
  refine g_lconst (z := 0) dX2_put_12 (by decide) ?_
  refine g_lif_le 33 dX2_put_13 dX2_put_14 (by decide) (fun b13 => ?_) (fun b13 => ?_)
  · skip
    exact n_retv dX2_put_33 rfl (by first | rfl | omega)
  · skip
    refine g_aload_n (i := 0) dX2_put_17 rfl rfl ?_
    refine g_lload_n (i := 1) dX2_put_18 rfl rfl ?_
    refine g_lload dX2_put_19 rfl ?_
    refine g_ldiv dX2_put_21 (by omega) (by omega) (by omega) ?_
    refine g_putJ 0 dX2_put_22 fl2_7 fw2_0 (by first | rfl | assumption) (by first | decide | (show _ < 62; omega)) (by first | rfl | assumption) rfl ?_
    refine g_aload_n (i := 0) dX2_put_25 rfl rfl ?_
    refine g_lload_n (i := 3) dX2_put_26 rfl rfl ?_
    refine g_lload dX2_put_27 rfl ?_
    refine g_ldiv dX2_put_29 (by omega) (by omega) (by omega) ?_
    refine g_putJ 1 dX2_put_30 fl2_13 fw2_1 (by first | rfl | assumption) (by first | decide | (show _ < 62; omega)) (by first | rfl | assumption) rfl ?_
    exact n_retv dX2_put_33 rfl (by first | rfl | omega)
set_option maxHeartbeats 4000000 in
set_option maxRecDepth 100000 in
theorem k_X2_part_37 (c : qC) (s : Int) (s0 : iR s) : qN X2_part 0 [qP 37, qI s] c (pJ (fun z c' => z = (if s = 0 then c 37 0 else c 37 1) ∧ c' = c)) := by
  refine qN.of [some (qP 37), some (qI s)] (by decide) rfl (fun _ => rfl) (fun _ => Nat.le_of_ble_eq_true rfl) ?_
  refine g_iload_n (i := 1) dX2_part_0 rfl rfl ?_
  refine g_if_ne 11 dX2_part_1 (by decide) (fun b1 => ?_) (fun b1 => ?_)
  · skip
    refine g_aload_n (i := 0) dX2_part_11 rfl rfl ?_
    refine g_getJ (ji := 1) dX2_part_12 fl2_13 (by first | rfl | assumption) (by first | decide | (show _ < 62; omega)) (by first | rfl | assumption) rfl (by first | assumption | rfl) ?_
    exact n_retj dX2_part_15 rfl (⟨by first | (rw [if_pos (by omega)]) | (rw [if_neg (by omega)]), rfl⟩)
  · skip
    refine g_aload_n (i := 0) dX2_part_4 rfl rfl ?_
    refine g_getJ (ji := 0) dX2_part_5 fl2_7 (by first | rfl | assumption) (by first | decide | (show _ < 62; omega)) (by first | rfl | assumption) rfl (by first | assumption | rfl) ?_
    refine g_goto 15 dX2_part_8 (by decide) ?_
    exact n_retj dX2_part_15 rfl (⟨by first | (rw [if_pos (by omega)]) | (rw [if_neg (by omega)]), rfl⟩)
set_option maxHeartbeats 4000000 in
set_option maxRecDepth 100000 in
theorem k_X2_add_37 (c : qC) (u v x y : Int) (hu : c 37 0 = u) (hv : c 37 1 = v) (x1 : -9223372036854775807 ≤ u * y + x * v ∧ u * y + x * v ≤ 9223372036854775807) (y0 : 0 < v * y) (y1 : lR (v * y)) : qN X2_add 2 [qP 37, qJ x, qJ y] c (pV (fun c' => c' = qu (qu c 37 0 ((u * y + x * v).tdiv (gc (u * y + x * v) (v * y)))) 37 1 ((v * y).tdiv (gc (u * y + x * v) (v * y))))) := by
  refine qN.of [some (qP 37), some (qJ x), none, some (qJ y), none] (by decide) rfl (fun _ => rfl) (fun _ => Nat.le_of_ble_eq_true rfl) ?_
  refine g_aload_n (i := 0) dX2_add_0 rfl rfl ?_
  refine g_aload_n (i := 0) dX2_add_1 rfl rfl ?_
  refine g_getJ (ji := 0) dX2_add_2 fl2_7 (by first | rfl | assumption) (by first | decide | (show _ < 62; omega)) (by first | rfl | assumption) rfl (by first | assumption | rfl) ?_
  refine g_lload_n (i := 3) dX2_add_5 rfl rfl ?_
  refine g_lmul dX2_add_6 ?_
  refine g_lload_n (i := 1) dX2_add_7 rfl rfl ?_
  refine g_aload_n (i := 0) dX2_add_8 rfl rfl ?_
  refine g_getJ (ji := 1) dX2_add_9 fl2_13 (by first | rfl | assumption) (by first | decide | (show _ < 62; omega)) (by first | rfl | assumption) rfl (by first | assumption | rfl) ?_
  refine g_lmul dX2_add_12 ?_
  refine g_ladd dX2_add_13 ?_
  refine g_aload_n (i := 0) dX2_add_14 rfl rfl ?_
  refine g_getJ (ji := 1) dX2_add_15 fl2_13 (by first | rfl | assumption) (by first | decide | (show _ < 62; omega)) (by first | rfl | assumption) rfl (by first | assumption | rfl) ?_
  refine g_lload_n (i := 3) dX2_add_18 rfl rfl ?_
  refine g_lmul dX2_add_19 ?_
  refine n_callVv (k_X2_put_37 _ _ _ x1 y0 y1) dX2_add_20 lk2_26 im_X2_put (by first | rfl | assumption) (by first | decide | (show _ < 62; omega)) rfl rfl rfl rfl (Nat.le_of_ble_eq_true rfl) (fun c' hz => ?_)
  subst hz
  exact n_retv dX2_add_23 rfl (rfl)
set_option maxHeartbeats 4000000 in
set_option maxRecDepth 100000 in
theorem k_X2_put_38 (c : qC) (x y : Int) (x1 : -9223372036854775807 ≤ x ∧ x ≤ 9223372036854775807) (y0 : 0 < y) (y1 : lR y) : qN X2_put 1 [qP 38, qJ x, qJ y] c (pV (fun c' => c' = qu (qu c 38 0 (x.tdiv (gc x y))) 38 1 (y.tdiv (gc x y)))) := by
  have hax := ab_0 x
  have hay := ab_le (x := x) (m := 9223372036854775807) (by omega) (by omega)
  have hgp := gc_pos (x := x) y0
  refine qN.of [some (qP 38), some (qJ x), none, some (qJ y), none, none, none] (by decide) rfl (fun _ => rfl) (fun _ => Nat.le_of_ble_eq_true rfl) ?_
  refine g_lload_n (i := 1) dX2_put_0 rfl rfl ?_
  refine g_mabsJ dX2_put_1 mw2_16 ?_ (Nat.le_refl 0) (Nat.le_refl 0) rfl (Nat.le_of_ble_eq_true rfl)
  refine g_lload_n (i := 3) dX2_put_4 rfl rfl ?_
  refine n_callSj (k_X2_commonDivisor _ _ _ (by omega) (by omega) (by omega) (by omega)) dX2_put_5 lk2_22 sm_X2_commonDivisor rfl rfl rfl (Nat.le_of_ble_eq_true rfl) (fun z c' hz => ?_)
  obtain ⟨rfl, hz2⟩ := hz
  have hz2 := hz2.symm
  subst hz2
  rw [gc_ab]
  refine g_lstore5 dX2_put_8 rfl ?_
  refine g_lload dX2_put_10 rfl ?_
  refine g_lconst (z := 0) dX2_put_12 (by decide) ?_
  refine g_lif_le 33 dX2_put_13 dX2_put_14 (by decide) (fun b13 => ?_) (fun b13 => ?_)
  · skip
    exact n_retv dX2_put_33 rfl (by first | rfl | omega)
  · skip
    refine g_aload_n (i := 0) dX2_put_17 rfl rfl ?_
    refine g_lload_n (i := 1) dX2_put_18 rfl rfl ?_
    refine g_lload dX2_put_19 rfl ?_
    refine g_ldiv dX2_put_21 (by omega) (by omega) (by omega) ?_
    refine g_putJ 0 dX2_put_22 fl2_7 fw2_0 (by first | rfl | assumption) (by first | decide | (show _ < 62; omega)) (by first | rfl | assumption) rfl ?_
    refine g_aload_n (i := 0) dX2_put_25 rfl rfl ?_
    refine g_lload_n (i := 3) dX2_put_26 rfl rfl ?_
    refine g_lload dX2_put_27 rfl ?_
    refine g_ldiv dX2_put_29 (by omega) (by omega) (by omega) ?_
    refine g_putJ 1 dX2_put_30 fl2_13 fw2_1 (by first | rfl | assumption) (by first | decide | (show _ < 62; omega)) (by first | rfl | assumption) rfl ?_
    exact n_retv dX2_put_33 rfl (by first | rfl | omega)
set_option maxHeartbeats 4000000 in
set_option maxRecDepth 100000 in
theorem k_X2_part_38 (c : qC) (s : Int) (s0 : iR s) : qN X2_part 0 [qP 38, qI s] c (pJ (fun z c' => z = (if s = 0 then c 38 0 else c 38 1) ∧ c' = c)) := by
  refine qN.of [some (qP 38), some (qI s)] (by decide) rfl (fun _ => rfl) (fun _ => Nat.le_of_ble_eq_true rfl) ?_
  refine g_iload_n (i := 1) dX2_part_0 rfl rfl ?_
  refine g_if_ne 11 dX2_part_1 (by decide) (fun b1 => ?_) (fun b1 => ?_)
  · skip
    refine g_aload_n (i := 0) dX2_part_11 rfl rfl ?_
    refine g_getJ (ji := 1) dX2_part_12 fl2_13 (by first | rfl | assumption) (by first | decide | (show _ < 62; omega)) (by first | rfl | assumption) rfl (by first | assumption | rfl) ?_
    exact n_retj dX2_part_15 rfl (⟨by first | (rw [if_pos (by omega)]) | (rw [if_neg (by omega)]), rfl⟩)
  · skip
    refine g_aload_n (i := 0) dX2_part_4 rfl rfl ?_
    refine g_getJ (ji := 0) dX2_part_5 fl2_7 (by first | rfl | assumption) (by first | decide | (show _ < 62; omega)) (by first | rfl | assumption) rfl (by first | assumption | rfl) ?_
    refine g_goto 15 dX2_part_8 (by decide) ?_
    exact n_retj dX2_part_15 rfl (⟨by first | (rw [if_pos (by omega)]) | (rw [if_neg (by omega)]), rfl⟩)
set_option maxHeartbeats 4000000 in
set_option maxRecDepth 100000 in
theorem k_X2_add_38 (c : qC) (u v x y : Int) (hu : c 38 0 = u) (hv : c 38 1 = v) (x1 : -9223372036854775807 ≤ u * y + x * v ∧ u * y + x * v ≤ 9223372036854775807) (y0 : 0 < v * y) (y1 : lR (v * y)) : qN X2_add 2 [qP 38, qJ x, qJ y] c (pV (fun c' => c' = qu (qu c 38 0 ((u * y + x * v).tdiv (gc (u * y + x * v) (v * y)))) 38 1 ((v * y).tdiv (gc (u * y + x * v) (v * y))))) := by
  refine qN.of [some (qP 38), some (qJ x), none, some (qJ y), none] (by decide) rfl (fun _ => rfl) (fun _ => Nat.le_of_ble_eq_true rfl) ?_
  refine g_aload_n (i := 0) dX2_add_0 rfl rfl ?_
  refine g_aload_n (i := 0) dX2_add_1 rfl rfl ?_
  refine g_getJ (ji := 0) dX2_add_2 fl2_7 (by first | rfl | assumption) (by first | decide | (show _ < 62; omega)) (by first | rfl | assumption) rfl (by first | assumption | rfl) ?_
  refine g_lload_n (i := 3) dX2_add_5 rfl rfl ?_
  refine g_lmul dX2_add_6 ?_
  refine g_lload_n (i := 1) dX2_add_7 rfl rfl ?_
  refine g_aload_n (i := 0) dX2_add_8 rfl rfl ?_
  refine g_getJ (ji := 1) dX2_add_9 fl2_13 (by first | rfl | assumption) (by first | decide | (show _ < 62; omega)) (by first | rfl | assumption) rfl (by first | assumption | rfl) ?_
  refine g_lmul dX2_add_12 ?_
  refine g_ladd dX2_add_13 ?_
  refine g_aload_n (i := 0) dX2_add_14 rfl rfl ?_
  refine g_getJ (ji := 1) dX2_add_15 fl2_13 (by first | rfl | assumption) (by first | decide | (show _ < 62; omega)) (by first | rfl | assumption) rfl (by first | assumption | rfl) ?_
  refine g_lload_n (i := 3) dX2_add_18 rfl rfl ?_
  refine g_lmul dX2_add_19 ?_
  refine n_callVv (k_X2_put_38 _ _ _ x1 y0 y1) dX2_add_20 lk2_26 im_X2_put (by first | rfl | assumption) (by first | decide | (show _ < 62; omega)) rfl rfl rfl rfl (Nat.le_of_ble_eq_true rfl) (fun c' hz => ?_)
  subst hz
  exact n_retv dX2_add_23 rfl (rfl)
