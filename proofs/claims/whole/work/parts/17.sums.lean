theorem sI_le1 (x : Int) : ∀ k : Nat, 0 ≤ sm (fun j => if x = j then 1 else 0) k ∧ sm (fun j => if x = j then 1 else 0) k ≤ 1 ∧ (x ≥ k → sm (fun j => if x = j then 1 else 0) k = 0)
  | 0 => by simp [sm]
  | k + 1 => by
    have h := sI_le1 x k
    rw [sm]
    by_cases e : x = (k : Int)
    · rw [if_pos e]
      have h3 := h.2.2 (by omega)
      refine ⟨by omega, by omega, fun q => by omega⟩
    · rw [if_neg e]
      exact ⟨by omega, by omega, fun q => by have := h.2.2 (by omega); omega⟩
theorem sm_add {f g : Int → Int} : ∀ k : Nat, sm (fun j => f j + g j) k = sm f k + sm g k
  | 0 => rfl
  | k + 1 => by rw [sm, sm, sm, sm_add k]; omega
/-- all GROUPS together have no more ROWS than there are -/
theorem cn_sum (g : Int → Int) (k : Nat) : ∀ n : Nat, 0 ≤ sm (fun j => cn g n j) k ∧ sm (fun j => cn g n j) k ≤ n
  | 0 => by
    have h : sm (fun j => cn g ((0 : Nat) : Int) j) k = sm (fun _ => 0) k := sm_congr k (fun r _ _ => rfl)
    have h2 := sm_bd (f := fun _ => (0 : Int)) (lo := 0) (hi := 0) k (fun r _ _ => by omega)
    rw [h]; omega
  | n + 1 => by
    have ih := cn_sum g k n
    have h : sm (fun j => cn g ((n + 1 : Nat) : Int) j) k = sm (fun j => cn g n j + if g n = j then 1 else 0) k := sm_congr k (fun r _ _ => by
      show cn g (((n : Nat) + 1 : Nat) : Int) r = _
      rw [Int.natCast_add]
      exact cn_s (by omega))
    rw [h, sm_add]
    have h1 := sI_le1 (g n) k
    have ih2 : 0 ≤ sm (cn g n) k ∧ sm (cn g n) k ≤ n := ih
    omega
theorem sg_cn {g v : Int → Int} {k b : Int} (hb : 0 ≤ b) : ∀ n : Nat, (∀ r : Int, 0 ≤ r → r < n → -b ≤ v r ∧ v r ≤ b) → -(b * cn g n k) ≤ sg g n k v ∧ sg g n k v ≤ b * cn g n k
  | 0, _ => by
    show -(b * 0) ≤ 0 ∧ (0 : Int) ≤ b * 0
    omega
  | n + 1, h => by
    have ih := sg_cn (g := g) (v := v) (k := k) hb n (fun r r0 r1 => h r r0 (by omega))
    have hn := h n (by omega) (by omega)
    rw [show ((n + 1 : Nat) : Int) = (n : Int) + 1 by omega, cn_s (by omega), sg_s (by omega)]
    split
    · rw [Int.mul_add]; omega
    · rw [Int.mul_add]; omega
theorem sg_cn0 {g v : Int → Int} {k b : Int} (hb : 0 ≤ b) : ∀ n : Nat, (∀ r : Int, 0 ≤ r → r < n → 0 ≤ v r ∧ v r ≤ b) → 0 ≤ sg g n k v ∧ sg g n k v ≤ b * cn g n k
  | 0, _ => by
    show (0 : Int) ≤ 0 ∧ (0 : Int) ≤ b * 0
    omega
  | n + 1, h => by
    have ih := sg_cn0 (g := g) (v := v) (k := k) hb n (fun r r0 r1 => h r r0 (by omega))
    have hn := h n (by omega) (by omega)
    rw [show ((n + 1 : Nat) : Int) = (n : Int) + 1 by omega, cn_s (by omega), sg_s (by omega)]
    split
    · rw [Int.mul_add]; omega
    · rw [Int.mul_add]; omega
theorem sq_bd {wd n k : Int} {N : Int → Int → Int} {g : Int → Int} (hn : 0 ≤ n) (w0 : 0 ≤ wd) (w4 : wd ≤ 4) (hN : ∀ i, 0 ≤ i → i < n → Nb wd N i) : -(8000000 * (cn g n k * cn g n k)) ≤ sq wd N g n k ∧ sq wd N g n k ≤ 8000000 * (cn g n k * cn g n k) := by
  have hc := cn_bd (g := g) (k := k) hn
  have hn2 : ((n.toNat : Nat) : Int) = n := by omega
  generalize hm : cn g n k = m at hc ⊢
  have hmm : 0 ≤ m * m := Int.mul_nonneg hc.1 hc.1
  have hx : ∀ x, 0 ≤ x → x < wd → -(2000000 * (m * m)) ≤ m * sg g n k (fun r => N r x * N r x) - sg g n k (fun r => N r x) * sg g n k (fun r => N r x) ∧ m * sg g n k (fun r => N r x * N r x) - sg g n k (fun r => N r x) * sg g n k (fun r => N r x) ≤ 2000000 * (m * m) := by
    intro x x0 x1
    have h1 := sg_cn0 (g := g) (v := fun r => N r x * N r x) (k := k) (b := 1000000) (by omega) n.toNat (fun r r0 r1 => by
      have hb := hN r r0 (by omega) x x0 x1
      have h2 := mul_le2 (ab_0 (N r x)) (ab_le (m := 1000) (by omega) hb.2) (ab_0 (N r x)) (ab_le (m := 1000) (by omega) hb.2)
      have h3 : ab (N r x) * ab (N r x) = N r x * N r x := by
        unfold ab; split
        · rw [Int.zero_sub, Int.neg_mul_neg]
        · rfl
      rw [h3] at h2
      exact h2)
    have h4 := sg_cn (g := g) (v := fun r => N r x) (k := k) (b := 1000) (by omega) n.toNat (fun r r0 r1 => hN r r0 (by omega) x x0 x1)
    rw [hn2, hm] at h1 h4
    have h5 := mul_le2 hc.1 (Int.le_refl m) h1.1 h1.2
    have h6 : 0 ≤ sg g n k (fun r => N r x) * sg g n k (fun r => N r x) ∧ sg g n k (fun r => N r x) * sg g n k (fun r => N r x) ≤ (1000 * m) * (1000 * m) := by
      have h7 := mul_le2 (ab_0 (sg g n k (fun r => N r x))) (ab_le (m := 1000 * m) h4.1 h4.2) (ab_0 (sg g n k (fun r => N r x))) (ab_le (m := 1000 * m) h4.1 h4.2)
      have h8 : ab (sg g n k (fun r => N r x)) * ab (sg g n k (fun r => N r x)) = sg g n k (fun r => N r x) * sg g n k (fun r => N r x) := by
        unfold ab; split
        · rw [Int.zero_sub, Int.neg_mul_neg]
        · rfl
      rw [h8] at h7
      exact h7
    rw [show m * (1000000 * m) = 1000000 * (m * m) by grind] at h5
    rw [show (1000 * m) * (1000 * m) = 1000000 * (m * m) by grind] at h6
    omega
  unfold sq
  rw [hm]
  have h9 := sI_bd (f := fun x => m * sg g n k (fun r => N r x * N r x) - sg g n k (fun r => N r x) * sg g n k (fun r => N r x)) (lo := -(2000000 * (m * m))) (hi := 2000000 * (m * m)) w0 hx
  have h10 : 2000000 * (m * m) * wd ≤ 2000000 * (m * m) * 4 := Int.mul_le_mul_of_nonneg_left w4 (by omega)
  rw [Int.neg_mul] at h9
  omega
/-- the sum of squares of the first k GROUPS as a fraction in least terms -/
def sf (wd : Int) (N : Int → Int → Int) (g : Int → Int) (n : Int) : Nat → Int × Int
  | 0 => (0, 1)
  | k + 1 => if 0 < cn g n k then (((sf wd N g n k).1 * cn g n k + sq wd N g n k * (sf wd N g n k).2).tdiv (gc ((sf wd N g n k).1 * cn g n k + sq wd N g n k * (sf wd N g n k).2) ((sf wd N g n k).2 * cn g n k)), ((sf wd N g n k).2 * cn g n k).tdiv (gc ((sf wd N g n k).1 * cn g n k + sq wd N g n k * (sf wd N g n k).2) ((sf wd N g n k).2 * cn g n k))) else sf wd N g n k
theorem red_bd {u v A : Int} (hv : 0 < v) (hA : 0 ≤ A) (hu : -(A * v) ≤ u ∧ u ≤ A * v) : (1 ≤ v.tdiv (gc u v) ∧ v.tdiv (gc u v) ≤ v) ∧ -(A * v.tdiv (gc u v)) ≤ u.tdiv (gc u v) ∧ u.tdiv (gc u v) ≤ A * v.tdiv (gc u v) := by
  have hg := gc_pos (x := u) hv
  have hd1 : gc u v ∣ u := Int.gcd_dvd_left ..
  have hd2 : gc u v ∣ v := Int.gcd_dvd_right ..
  generalize gc u v = d at *
  obtain ⟨a, rfl⟩ := hd1
  obtain ⟨b, rfl⟩ := hd2
  rw [Int.mul_tdiv_cancel_left _ (by omega), Int.mul_tdiv_cancel_left _ (by omega)]
  have hb : 0 < b := by
    rcases Int.lt_or_le 0 b with h | h
    · exact h
    · have := Int.mul_nonpos_of_nonneg_of_nonpos (show 0 ≤ d by omega) h
      omega
  have hb2 : 1 * b ≤ d * b := Int.mul_le_mul_of_nonneg_right hg.1 (by omega)
  refine ⟨⟨by omega, by omega⟩, ?_, ?_⟩
  · have h1 : d * -(A * b) ≤ d * a := by
      rw [show d * -(A * b) = -(A * (d * b)) by grind]; exact hu.1
    exact Int.le_of_mul_le_mul_left h1 (by omega)
  · have h1 : d * a ≤ d * (A * b) := by
      rw [show d * (A * b) = A * (d * b) by grind]; exact hu.2
    exact Int.le_of_mul_le_mul_left h1 (by omega)
theorem le_pow2 (m : Nat) : (m : Int) ≤ 2 ^ m := by
  have h : m < 2 ^ m := Nat.lt_two_pow_self
  have h2 : ((2 ^ m : Nat) : Int) = 2 ^ m := by simp
  omega
theorem sf_bd {wd n : Int} {N : Int → Int → Int} {g : Int → Int} (hn : 0 ≤ n) (w0 : 0 ≤ wd) (w4 : wd ≤ 4) (hN : ∀ i, 0 ≤ i → i < n → Nb wd N i) : ∀ k : Nat, (1 ≤ (sf wd N g n k).2 ∧ (sf wd N g n k).2 ≤ 2 ^ (sm (fun j => cn g n j) k).toNat) ∧ -(8000000 * sm (fun j => cn g n j) k * (sf wd N g n k).2) ≤ (sf wd N g n k).1 ∧ (sf wd N g n k).1 ≤ 8000000 * sm (fun j => cn g n j) k * (sf wd N g n k).2
  | 0 => by simp [sf, sm]
  | k + 1 => by
    have ih := sf_bd (g := g) hn w0 w4 hN k
    have hT : 0 ≤ sm (fun j => cn g n j) k := (sm_bd (f := fun j => cn g n j) (lo := 0) (hi := n) k (fun r _ _ => cn_bd hn)).1 |> fun h => by omega
    have hc := cn_bd (g := g) (k := k) hn
    have hq := sq_bd (g := g) (k := k) hn w0 w4 hN
    rw [sf, sm]
    split
    · rename_i hp
      generalize sf wd N g n k = p at *
      generalize sm (fun j => cn g n j) k = t at *
      generalize cn g n k = m at *
      generalize sq wd N g n k = q at *
      obtain ⟨u, v⟩ := p
      dsimp only at *
      have hv : 0 < v * m := Int.mul_pos (by omega) hp
      have hA : -(8000000 * (t + m) * (v * m)) ≤ u * m + q * v ∧ u * m + q * v ≤ 8000000 * (t + m) * (v * m) := by
        have e1 : u * m ≤ 8000000 * t * v * m := Int.mul_le_mul_of_nonneg_right ih.2.2 (by omega)
        have e2 : -(8000000 * t * v) * m ≤ u * m := Int.mul_le_mul_of_nonneg_right ih.2.1 (by omega)
        have e3 : q * v ≤ 8000000 * (m * m) * v := Int.mul_le_mul_of_nonneg_right hq.2 (by omega)
        have e4 : -(8000000 * (m * m)) * v ≤ q * v := Int.mul_le_mul_of_nonneg_right hq.1 (by omega)
        have e5 : 8000000 * (t + m) * (v * m) = 8000000 * t * v * m + 8000000 * (m * m) * v := by grind
        have e6 : -(8000000 * t * v) * m = -(8000000 * t * v * m) := by grind
        have e7 : -(8000000 * (m * m)) * v = -(8000000 * (m * m) * v) := by grind
        omega
      have hr := red_bd (u := u * m + q * v) hv (A := 8000000 * (t + m)) (by omega) hA
      refine ⟨⟨hr.1.1, Int.le_trans hr.1.2 ?_⟩, hr.2⟩
      have e8 : (t + m).toNat = t.toNat + m.toNat := by omega
      rw [e8, Int.pow_add]
      have e9 : m ≤ 2 ^ m.toNat := by have := le_pow2 m.toNat; omega
      exact Int.le_trans (Int.mul_le_mul_of_nonneg_right ih.1.2 (by omega)) (Int.mul_le_mul_of_nonneg_left e9 (by omega))
    · rename_i hp
      rw [show cn g n k = 0 by omega, Int.add_zero]
      exact ih
/-- what both need of the numbers at GROUP k -/
theorem sf_ok {wd n : Int} {N : Int → Int → Int} {g : Int → Int} (hn : 0 ≤ n) (hn2 : n ≤ 30) (w0 : 0 ≤ wd) (w4 : wd ≤ 4) (hN : ∀ i, 0 ≤ i → i < n → Nb wd N i) (k : Nat) (hp : 0 < cn g n k) : (0 < (sf wd N g n k).2 * cn g n k ∧ (sf wd N g n k).2 * cn g n k ≤ 2000000000) ∧ -900000000000000000 ≤ (sf wd N g n k).1 * cn g n k + sq wd N g n k * (sf wd N g n k).2 ∧ (sf wd N g n k).1 * cn g n k + sq wd N g n k * (sf wd N g n k).2 ≤ 900000000000000000 := by
  have ih := sf_bd (g := g) hn w0 w4 hN k
  have hT : 0 ≤ sm (fun j => cn g n j) k := (sm_bd (f := fun j => cn g n j) (lo := 0) (hi := n) k (fun r _ _ => cn_bd hn)).1 |> fun h => by omega
  have hs := cn_sum g (k + 1) n.toNat
  rw [show ((n.toNat : Nat) : Int) = n by omega, sm] at hs
  have hc := cn_bd (g := g) (k := k) hn
  have hq := sq_bd (g := g) (k := k) hn w0 w4 hN
  generalize sf wd N g n k = p at *
  generalize sm (fun j => cn g n j) k = t at *
  generalize cn g n k = m at *
  generalize sq wd N g n k = q at *
  obtain ⟨u, v⟩ := p
  dsimp only at *
  have hv : 0 < v * m := Int.mul_pos (by omega) hp
  have hX : v * m ≤ 2 ^ 30 := by
    have e8 : (t + m).toNat = t.toNat + m.toNat := by omega
    have e9 : m ≤ 2 ^ m.toNat := by have := le_pow2 m.toNat; omega
    have e1 : v * m ≤ 2 ^ t.toNat * 2 ^ m.toNat := Int.le_trans (Int.mul_le_mul_of_nonneg_right ih.1.2 (by omega)) (Int.mul_le_mul_of_nonneg_left e9 (by omega))
    rw [← Int.pow_add] at e1
    have e2 : (2 : Nat) ^ (t.toNat + m.toNat) ≤ 2 ^ 30 := Nat.pow_le_pow_right (by omega) (by omega)
    have e3 : ((2 ^ (t.toNat + m.toNat) : Nat) : Int) = 2 ^ (t.toNat + m.toNat) := by simp
    have e4 : ((2 ^ 30 : Nat) : Int) = 2 ^ 30 := by simp
    omega
  have hA : -(8000000 * (t + m) * (v * m)) ≤ u * m + q * v ∧ u * m + q * v ≤ 8000000 * (t + m) * (v * m) := by
    have e1 : u * m ≤ 8000000 * t * v * m := Int.mul_le_mul_of_nonneg_right ih.2.2 (by omega)
    have e2 : -(8000000 * t * v) * m ≤ u * m := Int.mul_le_mul_of_nonneg_right ih.2.1 (by omega)
    have e3 : q * v ≤ 8000000 * (m * m) * v := Int.mul_le_mul_of_nonneg_right hq.2 (by omega)
    have e4 : -(8000000 * (m * m)) * v ≤ q * v := Int.mul_le_mul_of_nonneg_right hq.1 (by omega)
    have e5 : 8000000 * (t + m) * (v * m) = 8000000 * t * v * m + 8000000 * (m * m) * v := by grind
    have e6 : -(8000000 * t * v) * m = -(8000000 * t * v * m) := by grind
    have e7 : -(8000000 * (m * m)) * v = -(8000000 * (m * m) * v) := by grind
    omega
  have hB : 8000000 * (t + m) * (v * m) ≤ 240000000 * (2 ^ 30) := by
    have e1 : 8000000 * (t + m) * (v * m) ≤ 240000000 * (v * m) := Int.mul_le_mul_of_nonneg_right (by omega) (by omega)
    omega
  refine ⟨⟨hv, by omega⟩, by omega, by omega⟩
def a_sum (n wd : Int) (N : Int → Int → Int) (S : Sl) (s e : Int) : Int := if (0 ≤ s ∧ s ≤ 1) ∧ 0 ≤ e ∧ e ≤ 1 then (match S s with | none => -2000000003 | some p => if e = 0 then (sf wd N p.1 n p.2.toNat).1 else (sf wd N p.1 n p.2.toNat).2) else -2000000002
set_option maxHeartbeats 4000000 in
set_option maxRecDepth 100000 in
theorem k_X7_row (c : qC) (n wd : Int) (N : Int → Int → Int) (S : Sl) (mm : Int) (md : Int → Int) (T : Tr) (hS : CS c n wd N S mm md T) (a b e f : Int) (a0 : iR a) (b0 : iR b) (e0 : iR e) (f0 : iR f) : qN X7_row 4 [qP 0, qI a, qI b, qI e, qI f] c (pI (fun z c' => (inb wd a b e f → n < 30 → z = n ∧ CS c' (n + 1) wd (nw N n a b e f) (fun _ => none) 0 md none) ∧ (inb wd a b e f → ¬ n < 30 → z = -2000000004 ∧ CS c' n wd N S mm md T) ∧ (¬ inb wd a b e f → z = -2000000002 ∧ CS c' n wd N S mm md T) ∧ FrC c c')) := by
  have hS0 := hS
  obtain ⟨hT, hSl, hMd, hTr⟩ := hS
  have hT0 := hT
  obtain ⟨t1, t2, t3, t4, t5, t6, t7⟩ := hT
  refine qN.of [some (qP 0), some (qI a), some (qI b), some (qI e), some (qI f)] (by decide) rfl (fun _ => rfl) (fun _ => Nat.le_of_ble_eq_true rfl) ?_
  refine g_aload_n (i := 0) dX7_row_0 rfl rfl ?_
  refine g_getP dX7_row_1 fl7_10 (by first | rfl | assumption) (by first | decide | (show _ < 62; omega)) (by first | rfl | assumption) ?_
  refine g_iconst dX7_row_4 ?_
  refine g_iload_n (i := 1) dX7_row_5 rfl rfl ?_
  refine n_callVi (k_X6_takes _ _ _ _ (by assumption) (by omega) (by omega) (by omega)) dX7_row_6 lk7_67 im_X6_takes (by first | rfl | assumption) (by first | decide | (show _ < 62; omega)) rfl rfl rfl rfl (Nat.le_of_ble_eq_true rfl) (fun z c' hz => ?_)
  obtain ⟨hz2, hz⟩ := hz
  have hz2 := hz2.symm
  subst hz2
  refine g_if_eq 49 dX7_row_9 (by decide) (fun b9 => ?_) (fun b9 => ?_)
  · skip
    have hni : ¬ inb wd a b e f := by unfold inb; omega
    refine g_ldc (z := -2000000002) dX7_row_49 cw7_58 ?_
    exact n_reti dX7_row_51 rfl (⟨fun q => absurd q hni, fun q => absurd q hni, fun _ => ⟨rfl, hS0⟩, FrC.rf c⟩)
  · skip
    refine g_aload_n (i := 0) dX7_row_12 rfl rfl ?_
    refine g_getP dX7_row_13 fl7_10 (by first | rfl | assumption) (by first | decide | (show _ < 62; omega)) (by first | rfl | assumption) ?_
    refine g_iconst dX7_row_16 ?_
    refine g_iload_n (i := 2) dX7_row_17 rfl rfl ?_
    refine n_callVi (k_X6_takes _ _ _ _ (by assumption) (by omega) (by omega) (by omega)) dX7_row_18 lk7_67 im_X6_takes (by first | rfl | assumption) (by first | decide | (show _ < 62; omega)) rfl rfl rfl rfl (Nat.le_of_ble_eq_true rfl) (fun z c' hz => ?_)
    obtain ⟨hz2, hz⟩ := hz
    have hz2 := hz2.symm
    subst hz2
    refine g_if_eq 49 dX7_row_21 (by decide) (fun b21 => ?_) (fun b21 => ?_)
    · skip
      have hni : ¬ inb wd a b e f := by unfold inb; omega
      refine g_ldc (z := -2000000002) dX7_row_49 cw7_58 ?_
      exact n_reti dX7_row_51 rfl (⟨fun q => absurd q hni, fun q => absurd q hni, fun _ => ⟨rfl, hS0⟩, FrC.rf c⟩)
    · skip
      refine g_aload_n (i := 0) dX7_row_24 rfl rfl ?_
      refine g_getP dX7_row_25 fl7_10 (by first | rfl | assumption) (by first | decide | (show _ < 62; omega)) (by first | rfl | assumption) ?_
      refine g_iconst dX7_row_28 ?_
      refine g_iload_n (i := 3) dX7_row_29 rfl rfl ?_
      refine n_callVi (k_X6_takes _ _ _ _ (by assumption) (by omega) (by omega) (by omega)) dX7_row_30 lk7_67 im_X6_takes (by first | rfl | assumption) (by first | decide | (show _ < 62; omega)) rfl rfl rfl rfl (Nat.le_of_ble_eq_true rfl) (fun z c' hz => ?_)
      obtain ⟨hz2, hz⟩ := hz
      have hz2 := hz2.symm
      subst hz2
      refine g_if_eq 49 dX7_row_33 (by decide) (fun b33 => ?_) (fun b33 => ?_)
      · skip
        have hni : ¬ inb wd a b e f := by unfold inb; omega
        refine g_ldc (z := -2000000002) dX7_row_49 cw7_58 ?_
        exact n_reti dX7_row_51 rfl (⟨fun q => absurd q hni, fun q => absurd q hni, fun _ => ⟨rfl, hS0⟩, FrC.rf c⟩)
      · skip
        refine g_aload_n (i := 0) dX7_row_36 rfl rfl ?_
        refine g_getP dX7_row_37 fl7_10 (by first | rfl | assumption) (by first | decide | (show _ < 62; omega)) (by first | rfl | assumption) ?_
        refine g_iconst dX7_row_40 ?_
        refine g_iload dX7_row_41 rfl ?_
        refine n_callVi (k_X6_takes _ _ _ _ (by assumption) (by omega) (by omega) (by omega)) dX7_row_43 lk7_67 im_X6_takes (by first | rfl | assumption) (by first | decide | (show _ < 62; omega)) rfl rfl rfl rfl (Nat.le_of_ble_eq_true rfl) (fun z c' hz => ?_)
        obtain ⟨hz2, hz⟩ := hz
        have hz2 := hz2.symm
        subst hz2
        refine g_if_ne 52 dX7_row_46 (by decide) (fun b46 => ?_) (fun b46 => ?_)
        · skip
          have hyi : inb wd a b e f := by unfold inb; omega
          refine g_aload_n (i := 0) dX7_row_52 rfl rfl ?_
          refine g_getP dX7_row_53 fl7_10 (by first | rfl | assumption) (by first | decide | (show _ < 62; omega)) (by first | rfl | assumption) ?_
          refine g_getI (ji := 3) dX7_row_56 fl7_59 (by first | rfl | assumption) (by first | decide | (show _ < 62; omega)) (by first | rfl | assumption) (by decide) rfl (by first | assumption | rfl) ?_
          refine g_bipush dX7_row_59 (by decide) ?_
          refine g_icmp_lt 67 dX7_row_61 (by decide) (fun b61 => ?_) (fun b61 => ?_)
          · skip
            refine g_aload_n (i := 0) dX7_row_67 rfl rfl ?_
            refine n_callVv (k_X7_forgetGroupings _) dX7_row_68 lk7_72 im_X7_forgetGroupings (by first | rfl | assumption) (by first | decide | (show _ < 62; omega)) rfl rfl rfl rfl (Nat.le_of_ble_eq_true rfl) (fun c2 hz => ?_)
            obtain ⟨q1, q2, q3, q4, qf⟩ := hz
            have hbn : Nb wd (nw N n a b e f) n := by
              intro x x0 x1
              unfold nw
              rw [if_pos rfl]
              unfold inb at hyi
              obtain rfl | rfl | rfl | rfl : x = 0 ∨ x = 1 ∨ x = 2 ∨ x = 3 := by omega
              · rw [if_pos rfl]; omega
              · rw [if_neg (by omega), if_pos rfl]; omega
              · rw [if_neg (by omega), if_neg (by omega), if_pos rfl]; omega
              · rw [if_neg (by omega), if_neg (by omega), if_neg (by omega)]; omega
            refine g_aload_n (i := 0) dX7_row_71 rfl rfl ?_
            refine g_getP dX7_row_72 fl7_10 (by first | rfl | assumption) (by first | decide | (show _ < 62; omega)) (by first | rfl | assumption) ?_
            refine g_iload_n (i := 1) dX7_row_75 rfl rfl ?_
            refine g_iload_n (i := 2) dX7_row_76 rfl rfl ?_
            refine g_iload_n (i := 3) dX7_row_77 rfl rfl ?_
            refine g_iload dX7_row_78 rfl ?_
            refine n_callVi (k_X6_append _ n wd _ _ _ _ N (hT0.fr (qf 1 (by decide) (by decide) (by decide) (by decide)) (qf 2 (by decide) (by decide) (by decide) (by decide)) (qf 3 (by decide) (by decide) (by decide) (by decide))) (by omega) hbn) dX7_row_80 lk7_75 im_X6_append (by first | rfl | assumption) (by first | decide | (show _ < 62; omega)) rfl rfl rfl rfl (Nat.le_of_ble_eq_true rfl) (fun z c3 hz => ?_)
            obtain ⟨rfl, hT2, hfr⟩ := hz
            exact n_reti dX7_row_83 rfl (⟨fun _ _ => ⟨rfl, hT2, CSl.none5 (c := c) (by rw [hfr 5 (by decide) (by decide) (by decide)]; exact q1) (by rw [hfr 8 (by decide) (by decide) (by decide)]; exact q2), ⟨by rw [hfr 18 (by decide) (by decide) (by decide)]; exact q3, by omega, fun i i0 i1 => by omega⟩, by show c3 27 11 = -1; rw [hfr 27 (by decide) (by decide) (by decide)]; exact q4⟩, fun _ q => absurd (by assumption) q, fun q => absurd hyi q, fun k hk => by rw [hfr k (by omega) (by omega) (by omega)]; exact qf k (by omega) (by omega) (by omega) (by omega)⟩)
          · skip
            refine g_ldc (z := -2000000004) dX7_row_64 cw7_71 ?_
            exact n_reti dX7_row_66 rfl (⟨fun _ q => by omega, fun _ _ => ⟨rfl, hS0⟩, fun q => absurd hyi q, FrC.rf c⟩)
        · skip
          have hni : ¬ inb wd a b e f := by unfold inb; omega
          refine g_ldc (z := -2000000002) dX7_row_49 cw7_58 ?_
          exact n_reti dX7_row_51 rfl (⟨fun q => absurd q hni, fun q => absurd q hni, fun _ => ⟨rfl, hS0⟩, FrC.rf c⟩)
set_option maxHeartbeats 4000000 in
set_option maxRecDepth 100000 in
theorem k_X7_reckonSum (c : qC) (n wd m : Int) (N : Int → Int → Int) (g : Int → Int) (o : Nat) (ho58 : o = 5 ∨ o = 8) (hLo : LAY o = .inr (.inr (3, [.inl (some (o + 1)), .inl (some (o + 2)), .inr 0, .inr 0]))) (ho62 : o < 62) (hL1 : LAY (o + 1) = .inl (0, 30)) (ho63 : o + 1 < 62) (hL2 : LAY (o + 2) = .inl (0, 30)) (ho64 : o + 2 < 62) (hG : Gr c o n g m) (hT : Tb c n wd N) : qN X7_reckonSum 3 [qP 0, qP o] c (pV (fun c' => (∀ q, q ≠ 38 → c' q = c q) ∧ c' 38 0 = (sf wd N g n m.toNat).1 ∧ c' 38 1 = (sf wd N g n m.toNat).2)) := by
  have hT0 := hT
  have hG0 := hG
  obtain ⟨t1, t2, t3, t4, t5, t6, t7⟩ := hT
  obtain ⟨g1, g2, g3, g4, g5, g6⟩ := hG
  refine qN.of [some (qP 0), some (qP o), none] (by decide) rfl (fun _ => rfl) (fun _ => Nat.le_of_ble_eq_true rfl) ?_
  refine g_aload_n (i := 0) dX7_reckonSum_0 rfl rfl ?_
  refine g_getP dX7_reckonSum_1 fl7_54 (by first | rfl | assumption) (by first | decide | (show _ < 62; omega)) (by first | rfl | assumption) ?_
  refine g_lconst (z := 0) dX7_reckonSum_4 (by decide) ?_
  refine g_lconst (z := 1) dX7_reckonSum_5 (by decide) ?_
  refine n_callVv (k_X2_put_38 _ _ _ (by omega) (by omega) (by omega)) dX7_reckonSum_6 lk7_199 im_X2_put (by first | rfl | assumption) (by first | decide | (show _ < 62; omega)) rfl rfl rfl rfl (Nat.le_of_ble_eq_true rfl) (fun c' hz => ?_)
  subst hz
  refine g_iconst dX7_reckonSum_9 ?_
  refine g_istore_n2 dX7_reckonSum_10 rfl ?_
  have L11 : ∀ (fu11 : Nat) (k : Int) (c1 : qC), (m - k).toNat < fu11 → (0 ≤ k) → (k ≤ m) → (∀ q, q ≠ 38 → c1 q = c q) → (c1 38 0 = (sf wd N g n k.toNat).1) → (c1 38 1 = (sf wd N g n k.toNat).2) → qG (qYn X7_reckonSum 3 (pV (fun c' => (∀ q, q ≠ 38 → c' q = c q) ∧ c' 38 0 = (sf wd N g n m.toNat).1 ∧ c' 38 1 = (sf wd N g n m.toNat).2))) wN 11 [some (qP 0), some (qP o), some (qI k)] [] c1 := by
    intro fu11
    induction fu11 with
    | zero => intro k c1 hm; exact absurd hm (Nat.not_lt_zero _)
    | succ fu11 ih11 =>
      intro k c1 hm11 k0 k1 ff fu fv
      have o38 : o ≠ 38 := by omega
      have hGc : Gr c1 o n g m := hG0.fr (ff o (by omega)) (ff _ (by omega)) (ff _ (by omega))
      have hTc : Tb c1 n wd N := hT0.fr (ff 1 (by decide)) (ff 2 (by decide)) (ff 3 (by decide))
      have g2c : c1 o 3 = m := hGc.2.1
      have hkn : ((k.toNat : Nat) : Int) = k := by omega
      have hk1 : (k + 1).toNat = k.toNat + 1 := by omega
      have hcb := cn_bd (g := g) (k := k) t3.1
      have hok := sf_ok (g := g) t3.1 t3.2 (by omega) t4.2 t6 k.toNat
      rw [hkn] at hok
      refine g_iload_n (i := 2) dX7_reckonSum_11 rfl rfl ?_
      refine g_aload_n (i := 1) dX7_reckonSum_12 rfl rfl ?_
      refine g_getI (ji := 3) dX7_reckonSum_13 fl7_79 hLo ho62 (by first | rfl | assumption) (by decide) rfl (by first | assumption | rfl) ?_
      refine g_icmp_ge 57 dX7_reckonSum_16 (by decide) (fun b16 => ?_) (fun b16 => ?_)
      · skip
        exact n_retv dX7_reckonSum_57 rfl (⟨ff, by rw [fu, show k = m by omega], by rw [fv, show k = m by omega]⟩)
      · skip
        refine g_aload_n (i := 1) dX7_reckonSum_19 rfl rfl ?_
        refine g_getP dX7_reckonSum_20 fl7_173 hLo ho62 (by first | rfl | assumption) ?_
        refine g_iload_n (i := 2) dX7_reckonSum_23 rfl rfl ?_
        refine g_iaload dX7_reckonSum_24 hL2 ho64 ?_
        rw [hGc.2.2.2.2.2 k k0 (by omega)]
        skip -- ?_
        refine g_if_le 51 dX7_reckonSum_25 (by decide) (fun b25 => ?_) (fun b25 => ?_)
        · skip
          refine g_iinc2 dX7_reckonSum_51 rfl ?_
          refine g_goto 11 dX7_reckonSum_54 (by decide) ?_
          exact ih11 _ _ (by omega) (by first | assumption | omega) (by first | assumption | omega) (by first | exact ff | exact fun q hq => by rw [qu_ne hq, qu_ne hq]; exact ff q hq) (by rw [hk1, sf, hkn]; first | (rw [if_neg (by omega)]; exact fu) | (rw [if_pos (by omega)]; rfl)) (by rw [hk1, sf, hkn]; first | (rw [if_neg (by omega)]; exact fv) | (rw [if_pos (by omega)]; rfl))
        · skip
          refine g_aload_n (i := 0) dX7_reckonSum_28 rfl rfl ?_
          refine g_getP dX7_reckonSum_29 fl7_54 (by first | rfl | assumption) (by first | decide | (show _ < 62; omega)) (by first | rfl | assumption) ?_
          refine g_aload_n (i := 1) dX7_reckonSum_32 rfl rfl ?_
          refine g_aload_n (i := 0) dX7_reckonSum_33 rfl rfl ?_
          refine g_getP dX7_reckonSum_34 fl7_10 (by first | rfl | assumption) (by first | decide | (show _ < 62; omega)) (by first | rfl | assumption) ?_
          refine g_iload_n (i := 2) dX7_reckonSum_37 rfl rfl ?_
          refine n_callVj (kk_sqs (m := m) ho58 hGc hTc (by omega) (by omega)) dX7_reckonSum_38 lk7_207 im_X3_squaresTimesSize hLo ho62 rfl rfl rfl rfl (Nat.le_of_ble_eq_true rfl) (fun z c' hz => ?_)
          obtain ⟨rfl, hz2⟩ := hz
          have hz2 := hz2.symm
          subst hz2
          refine g_aload_n (i := 1) dX7_reckonSum_41 rfl rfl ?_
          refine g_getP dX7_reckonSum_42 fl7_173 hLo ho62 (by first | rfl | assumption) ?_
          refine g_iload_n (i := 2) dX7_reckonSum_45 rfl rfl ?_
          refine g_iaload dX7_reckonSum_46 hL2 ho64 ?_
          rw [hGc.2.2.2.2.2 k k0 (by omega)]
          have hok2 := hok (by omega)
          skip -- ?_
          refine g_i2lx dX7_reckonSum_47 ?_
          refine n_callVv (k_X2_add_38 _ _ _ _ _ fu fv (by omega) (by omega) (by omega)) dX7_reckonSum_48 lk7_211 im_X2_add (by first | rfl | assumption) (by first | decide | (show _ < 62; omega)) rfl rfl rfl rfl (Nat.le_of_ble_eq_true rfl) (fun c' hz => ?_)
          subst hz
          refine g_iinc2 dX7_reckonSum_51 rfl ?_
          refine g_goto 11 dX7_reckonSum_54 (by decide) ?_
          exact ih11 _ _ (by omega) (by first | assumption | omega) (by first | assumption | omega) (by first | exact ff | exact fun q hq => by rw [qu_ne hq, qu_ne hq]; exact ff q hq) (by rw [hk1, sf, hkn]; first | (rw [if_neg (by omega)]; exact fu) | (rw [if_pos (by omega)]; rfl)) (by rw [hk1, sf, hkn]; first | (rw [if_neg (by omega)]; exact fv) | (rw [if_pos (by omega)]; rfl))
  exact L11 _ _ _ (Nat.lt_succ_self _) (by first | assumption | omega) (by first | assumption | omega) (fun q hq => by rw [qu_ne hq, qu_ne hq]) rfl rfl
set_option maxHeartbeats 4000000 in
set_option maxRecDepth 100000 in
theorem k_X7_sum (c : qC) (n wd : Int) (N : Int → Int → Int) (S : Sl) (mm : Int) (md : Int → Int) (T : Tr) (hS : CS c n wd N S mm md T) (s e : Int) (s0 : iR s) (e0 : iR e) : qN X7_sum 4 [qP 0, qI s, qI e] c (pJ (fun z c' => z = a_sum n wd N S s e ∧ CS c' n wd N S mm md T ∧ FrC c c')) := by
  have hS0 := hS
  obtain ⟨hT, hSl, hMd, hTr⟩ := hS
  have hT0 := hT
  obtain ⟨t1, t2, t3, t4, t5, t6, t7⟩ := hT
  refine qN.of [some (qP 0), some (qI s), some (qI e)] (by decide) rfl (fun _ => rfl) (fun _ => Nat.le_of_ble_eq_true rfl) ?_
  refine g_iload_n (i := 1) dX7_sum_0 rfl rfl ?_
  refine n_callSi (k_X7_isSlot _ _ (by omega)) dX7_sum_1 lk7_100 sm_X7_isSlot rfl rfl rfl (Nat.le_of_ble_eq_true rfl) (fun z c' hz => ?_)
  obtain ⟨hz2, hz⟩ := hz
  have hz2 := hz2.symm
  subst hz2
  refine g_if_eq 14 dX7_sum_4 (by decide) (fun b4 => ?_) (fun b4 => ?_)
  · skip
    refine g_ldc2 (z := -2000000002) dX7_sum_14 cw7_135 ?_
    exact n_retj dX7_sum_17 rfl (⟨by unfold a_sum; rw [if_neg (by omega)], hS0, FrC.rf c⟩)
  · skip
    refine g_iload_n (i := 2) dX7_sum_7 rfl rfl ?_
    refine n_callSi (k_X7_isSide _ _ (by omega)) dX7_sum_8 lk7_176 sm_X7_isSide rfl rfl rfl (Nat.le_of_ble_eq_true rfl) (fun z c' hz => ?_)
    obtain ⟨hz2, hz⟩ := hz
    have hz2 := hz2.symm
    subst hz2
    refine g_if_ne 18 dX7_sum_11 (by decide) (fun b11 => ?_) (fun b11 => ?_)
    · skip
      obtain ⟨o, hoS, ho1, hLo, ho62, ho58, hL1, hL2, ho63, ho64⟩ := oS_ex (s := s) (by omega)
      have hst := hSl s (by omega) (by omega)
      rw [hoS] at hst
      have hsb := hst.b
      refine g_aload_n (i := 0) dX7_sum_18 rfl rfl ?_
      refine g_getP dX7_sum_19 fl7_18 (by first | rfl | assumption) (by first | decide | (show _ < 62; omega)) (by first | rfl | assumption) ?_
      refine g_iload_n (i := 1) dX7_sum_22 rfl rfl ?_
      refine g_aaload dX7_sum_23 rfl (by decide) ho1 ?_
      refine n_callVi (kk_isEmpty ho58 rfl (by omega)) dX7_sum_24 lk7_162 im_X3_isEmpty hLo ho62 rfl rfl rfl rfl (Nat.le_of_ble_eq_true rfl) (fun z c' hz => ?_)
      obtain ⟨hz2, hz⟩ := hz
      have hz2 := hz2.symm
      subst hz2
      refine g_if_eq 34 dX7_sum_27 (by decide) (fun b27 => ?_) (fun b27 => ?_)
      · skip
        obtain ⟨g, m, hg, hG⟩ := hst.yes (by omega)
        refine g_aload_n (i := 0) dX7_sum_34 rfl rfl ?_
        refine g_aload_n (i := 0) dX7_sum_35 rfl rfl ?_
        refine g_getP dX7_sum_36 fl7_18 (by first | rfl | assumption) (by first | decide | (show _ < 62; omega)) (by first | rfl | assumption) ?_
        refine g_iload_n (i := 1) dX7_sum_39 rfl rfl ?_
        refine g_aaload dX7_sum_40 rfl (by decide) ho1 ?_
        refine n_callVv (k_X7_reckonSum _ n wd m N g o ho58 hLo ho62 hL1 ho63 hL2 ho64 hG hT0) dX7_sum_41 lk7_187 im_X7_reckonSum (by first | rfl | assumption) (by first | decide | (show _ < 62; omega)) rfl rfl rfl rfl (Nat.le_of_ble_eq_true rfl) (fun c1 hz => ?_)
        obtain ⟨hf, hu, hv⟩ := hz
        refine g_aload_n (i := 0) dX7_sum_44 rfl rfl ?_
        refine g_getP dX7_sum_45 fl7_54 (by first | rfl | assumption) (by first | decide | (show _ < 62; omega)) (by first | rfl | assumption) ?_
        refine g_iload_n (i := 2) dX7_sum_48 rfl rfl ?_
        refine n_callVj (k_X2_part_38 _ _ (by omega)) dX7_sum_49 lk7_183 im_X2_part (by first | rfl | assumption) (by first | decide | (show _ < 62; omega)) rfl rfl rfl rfl (Nat.le_of_ble_eq_true rfl) (fun z c' hz => ?_)
        obtain ⟨rfl, hz2⟩ := hz
        have hz2 := hz2.symm
        subst hz2
        exact n_retj dX7_sum_52 rfl (⟨by unfold a_sum; rw [if_pos (show (0 ≤ s ∧ s ≤ 1) ∧ 0 ≤ e ∧ e ≤ 1 by omega), hg, hu, hv], hS0.fr (fun q hq => hf q (by omega)), fun q hq => hf q (by omega)⟩)
      · skip
        have hg := hst.no (by omega)
        refine g_ldc2 (z := -2000000003) dX7_sum_30 cw7_137 ?_
        exact n_retj dX7_sum_33 rfl (⟨by unfold a_sum; rw [if_pos (by omega), hg], hS0, FrC.rf c⟩)
    · skip
      refine g_ldc2 (z := -2000000002) dX7_sum_14 cw7_135 ?_
      exact n_retj dX7_sum_17 rfl (⟨by unfold a_sum; rw [if_neg (by omega)], hS0, FrC.rf c⟩)
set_option maxHeartbeats 4000000 in
set_option maxRecDepth 100000 in
theorem k_X8_sum (c : qC) (n wd : Int) (N : Int → Int → Int) (S : Sl) (mm : Int) (md : Int → Int) (T : Tr) (hS : TS c n wd N S mm md T) (s e : Int) (s0 : iR s) (e0 : iR e) : qN X8_sum 2 [qP 39, qI s, qI e] c (pJ (fun z c' => z = a_sum n wd N S s e ∧ TS c' n wd N S mm md T ∧ FrT c c')) := by
  have hS0 := hS
  obtain ⟨hM, hSl, hMd, hTr⟩ := hS
  have hM0 := hM
  obtain ⟨t1, t2, t3, t4, t5, t6⟩ := hM
  refine qN.of [some (qP 39), some (qI s), some (qI e), none, none, none, none, none, none, none, none, none, none, none, none, none, none, none, none, none] (by decide) rfl (fun _ => rfl) (fun _ => Nat.le_of_ble_eq_true rfl) ?_
  refine g_iload_n (i := 1) dX8_sum_0 rfl rfl ?_
  refine g_iconst dX8_sum_1 ?_
  refine g_iconst dX8_sum_2 ?_
  refine n_callSi (k_X8_within _ _ _ _ (by omega) (by omega) (by omega)) dX8_sum_3 lk8_85 sm_X8_within rfl rfl rfl (Nat.le_of_ble_eq_true rfl) (fun z c' hz => ?_)
  obtain ⟨hz2, hz⟩ := hz
  have hz2 := hz2.symm
  subst hz2
  refine g_if_eq 18 dX8_sum_6 (by decide) (fun b6 => ?_) (fun b6 => ?_)
  · skip
    refine g_ldc2 (z := -2000000002) dX8_sum_18 cw8_178 ?_
    exact n_retj dX8_sum_21 rfl (⟨by unfold a_sum; rw [if_neg (by omega)], hS0, FrT.rf c⟩)
  · skip
    refine g_iload_n (i := 2) dX8_sum_9 rfl rfl ?_
    refine g_iconst dX8_sum_10 ?_
    refine g_iconst dX8_sum_11 ?_
    refine n_callSi (k_X8_within _ _ _ _ (by omega) (by omega) (by omega)) dX8_sum_12 lk8_85 sm_X8_within rfl rfl rfl (Nat.le_of_ble_eq_true rfl) (fun z c' hz => ?_)
    obtain ⟨hz2, hz⟩ := hz
    have hz2 := hz2.symm
    subst hz2
    refine g_if_ne 22 dX8_sum_15 (by decide) (fun b15 => ?_) (fun b15 => ?_)
    · skip
      have hst := hSl s (by omega) (by omega)
      have hsb := hst.b
      refine g_aload_n (i := 0) dX8_sum_22 rfl rfl ?_
      refine g_getP dX8_sum_23 fl8_17 (by first | rfl | assumption) (by first | decide | (show _ < 62; omega)) (by first | rfl | assumption) ?_
      refine g_iload_n (i := 1) dX8_sum_26 rfl rfl ?_
      refine g_baload dX8_sum_27 (by first | rfl | assumption) (by first | decide | (show _ < 62; omega)) ?_
      refine g_if_ne 35 dX8_sum_28 (by decide) (fun b28 => ?_) (fun b28 => ?_)
      · skip
        obtain ⟨g, m, hg, hg1, hg2, hg3⟩ := hst.yes b28
        have hs01 : 0 ≤ s ∧ s ≤ 1 := by omega
        have hg4 : ∀ r, 0 ≤ r → r < n → c 43 (30 * s + r) = g r ∧ -1 ≤ g r ∧ g r < 30 := fun r r0 r1 => ⟨(hg3 r r0 r1).1, (hg3 r r0 r1).2.1, by have := (hg3 r r0 r1).2.2; omega⟩
        refine g_lconst (z := 0) dX8_sum_35 (by decide) ?_
        refine g_lstore_n3 dX8_sum_36 rfl ?_
        refine g_lconst (z := 1) dX8_sum_37 (by decide) ?_
        refine g_lstore5 dX8_sum_38 rfl ?_
        refine g_iconst dX8_sum_40 ?_
        refine g_istore7 dX8_sum_41 rfl ?_
        have L43 : ∀ (fu43 : Nat) (k u v : Int), (m - k).toNat < fu43 → (0 ≤ k) → (k ≤ m) → (u = (sf wd N g n k.toNat).1) → (v = (sf wd N g n k.toNat).2) → qG (qYn X8_sum 2 (pJ (fun z c' => z = a_sum n wd N S s e ∧ TS c' n wd N S mm md T ∧ FrT c c'))) wN 43 [some (qP 39), some (qI s), some (qI e), some (qJ u), none, some (qJ v), none, some (qI k), none, none, none, none, none, none, none, none, none, none, none, none] [] c := by
          intro fu43
          induction fu43 with
          | zero => intro k u v hm; exact absurd hm (Nat.not_lt_zero _)
          | succ fu43 ih43 =>
            intro k u v hm43 k0 k1 hu hv
            have hkn : ((k.toNat : Nat) : Int) = k := by omega
            have hk1 : (k + 1).toNat = k.toNat + 1 := by omega
            have hcb := cn_bd (g := g) (k := k) t3.1
            have hok := sf_ok (g := g) t3.1 t3.2 (by omega) t4.2 t6 k.toNat
            rw [hkn, ← hu, ← hv] at hok
            refine g_iload dX8_sum_43 rfl ?_
            refine g_aload_n (i := 0) dX8_sum_45 rfl rfl ?_
            refine g_getP dX8_sum_46 fl8_21 (by first | rfl | assumption) (by first | decide | (show _ < 62; omega)) (by first | rfl | assumption) ?_
            refine g_iload_n (i := 1) dX8_sum_49 rfl rfl ?_
            refine g_iaload dX8_sum_50 rfl (by decide) ?_
            rw [hg1]
            skip -- ?_
            refine g_icmp_ge 225 dX8_sum_51 (by decide) (fun b51 => ?_) (fun b51 => ?_)
            · skip
              refine g_iload_n (i := 2) dX8_sum_225 rfl rfl ?_
              refine g_if_ne 233 dX8_sum_226 (by decide) (fun b226 => ?_) (fun b226 => ?_)
              · skip
                refine g_lload dX8_sum_233 rfl ?_
                exact n_retj dX8_sum_235 rfl (⟨by unfold a_sum; rw [if_pos (show (0 ≤ s ∧ s ≤ 1) ∧ 0 ≤ e ∧ e ≤ 1 by omega), hg]; show _ = (if e = 0 then (sf wd N g n m.toNat).1 else (sf wd N g n m.toNat).2); first | (rw [if_pos (by omega), hu, show k = m by omega]) | (rw [if_neg (by omega), hv, show k = m by omega]), hS0, FrT.rf c⟩)
              · skip
                refine g_lload_n (i := 3) dX8_sum_229 rfl rfl ?_
                refine g_goto 235 dX8_sum_230 (by decide) ?_
                exact n_retj dX8_sum_235 rfl (⟨by unfold a_sum; rw [if_pos (show (0 ≤ s ∧ s ≤ 1) ∧ 0 ≤ e ∧ e ≤ 1 by omega), hg]; show _ = (if e = 0 then (sf wd N g n m.toNat).1 else (sf wd N g n m.toNat).2); first | (rw [if_pos (by omega), hu, show k = m by omega]) | (rw [if_neg (by omega), hv, show k = m by omega]), hS0, FrT.rf c⟩)
            · skip
              refine g_aload_n (i := 0) dX8_sum_54 rfl rfl ?_
              refine g_iload_n (i := 1) dX8_sum_55 rfl rfl ?_
              refine g_iload dX8_sum_56 rfl ?_
              refine n_callVi (k_X8_sizeIn _ n wd _ _ N g hM0 hs01 hg4 (by omega)) dX8_sum_58 lk8_189 im_X8_sizeIn (by first | rfl | assumption) (by first | decide | (show _ < 62; omega)) rfl rfl rfl rfl (Nat.le_of_ble_eq_true rfl) (fun z c' hz => ?_)
              obtain ⟨rfl, hz2⟩ := hz
              have hz2 := hz2.symm
              subst hz2
              refine g_i2lx dX8_sum_61 ?_
              refine g_lstore8 dX8_sum_62 rfl ?_
              refine g_lconst (z := 0) dX8_sum_64 (by decide) ?_
              refine g_lstore10 dX8_sum_65 rfl ?_
              refine g_iconst dX8_sum_67 ?_
              refine g_istore12 dX8_sum_68 rfl ?_
              have L70 : ∀ (fu70 : Nat) (x i : Int), (wd - x).toNat < fu70 → (0 ≤ x) → (x ≤ wd) → (i = sI (fun x => cn g n k * sg g n k (fun r => N r x * N r x) - sg g n k (fun r => N r x) * sg g n k (fun r => N r x)) x) → qG (qYn X8_sum 2 (pJ (fun z c' => z = a_sum n wd N S s e ∧ TS c' n wd N S mm md T ∧ FrT c c'))) wN 70 [some (qP 39), some (qI s), some (qI e), some (qJ u), none, some (qJ v), none, some (qI k), some (qJ (cn g n k)), none, some (qJ i), none, some (qI x), none, none, none, none, none, none, none] [] c := by
                intro fu70
                induction fu70 with
                | zero => intro x i hm; exact absurd hm (Nat.not_lt_zero _)
                | succ fu70 ih70 =>
                  intro x i hm70 x0 x1 hi
                  refine g_iload dX8_sum_70 rfl ?_
                  refine g_aload_n (i := 0) dX8_sum_72 rfl rfl ?_
                  refine g_getI (ji := 1) dX8_sum_73 fl8_7 (by first | rfl | assumption) (by first | decide | (show _ < 62; omega)) (by first | rfl | assumption) (by decide) rfl (by first | assumption | rfl) ?_
                  refine g_icmp_ge 174 dX8_sum_76 (by decide) (fun b76 => ?_) (fun b76 => ?_)
                  · skip
                    have hits : i = sq wd N g n k := by rw [hi, show x = wd by omega]; rfl
                    rw [hits]
                    have hok2 := fun h => hok h
                    refine g_lload dX8_sum_174 rfl ?_
                    refine g_lconst (z := 0) dX8_sum_176 (by decide) ?_
                    refine g_lif_le 219 dX8_sum_177 dX8_sum_178 (by decide) (fun b177 => ?_) (fun b177 => ?_)
                    · skip
                      refine g_iinc7 dX8_sum_219 rfl ?_
                      refine g_goto 43 dX8_sum_222 (by decide) ?_
                      refine g_fg8 ?_
                      refine g_fg10 ?_
                      refine g_fg12 ?_
                      exact ih43 _ _ _ (by omega) (by first | assumption | omega) (by first | assumption | omega) (by rw [hk1, sf, hkn, ← hu, ← hv]; first | (rw [if_neg (by omega)]; exact hu) | (rw [if_pos (by omega)])) (by rw [hk1, sf, hkn, ← hu, ← hv]; first | (rw [if_neg (by omega)]; exact hv) | (rw [if_pos (by omega)]))
                    · skip
                      refine g_lload_n (i := 3) dX8_sum_181 rfl rfl ?_
                      refine g_lload dX8_sum_182 rfl ?_
                      refine g_lmul dX8_sum_184 ?_
                      refine g_lload dX8_sum_185 rfl ?_
                      refine g_lload dX8_sum_187 rfl ?_
                      refine g_lmul dX8_sum_189 ?_
                      refine g_ladd dX8_sum_190 ?_
                      refine g_lstore_n3 dX8_sum_191 rfl ?_
                      refine g_lload dX8_sum_192 rfl ?_
                      refine g_lload dX8_sum_194 rfl ?_
                      refine g_lmul dX8_sum_196 ?_
                      refine g_lstore5 dX8_sum_197 rfl ?_
                      refine g_lload_n (i := 3) dX8_sum_199 rfl rfl ?_
                      refine g_lload dX8_sum_200 rfl ?_
                      refine n_callSj (k_X8_common _ _ _ (by have := hok2 (by omega); omega) (by have := hok2 (by omega); omega)) dX8_sum_202 lk8_174 sm_X8_common rfl rfl rfl (Nat.le_of_ble_eq_true rfl) (fun z c' hz => ?_)
                      obtain ⟨rfl, hz2⟩ := hz
                      have hz2 := hz2.symm
                      subst hz2
                      have hok3 := hok2 (by omega)
                      have hgp := gc_pos (x := u * cn g n k + sq wd N g n k * v) (y := v * cn g n k) (by omega)
                      refine g_lstore12 dX8_sum_205 rfl ?_
                      refine g_lload_n (i := 3) dX8_sum_207 rfl rfl ?_
                      refine g_lload dX8_sum_208 rfl ?_
                      refine g_ldiv dX8_sum_210 (by omega) (by omega) (by omega) ?_
                      refine g_lstore_n3 dX8_sum_211 rfl ?_
                      refine g_lload dX8_sum_212 rfl ?_
                      refine g_lload dX8_sum_214 rfl ?_
                      refine g_ldiv dX8_sum_216 (by omega) (by omega) (by omega) ?_
                      refine g_lstore5 dX8_sum_217 rfl ?_
                      refine g_iinc7 dX8_sum_219 rfl ?_
                      refine g_goto 43 dX8_sum_222 (by decide) ?_
                      refine g_fg8 ?_
                      refine g_fg10 ?_
                      refine g_fg12 ?_
                      exact ih43 _ _ _ (by omega) (by first | assumption | omega) (by first | assumption | omega) (by rw [hk1, sf, hkn, ← hu, ← hv]; first | (rw [if_neg (by omega)]; exact hu) | (rw [if_pos (by omega)])) (by rw [hk1, sf, hkn, ← hu, ← hv]; first | (rw [if_neg (by omega)]; exact hv) | (rw [if_pos (by omega)]))
                  · skip
                    refine g_aload_n (i := 0) dX8_sum_79 rfl rfl ?_
                    refine g_iload_n (i := 1) dX8_sum_80 rfl rfl ?_
                    refine g_iload dX8_sum_81 rfl ?_
                    refine g_iload dX8_sum_83 rfl ?_
                    refine n_callVj (k_X8_sumIn _ n wd _ _ N g hM0 hs01 hg4 (by omega) _ (by omega) (by omega)) dX8_sum_85 lk8_192 im_X8_sumIn (by first | rfl | assumption) (by first | decide | (show _ < 62; omega)) rfl rfl rfl rfl (Nat.le_of_ble_eq_true rfl) (fun z c' hz => ?_)
                    obtain ⟨rfl, hz2⟩ := hz
                    have hz2 := hz2.symm
                    subst hz2
                    refine g_lstore13 dX8_sum_88 rfl ?_
                    refine g_lconst (z := 0) dX8_sum_90 (by decide) ?_
                    refine g_lstore15 dX8_sum_91 rfl ?_
                    refine g_iconst dX8_sum_93 ?_
                    refine g_istore17 dX8_sum_94 rfl ?_
                    have L96 : ∀ (fu96 : Nat) (r q : Int), (n - r).toNat < fu96 → (0 ≤ r) → (r ≤ n) → (q = sg g r k (fun r => N r x * N r x)) → qG (qYn X8_sum 2 (pJ (fun z c' => z = a_sum n wd N S s e ∧ TS c' n wd N S mm md T ∧ FrT c c'))) wN 96 [some (qP 39), some (qI s), some (qI e), some (qJ u), none, some (qJ v), none, some (qI k), some (qJ (cn g n k)), none, some (qJ i), none, some (qI x), some (qJ (sg g n k (fun r => N r x))), none, some (qJ q), none, some (qI r), none, none] [] c := by
                      intro fu96
                      induction fu96 with
                      | zero => intro r q hm; exact absurd hm (Nat.not_lt_zero _)
                      | succ fu96 ih96 =>
                        intro r q hm96 r0 r1 hq
                        refine g_iload dX8_sum_96 rfl ?_
                        refine g_aload_n (i := 0) dX8_sum_98 rfl rfl ?_
                        refine g_getI (ji := 0) dX8_sum_99 fl8_82 (by first | rfl | assumption) (by first | decide | (show _ < 62; omega)) (by first | rfl | assumption) (by decide) rfl (by first | assumption | rfl) ?_
                        refine g_icmp_ge 152 dX8_sum_102 (by decide) (fun b102 => ?_) (fun b102 => ?_)
                        · skip
                          refine g_lload dX8_sum_152 rfl ?_
                          refine g_lload dX8_sum_154 rfl ?_
                          refine g_lload dX8_sum_156 rfl ?_
                          refine g_lmul dX8_sum_158 ?_
                          refine g_lload dX8_sum_159 rfl ?_
                          refine g_lload dX8_sum_161 rfl ?_
                          refine g_lmul dX8_sum_163 ?_
                          refine g_lsub dX8_sum_164 ?_
                          refine g_ladd dX8_sum_165 ?_
                          refine g_lstore10 dX8_sum_166 rfl ?_
                          refine g_iinc12 dX8_sum_168 rfl ?_
                          refine g_goto 70 dX8_sum_171 (by decide) ?_
                          refine g_fg13 ?_
                          refine g_fg15 ?_
                          refine g_fg17 ?_
                          exact ih70 _ _ (by omega) (by first | assumption | omega) (by first | assumption | omega) (by rw [sI_s x0, hi, hq, show r = n by omega])
                        · skip
                          refine g_aload_n (i := 0) dX8_sum_105 rfl rfl ?_
                          refine g_iload_n (i := 1) dX8_sum_106 rfl rfl ?_
                          refine g_iload dX8_sum_107 rfl ?_
                          refine n_callVi (k_X8_of0 _ _ _ (by omega) (by omega) (by omega)) dX8_sum_109 lk8_182 im_X8_of0 (by first | rfl | assumption) (by first | decide | (show _ < 62; omega)) rfl rfl rfl rfl (Nat.le_of_ble_eq_true rfl) (fun z c' hz => ?_)
                          obtain ⟨rfl, hz2⟩ := hz
                          have hz2 := hz2.symm
                          subst hz2
                          have hgr := hg4 r r0 (by omega)
                          rw [hgr.1]
                          refine g_iload dX8_sum_112 rfl ?_
                          refine g_icmp_ne 133 dX8_sum_114 (by decide) (fun b114 => ?_) (fun b114 => ?_)
                          · skip
                            refine g_lconst (z := 0) dX8_sum_133 (by decide) ?_
                            refine g_lstore18 dX8_sum_134 rfl ?_
                            refine g_lload dX8_sum_136 rfl ?_
                            refine g_lload dX8_sum_138 rfl ?_
                            refine g_lload dX8_sum_140 rfl ?_
                            refine g_lmul dX8_sum_142 ?_
                            refine g_ladd dX8_sum_143 ?_
                            refine g_lstore15 dX8_sum_144 rfl ?_
                            refine g_iinc17 dX8_sum_146 rfl ?_
                            refine g_goto 96 dX8_sum_149 (by decide) ?_
                            refine g_fg18 ?_
                            exact ih96 _ _ (by omega) (by first | assumption | omega) (by first | assumption | omega) (by rw [sg_s r0, hq]; first | (rw [if_pos (by omega)]) | (rw [if_neg (by omega)]; omega))
                          · skip
                            refine g_aload_n (i := 0) dX8_sum_117 rfl rfl ?_
                            refine g_getP dX8_sum_118 fl8_13 (by first | rfl | assumption) (by first | decide | (show _ < 62; omega)) (by first | rfl | assumption) ?_
                            refine g_iconst dX8_sum_121 ?_
                            refine g_iload dX8_sum_122 rfl ?_
                            refine g_imul dX8_sum_124 ?_
                            refine g_iload dX8_sum_125 rfl ?_
                            refine g_iadd dX8_sum_127 ?_
                            refine g_iaload dX8_sum_128 rfl (by decide) ?_
                            rw [t5 r x r0 (by omega) x0 (by omega)]
                            have hb := t6 r r0 (by omega) x x0 (by omega)
                            skip -- ?_
                            refine g_i2lx dX8_sum_129 ?_
                            refine g_goto 134 dX8_sum_130 (by decide) ?_
                            refine g_lstore18 dX8_sum_134 rfl ?_
                            refine g_lload dX8_sum_136 rfl ?_
                            refine g_lload dX8_sum_138 rfl ?_
                            refine g_lload dX8_sum_140 rfl ?_
                            refine g_lmul dX8_sum_142 ?_
                            refine g_ladd dX8_sum_143 ?_
                            refine g_lstore15 dX8_sum_144 rfl ?_
                            refine g_iinc17 dX8_sum_146 rfl ?_
                            refine g_goto 96 dX8_sum_149 (by decide) ?_
                            refine g_fg18 ?_
                            exact ih96 _ _ (by omega) (by first | assumption | omega) (by first | assumption | omega) (by rw [sg_s r0, hq]; first | (rw [if_pos (by omega)]) | (rw [if_neg (by omega)]; omega))
                    exact L96 _ _ _ (Nat.lt_succ_self _) (by first | assumption | omega) (by first | assumption | omega) rfl
              exact L70 _ _ _ (Nat.lt_succ_self _) (by first | assumption | omega) (by first | assumption | omega) rfl
        exact L43 _ _ _ _ (Nat.lt_succ_self _) (by first | assumption | omega) (by first | assumption | omega) rfl rfl
      · skip
        have hg := hst.no b28
        refine g_ldc2 (z := -2000000003) dX8_sum_31 cw8_180 ?_
        exact n_retj dX8_sum_34 rfl (⟨by unfold a_sum; rw [if_pos (by omega), hg], hS0, FrT.rf c⟩)
    · skip
      refine g_ldc2 (z := -2000000002) dX8_sum_18 cw8_178 ?_
      exact n_retj dX8_sum_21 rfl (⟨by unfold a_sum; rw [if_neg (by omega)], hS0, FrT.rf c⟩)
