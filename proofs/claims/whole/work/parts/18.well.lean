/-- the nearest other GROUP of the first k: its number (-1: none), the sum of distances to it, its size -/
def wf (D g : Int → Int) (n own : Int) : Nat → Int × Int × Int
  | 0 => (-1, 0, 1)
  | k + 1 => if (¬ (k : Int) = own ∧ 0 < cn g n k) ∧ ((wf D g n own k).1 = -1 ∨ sg g n k D * (wf D g n own k).2.2 < (wf D g n own k).2.1 * cn g n k) then ((k : Int), sg g n k D, cn g n k) else wf D g n own k
theorem sgD_bd {D g : Int → Int} {n k : Int} (hn : 0 ≤ n) (hn2 : n ≤ 30) (hD : ∀ r, 0 ≤ r → r < n → 0 ≤ D r ∧ D r ≤ 16000000) : 0 ≤ sg g n k D ∧ sg g n k D ≤ 480000000 := by
  have h := sg_cn0 (g := g) (v := D) (k := k) (b := 16000000) (by omega) n.toNat (fun r r0 r1 => hD r r0 (by omega))
  rw [show ((n.toNat : Nat) : Int) = n by omega] at h
  have hc := cn_bd (g := g) (k := k) hn
  omega
theorem wf_bd {D g : Int → Int} {n own : Int} (hn : 0 ≤ n) (hn2 : n ≤ 30) (hD : ∀ r, 0 ≤ r → r < n → 0 ≤ D r ∧ D r ≤ 16000000) : ∀ k : Nat, ((wf D g n own k).1 = -1 ∨ (0 ≤ (wf D g n own k).1 ∧ (wf D g n own k).1 < k ∧ ¬ (wf D g n own k).1 = own ∧ (wf D g n own k).2.1 = sg g n (wf D g n own k).1 D ∧ (wf D g n own k).2.2 = cn g n (wf D g n own k).1)) ∧ (0 ≤ (wf D g n own k).2.1 ∧ (wf D g n own k).2.1 ≤ 480000000) ∧ 1 ≤ (wf D g n own k).2.2 ∧ (wf D g n own k).2.2 ≤ 30
  | 0 => by simp [wf]
  | k + 1 => by
    have ih := wf_bd (g := g) (own := own) hn hn2 hD k
    have hs := sgD_bd (g := g) (k := k) hn hn2 hD
    have hc := cn_bd (g := g) (k := k) hn
    rw [wf]
    split
    · rename_i h
      refine ⟨Or.inr ⟨by show (0 : Int) ≤ (k : Int); omega, by show (k : Int) < ((k + 1 : Nat) : Int); omega, h.1.1, rfl, rfl⟩, hs, ?_⟩
      show 1 ≤ cn g n k ∧ cn g n k ≤ 30
      omega
    · refine ⟨?_, ih.2⟩
      rcases ih.1 with h | h
      · exact Or.inl h
      · exact Or.inr ⟨h.1, by omega, h.2.2⟩
def welF (D g : Int → Int) (n own : Int) (m : Nat) : Int × Int := if (wf D g n own m).1 = -1 ∨ cn g n own < 2 then (0, 1) else if mx (sg g n own D * (wf D g n own m).2.2) ((wf D g n own m).2.1 * (cn g n own - 1)) = 0 then (0, 1) else (((wf D g n own m).2.1 * (cn g n own - 1) - sg g n own D * (wf D g n own m).2.2).tdiv (gc ((wf D g n own m).2.1 * (cn g n own - 1) - sg g n own D * (wf D g n own m).2.2) (mx (sg g n own D * (wf D g n own m).2.2) ((wf D g n own m).2.1 * (cn g n own - 1)))), (mx (sg g n own D * (wf D g n own m).2.2) ((wf D g n own m).2.1 * (cn g n own - 1))).tdiv (gc ((wf D g n own m).2.1 * (cn g n own - 1) - sg g n own D * (wf D g n own m).2.2) (mx (sg g n own D * (wf D g n own m).2.2) ((wf D g n own m).2.1 * (cn g n own - 1)))))
def a_wel (n wd : Int) (N : Int → Int → Int) (S : Sl) (s kd i e : Int) : Int := if 0 ≤ i ∧ i < n then (if (0 ≤ s ∧ s ≤ 1) ∧ (0 ≤ kd ∧ kd ≤ 2) ∧ 0 ≤ e ∧ e ≤ 1 then (match S s with | none => -2000000003 | some p => if p.1 i = -1 then -2000000003 else if e = 0 then (welF (ds wd N kd i) p.1 n (p.1 i) p.2.toNat).1 else (welF (ds wd N kd i) p.1 n (p.1 i) p.2.toNat).2) else -2000000002) else -2000000001
theorem cn_mem {g : Int → Int} {i k : Int} (i0 : 0 ≤ i) (hg : g i = k) : ∀ n : Nat, i < n → 1 ≤ cn g n k
  | 0, h => by omega
  | n + 1, h => by
    rw [show ((n + 1 : Nat) : Int) = (n : Int) + 1 by omega, cn_s (by omega)]
    have hc := cn_bd (g := g) (k := k) (n := n) (by omega)
    by_cases e : i = n
    · subst e; rw [if_pos hg]; omega
    · have := cn_mem (g := g) i0 hg n (by omega)
      split <;> omega
theorem wf_no {D g : Int → Int} {n own k : Int} (k0 : 0 ≤ k) (h : ¬ ((¬ k = own ∧ 0 < cn g n k) ∧ ((wf D g n own k.toNat).1 = -1 ∨ sg g n k D * (wf D g n own k.toNat).2.2 < (wf D g n own k.toNat).2.1 * cn g n k))) : wf D g n own (k + 1).toNat = wf D g n own k.toNat := by
  rw [show (k + 1).toNat = k.toNat + 1 by omega, wf, show ((k.toNat : Nat) : Int) = k by omega]
  exact if_neg h
theorem wf_yes {D g : Int → Int} {n own k : Int} (k0 : 0 ≤ k) (h : (¬ k = own ∧ 0 < cn g n k) ∧ ((wf D g n own k.toNat).1 = -1 ∨ sg g n k D * (wf D g n own k.toNat).2.2 < (wf D g n own k.toNat).2.1 * cn g n k)) : wf D g n own (k + 1).toNat = (k, sg g n k D, cn g n k) := by
  rw [show (k + 1).toNat = k.toNat + 1 by omega, wf, show ((k.toNat : Nat) : Int) = k by omega]
  exact if_pos h
theorem kk_distE {c : qC} {n wd m : Int} {N : Int → Int → Int} {g : Int → Int} {kd i k : Int} {o : Nat} (ho : o = 5 ∨ o = 8) (hG : Gr c o n g m) (hT : Tb c n wd N) (k0 : iR k) (d0 : 0 ≤ kd) (d1 : kd < 3) (i0 : 0 ≤ i) (i1 : i < n) : qN X3_distancesTo 2 [qP o, qP 1, qI kd, qI i, qI k] c (pJ (fun z c' => z = sg g n k (ds wd N kd i) ∧ c' = c)) := kk_dist ho hG hT k0 d0 d1 i0 i1
theorem k_farE (c : qC) (n wd s k : Int) (N : Int → Int → Int) (g : Int → Int) (hM : Md c n wd N) (s0 : 0 ≤ s ∧ s ≤ 1) (hg : ∀ r, 0 ≤ r → r < n → c 43 (30 * s + r) = g r ∧ -1 ≤ g r ∧ g r < 30) (k0 : iR k) (kd i : Int) (d0 : 0 ≤ kd) (d1 : kd < 3) (i0 : 0 ≤ i) (i1 : i < n) : qN X8_farFrom 1 [qP 39, qI s, qI kd, qI i, qI k] c (pJ (fun z c' => z = sg g n k (ds wd N kd i) ∧ c' = c)) := k_X8_farFrom c n wd s k N g hM s0 hg k0 kd i d0 d1 i0 i1
set_option maxHeartbeats 4000000 in
set_option maxRecDepth 100000 in
theorem k_X7_isLess (c : qC) (a b p q : Int) (h1 : lR (a * q)) (h2 : lR (p * b)) : qN X7_isLess 0 [qJ a, qJ b, qJ p, qJ q] c (pI (fun z c' => c' = c ∧ ((z = 1 ∧ a * q < p * b) ∨ (z = 0 ∧ ¬ a * q < p * b)))) := by
  refine qN.of [some (qJ a), none, some (qJ b), none, some (qJ p), none, some (qJ q), none] (by decide) rfl (fun _ => rfl) (fun _ => Nat.le_of_ble_eq_true rfl) ?_
  refine g_lload_n (i := 0) dX7_isLess_0 rfl rfl ?_
  refine g_lload dX7_isLess_1 rfl ?_
  refine g_lmul dX7_isLess_3 ?_
  refine g_lload dX7_isLess_4 rfl ?_
  refine g_lload_n (i := 2) dX7_isLess_6 rfl rfl ?_
  refine g_lmul dX7_isLess_7 ?_
  refine g_lif_ge 16 dX7_isLess_8 dX7_isLess_9 (by decide) (fun b8 => ?_) (fun b8 => ?_)
  · skip
    refine g_iconst dX7_isLess_16 ?_
    exact n_retz dX7_isLess_17 rfl (by first | exact Or.inl rfl | exact Or.inr rfl | assumption | omega) (⟨rfl, by omega⟩)
  · skip
    refine g_iconst dX7_isLess_12 ?_
    refine g_goto 17 dX7_isLess_13 (by decide) ?_
    exact n_retz dX7_isLess_17 rfl (by first | exact Or.inl rfl | exact Or.inr rfl | assumption | omega) (⟨rfl, by omega⟩)
set_option maxHeartbeats 4000000 in
set_option maxRecDepth 100000 in
theorem k_X7_nearestOtherGroup (c : qC) (n wd m : Int) (N : Int → Int → Int) (g : Int → Int) (o : Nat) (ho58 : o = 5 ∨ o = 8) (hLo : LAY o = .inr (.inr (3, [.inl (some (o + 1)), .inl (some (o + 2)), .inr 0, .inr 0]))) (ho62 : o < 62) (hL1 : LAY (o + 1) = .inl (0, 30)) (ho63 : o + 1 < 62) (hL2 : LAY (o + 2) = .inl (0, 30)) (ho64 : o + 2 < 62) (hG : Gr c o n g m) (hT : Tb c n wd N) (kd i : Int) (d0 : 0 ≤ kd) (d1 : kd < 3) (i0 : 0 ≤ i) (i1 : i < n) : qN X7_nearestOtherGroup 3 [qP 0, qP o, qI kd, qI i] c (pI (fun z c' => z = (wf (ds wd N kd i) g n (g i) m.toNat).1 ∧ c' = c)) := by
  have hT0 := hT
  have hG0 := hG
  obtain ⟨t1, t2, t3, t4, t5, t6, t7⟩ := hT
  obtain ⟨g1, g2, g3, g4, g5, g6⟩ := hG
  have hDb : ∀ r, 0 ≤ r → r < n → 0 ≤ ds wd N kd i r ∧ ds wd N kd i r ≤ 16000000 := fun r r0 r1 => hT0.bd (kd := kd) i0 i1 r0 r1
  refine qN.of [some (qP 0), some (qP o), some (qI kd), some (qI i), none, none, none, none, none, none, none, none] (by decide) rfl (fun _ => rfl) (fun _ => Nat.le_of_ble_eq_true rfl) ?_
  refine g_iconst dX7_nearestOtherGroup_0 ?_
  refine g_istore4 dX7_nearestOtherGroup_1 rfl ?_
  refine g_lconst (z := 0) dX7_nearestOtherGroup_3 (by decide) ?_
  refine g_lstore5 dX7_nearestOtherGroup_4 rfl ?_
  refine g_lconst (z := 1) dX7_nearestOtherGroup_6 (by decide) ?_
  refine g_lstore7 dX7_nearestOtherGroup_7 rfl ?_
  refine g_iconst dX7_nearestOtherGroup_9 ?_
  refine g_istore9 dX7_nearestOtherGroup_10 rfl ?_
  have L12 : ∀ (fu12 : Nat) (k z y b : Int), (m - k).toNat < fu12 → (0 ≤ k) → (k ≤ m) → (z = (wf (ds wd N kd i) g n (g i) k.toNat).1) → (y = (wf (ds wd N kd i) g n (g i) k.toNat).2.1) → (b = (wf (ds wd N kd i) g n (g i) k.toNat).2.2) → qG (qYn X7_nearestOtherGroup 3 (pI (fun z c' => z = (wf (ds wd N kd i) g n (g i) m.toNat).1 ∧ c' = c))) wN 12 [some (qP 0), some (qP o), some (qI kd), some (qI i), some (qI z), some (qJ y), none, some (qJ b), none, some (qI k), none, none] [] c := by
    intro fu12
    induction fu12 with
    | zero => intro k z y b hm; exact absurd hm (Nat.not_lt_zero _)
    | succ fu12 ih12 =>
      intro k z y b hm12 k0 k1 hix hy hb
      have hkn : ((k.toNat : Nat) : Int) = k := by omega
      have hk1 : (k + 1).toNat = k.toNat + 1 := by omega
      have hcb := cn_bd (g := g) (k := k) t3.1
      have hsb := sgD_bd (g := g) (k := k) t3.1 t3.2 hDb
      have hwb := wf_bd (g := g) (own := g i) t3.1 t3.2 hDb k.toNat
      rw [← hix, ← hy, ← hb, hkn] at hwb
      have hgi := g5 i i0 i1
      have hp1 := mul_le2 hsb.1 hsb.2 (show 0 ≤ b by omega) (show b ≤ 30 by omega)
      have hp2 := mul_le2 hwb.2.1.1 hwb.2.1.2 hcb.1 (show cn g n k ≤ 30 by omega)
      refine g_iload dX7_nearestOtherGroup_12 rfl ?_
      refine g_aload_n (i := 1) dX7_nearestOtherGroup_14 rfl rfl ?_
      refine g_getI (ji := 3) dX7_nearestOtherGroup_15 fl7_79 hLo ho62 (by first | rfl | assumption) (by decide) rfl (by first | assumption | rfl) ?_
      refine g_icmp_ge 106 dX7_nearestOtherGroup_18 (by decide) (fun b18 => ?_) (fun b18 => ?_)
      · skip
        refine g_iload dX7_nearestOtherGroup_106 rfl ?_
        exact n_reti dX7_nearestOtherGroup_108 rfl (⟨by rw [hix, show k = m by omega], rfl⟩)
      · skip
        refine g_iload dX7_nearestOtherGroup_21 rfl ?_
        refine g_aload_n (i := 1) dX7_nearestOtherGroup_23 rfl rfl ?_
        refine g_getP dX7_nearestOtherGroup_24 fl7_166 hLo ho62 (by first | rfl | assumption) ?_
        refine g_iload_n (i := 3) dX7_nearestOtherGroup_27 rfl rfl ?_
        refine g_iaload dX7_nearestOtherGroup_28 hL1 ho63 ?_
        rw [hgi.1]
        skip -- ?_
        refine g_icmp_eq 100 dX7_nearestOtherGroup_29 (by decide) (fun b29 => ?_) (fun b29 => ?_)
        · skip
          refine g_iinc9 dX7_nearestOtherGroup_100 rfl ?_
          refine g_goto 12 dX7_nearestOtherGroup_103 (by decide) ?_
          exact ih12 _ _ _ _ (by omega) (by first | assumption | omega) (by first | assumption | omega) (by rw [hk1, wf, hkn, ← hix, ← hy, ← hb]; first | (rw [if_neg (by omega)]; assumption) | (rw [if_pos (by omega)])) (by rw [hk1, wf, hkn, ← hix, ← hy, ← hb]; first | (rw [if_neg (by omega)]; assumption) | (rw [if_pos (by omega)])) (by rw [hk1, wf, hkn, ← hix, ← hy, ← hb]; first | (rw [if_neg (by omega)]; assumption) | (rw [if_pos (by omega)]))
        · skip
          refine g_aload_n (i := 1) dX7_nearestOtherGroup_32 rfl rfl ?_
          refine g_getP dX7_nearestOtherGroup_33 fl7_173 hLo ho62 (by first | rfl | assumption) ?_
          refine g_iload dX7_nearestOtherGroup_36 rfl ?_
          refine g_iaload dX7_nearestOtherGroup_38 hL2 ho64 ?_
          rw [g6 k k0 (by omega)]
          skip -- ?_
          refine g_if_le 100 dX7_nearestOtherGroup_39 (by decide) (fun b39 => ?_) (fun b39 => ?_)
          · skip
            refine g_iinc9 dX7_nearestOtherGroup_100 rfl ?_
            refine g_goto 12 dX7_nearestOtherGroup_103 (by decide) ?_
            exact ih12 _ _ _ _ (by omega) (by first | assumption | omega) (by first | assumption | omega) (by rw [hk1, wf, hkn, ← hix, ← hy, ← hb]; first | (rw [if_neg (by omega)]; assumption) | (rw [if_pos (by omega)])) (by rw [hk1, wf, hkn, ← hix, ← hy, ← hb]; first | (rw [if_neg (by omega)]; assumption) | (rw [if_pos (by omega)])) (by rw [hk1, wf, hkn, ← hix, ← hy, ← hb]; first | (rw [if_neg (by omega)]; assumption) | (rw [if_pos (by omega)]))
          · skip
            refine g_aload_n (i := 1) dX7_nearestOtherGroup_42 rfl rfl ?_
            refine g_aload_n (i := 0) dX7_nearestOtherGroup_43 rfl rfl ?_
            refine g_getP dX7_nearestOtherGroup_44 fl7_10 (by first | rfl | assumption) (by first | decide | (show _ < 62; omega)) (by first | rfl | assumption) ?_
            refine g_iload_n (i := 2) dX7_nearestOtherGroup_47 rfl rfl ?_
            refine g_iload_n (i := 3) dX7_nearestOtherGroup_48 rfl rfl ?_
            refine g_iload dX7_nearestOtherGroup_49 rfl ?_
            refine n_callVj (kk_distE (m := m) ho58 hG0 hT0 (by omega) d0 d1 i0 i1) dX7_nearestOtherGroup_51 lk7_218 im_X3_distancesTo hLo ho62 rfl rfl rfl rfl (Nat.le_of_ble_eq_true rfl) (fun z c' hz => ?_)
            obtain ⟨rfl, hz2⟩ := hz
            have hz2 := hz2.symm
            subst hz2
            refine g_lstore10 dX7_nearestOtherGroup_54 rfl ?_
            refine g_iload dX7_nearestOtherGroup_56 rfl ?_
            refine g_iconst dX7_nearestOtherGroup_58 ?_
            refine g_icmp_eq 82 dX7_nearestOtherGroup_59 (by decide) (fun b59 => ?_) (fun b59 => ?_)
            · skip
              refine g_iload dX7_nearestOtherGroup_82 rfl ?_
              refine g_istore4 dX7_nearestOtherGroup_84 rfl ?_
              refine g_lload dX7_nearestOtherGroup_86 rfl ?_
              refine g_lstore5 dX7_nearestOtherGroup_88 rfl ?_
              refine g_aload_n (i := 1) dX7_nearestOtherGroup_90 rfl rfl ?_
              refine g_getP dX7_nearestOtherGroup_91 fl7_173 hLo ho62 (by first | rfl | assumption) ?_
              refine g_iload dX7_nearestOtherGroup_94 rfl ?_
              refine g_iaload dX7_nearestOtherGroup_96 hL2 ho64 ?_
              rw [g6 k k0 (by omega)]
              skip -- ?_
              refine g_i2lx dX7_nearestOtherGroup_97 ?_
              refine g_lstore7 dX7_nearestOtherGroup_98 rfl ?_
              refine g_iinc9 dX7_nearestOtherGroup_100 rfl ?_
              refine g_goto 12 dX7_nearestOtherGroup_103 (by decide) ?_
              refine g_fg10 ?_
              exact ih12 _ _ _ _ (by omega) (by first | assumption | omega) (by first | assumption | omega) (by rw [hk1, wf, hkn, ← hix, ← hy, ← hb]; first | (rw [if_neg (by omega)]; assumption) | (rw [if_pos (by omega)])) (by rw [hk1, wf, hkn, ← hix, ← hy, ← hb]; first | (rw [if_neg (by omega)]; assumption) | (rw [if_pos (by omega)])) (by rw [hk1, wf, hkn, ← hix, ← hy, ← hb]; first | (rw [if_neg (by omega)]; assumption) | (rw [if_pos (by omega)]))
            · skip
              refine g_lload dX7_nearestOtherGroup_62 rfl ?_
              refine g_aload_n (i := 1) dX7_nearestOtherGroup_64 rfl rfl ?_
              refine g_getP dX7_nearestOtherGroup_65 fl7_173 hLo ho62 (by first | rfl | assumption) ?_
              refine g_iload dX7_nearestOtherGroup_68 rfl ?_
              refine g_iaload dX7_nearestOtherGroup_70 hL2 ho64 ?_
              rw [g6 k k0 (by omega)]
              skip -- ?_
              refine g_i2lx dX7_nearestOtherGroup_71 ?_
              refine g_lload dX7_nearestOtherGroup_72 rfl ?_
              refine g_lload dX7_nearestOtherGroup_74 rfl ?_
              refine n_callSi (k_X7_isLess _ _ _ _ _ (by omega) (by omega)) dX7_nearestOtherGroup_76 lk7_228 sm_X7_isLess rfl rfl rfl (Nat.le_of_ble_eq_true rfl) (fun z c' hz => ?_)
              obtain ⟨hz2, hlt⟩ := hz
              have hz2 := hz2.symm
              subst hz2
              refine g_if_eq 100 dX7_nearestOtherGroup_79 (by decide) (fun b79 => ?_) (fun b79 => ?_)
              · skip
                refine g_iinc9 dX7_nearestOtherGroup_100 rfl ?_
                refine g_goto 12 dX7_nearestOtherGroup_103 (by decide) ?_
                refine g_fg10 ?_
                exact ih12 _ _ _ _ (by omega) (by first | assumption | omega) (by first | assumption | omega) (by rw [hk1, wf, hkn, ← hix, ← hy, ← hb]; first | (rw [if_neg (by omega)]; assumption) | (rw [if_pos (by omega)])) (by rw [hk1, wf, hkn, ← hix, ← hy, ← hb]; first | (rw [if_neg (by omega)]; assumption) | (rw [if_pos (by omega)])) (by rw [hk1, wf, hkn, ← hix, ← hy, ← hb]; first | (rw [if_neg (by omega)]; assumption) | (rw [if_pos (by omega)]))
              · skip
                refine g_iload dX7_nearestOtherGroup_82 rfl ?_
                refine g_istore4 dX7_nearestOtherGroup_84 rfl ?_
                refine g_lload dX7_nearestOtherGroup_86 rfl ?_
                refine g_lstore5 dX7_nearestOtherGroup_88 rfl ?_
                refine g_aload_n (i := 1) dX7_nearestOtherGroup_90 rfl rfl ?_
                refine g_getP dX7_nearestOtherGroup_91 fl7_173 hLo ho62 (by first | rfl | assumption) ?_
                refine g_iload dX7_nearestOtherGroup_94 rfl ?_
                refine g_iaload dX7_nearestOtherGroup_96 hL2 ho64 ?_
                rw [g6 k k0 (by omega)]
                skip -- ?_
                refine g_i2lx dX7_nearestOtherGroup_97 ?_
                refine g_lstore7 dX7_nearestOtherGroup_98 rfl ?_
                refine g_iinc9 dX7_nearestOtherGroup_100 rfl ?_
                refine g_goto 12 dX7_nearestOtherGroup_103 (by decide) ?_
                refine g_fg10 ?_
                exact ih12 _ _ _ _ (by omega) (by first | assumption | omega) (by first | assumption | omega) (by rw [hk1, wf, hkn, ← hix, ← hy, ← hb]; first | (rw [if_neg (by omega)]; assumption) | (rw [if_pos (by omega)])) (by rw [hk1, wf, hkn, ← hix, ← hy, ← hb]; first | (rw [if_neg (by omega)]; assumption) | (rw [if_pos (by omega)])) (by rw [hk1, wf, hkn, ← hix, ← hy, ← hb]; first | (rw [if_neg (by omega)]; assumption) | (rw [if_pos (by omega)]))
  exact L12 _ _ _ _ _ (Nat.lt_succ_self _) (by first | assumption | omega) (by first | assumption | omega) rfl rfl rfl
set_option maxHeartbeats 4000000 in
set_option maxRecDepth 100000 in
theorem k_X7_reckonWell (c : qC) (n wd m : Int) (N : Int → Int → Int) (g : Int → Int) (o : Nat) (ho58 : o = 5 ∨ o = 8) (hLo : LAY o = .inr (.inr (3, [.inl (some (o + 1)), .inl (some (o + 2)), .inr 0, .inr 0]))) (ho62 : o < 62) (hL1 : LAY (o + 1) = .inl (0, 30)) (ho63 : o + 1 < 62) (hL2 : LAY (o + 2) = .inl (0, 30)) (ho64 : o + 2 < 62) (hG : Gr c o n g m) (hT : Tb c n wd N) (kd i : Int) (d0 : 0 ≤ kd) (d1 : kd < 3) (i0 : 0 ≤ i) (i1 : i < n) (hne : ¬ g i = -1) : qN X7_reckonWell 4 [qP 0, qP o, qI kd, qI i] c (pV (fun c' => (∀ q, q ≠ 38 → c' q = c q) ∧ c' 38 0 = (welF (ds wd N kd i) g n (g i) m.toNat).1 ∧ c' 38 1 = (welF (ds wd N kd i) g n (g i) m.toNat).2)) := by
  have hT0 := hT
  have hG0 := hG
  obtain ⟨t1, t2, t3, t4, t5, t6, t7⟩ := hT
  obtain ⟨g1, g2, g3, g4, g5, g6⟩ := hG
  have hDb : ∀ r, 0 ≤ r → r < n → 0 ≤ ds wd N kd i r ∧ ds wd N kd i r ≤ 16000000 := fun r r0 r1 => hT0.bd (kd := kd) i0 i1 r0 r1
  have hgi := g5 i i0 i1
  have hwb := wf_bd (g := g) (own := g i) t3.1 t3.2 hDb m.toNat
  have hmn : ((m.toNat : Nat) : Int) = m := by omega
  rw [hmn] at hwb
  obtain ⟨ix, y, b, hw⟩ : ∃ ix y b, wf (ds wd N kd i) g n (g i) m.toNat = (ix, y, b) := ⟨_, _, _, rfl⟩
  rw [hw] at hwb
  dsimp only at hwb
  have hco := cn_bd (g := g) (k := g i) t3.1
  have hsb := sgD_bd (g := g) (k := g i) t3.1 t3.2 hDb
  have hp1 := mul_le2 hsb.1 hsb.2 (show 0 ≤ b by omega) hwb.2.2.2
  refine qN.of [some (qP 0), some (qP o), some (qI kd), some (qI i), none, none, none, none, none, none, none, none] (by decide) rfl (fun _ => rfl) (fun _ => Nat.le_of_ble_eq_true rfl) ?_
  refine g_aload_n (i := 1) dX7_reckonWell_0 rfl rfl ?_
  refine g_getP dX7_reckonWell_1 fl7_166 hLo ho62 (by first | rfl | assumption) ?_
  refine g_iload_n (i := 3) dX7_reckonWell_4 rfl rfl ?_
  refine g_iaload dX7_reckonWell_5 hL1 ho63 ?_
  rw [hgi.1]
  skip -- ?_
  refine g_istore4 dX7_reckonWell_6 rfl ?_
  refine g_aload_n (i := 0) dX7_reckonWell_8 rfl rfl ?_
  refine g_aload_n (i := 1) dX7_reckonWell_9 rfl rfl ?_
  refine g_iload_n (i := 2) dX7_reckonWell_10 rfl rfl ?_
  refine g_iload_n (i := 3) dX7_reckonWell_11 rfl rfl ?_
  refine n_callVi (k_X7_nearestOtherGroup _ n wd m N g o ho58 hLo ho62 hL1 ho63 hL2 ho64 hG0 hT0 _ _ d0 d1 i0 i1) dX7_reckonWell_12 lk7_214 im_X7_nearestOtherGroup (by first | rfl | assumption) (by first | decide | (show _ < 62; omega)) rfl rfl rfl rfl (Nat.le_of_ble_eq_true rfl) (fun z c' hz => ?_)
  obtain ⟨hz1, hz2⟩ := hz
  have hz2 := hz2.symm
  subst hz2
  rw [hw] at hz1
  have hz1 : ix = z := hz1.symm
  subst hz1
  refine g_istore5 dX7_reckonWell_15 rfl ?_
  refine g_iload dX7_reckonWell_17 rfl ?_
  refine g_iconst dX7_reckonWell_19 ?_
  refine g_icmp_eq 34 dX7_reckonWell_20 (by decide) (fun b20 => ?_) (fun b20 => ?_)
  · skip
    refine g_aload_n (i := 0) dX7_reckonWell_34 rfl rfl ?_
    refine g_getP dX7_reckonWell_35 fl7_54 (by first | rfl | assumption) (by first | decide | (show _ < 62; omega)) (by first | rfl | assumption) ?_
    refine g_lconst (z := 0) dX7_reckonWell_38 (by decide) ?_
    refine g_lconst (z := 1) dX7_reckonWell_39 (by decide) ?_
    refine n_callVv (k_X2_put_38 _ _ _ (by omega) (by omega) (by omega)) dX7_reckonWell_40 lk7_199 im_X2_put (by first | rfl | assumption) (by first | decide | (show _ < 62; omega)) rfl rfl rfl rfl (Nat.le_of_ble_eq_true rfl) (fun c' hz => ?_)
    subst hz
    exact n_retv dX7_reckonWell_43 rfl (⟨fun q hq => by rw [qu_ne hq, qu_ne hq], by unfold welF; rw [hw, if_pos (by show ix = -1 ∨ cn g n (g i) < 2; omega)]; rfl, by unfold welF; rw [hw, if_pos (by show ix = -1 ∨ cn g n (g i) < 2; omega)]; rfl⟩)
  · skip
    refine g_aload_n (i := 1) dX7_reckonWell_23 rfl rfl ?_
    refine g_getP dX7_reckonWell_24 fl7_173 hLo ho62 (by first | rfl | assumption) ?_
    refine g_iload dX7_reckonWell_27 rfl ?_
    refine g_iaload dX7_reckonWell_29 hL2 ho64 ?_
    rw [g6 (g i) (by omega) (by omega)]
    skip -- ?_
    refine g_iconst dX7_reckonWell_30 ?_
    refine g_icmp_ge 44 dX7_reckonWell_31 (by decide) (fun b31 => ?_) (fun b31 => ?_)
    · skip
      have hix : 0 ≤ ix ∧ ix < m ∧ ¬ ix = g i ∧ y = sg g n ix (ds wd N kd i) ∧ b = cn g n ix := hwb.1.elim (fun q => absurd q (by omega)) (fun q => q)
      obtain ⟨ix0, ix1, ix2, hiy, hib⟩ := hix
      have hp2 := mul_le2 hwb.2.1.1 hwb.2.1.2 (show 0 ≤ cn g n (g i) - 1 by omega) (show cn g n (g i) - 1 ≤ 30 by omega)
      refine g_aload_n (i := 1) dX7_reckonWell_44 rfl rfl ?_
      refine g_aload_n (i := 0) dX7_reckonWell_45 rfl rfl ?_
      refine g_getP dX7_reckonWell_46 fl7_10 (by first | rfl | assumption) (by first | decide | (show _ < 62; omega)) (by first | rfl | assumption) ?_
      refine g_iload_n (i := 2) dX7_reckonWell_49 rfl rfl ?_
      refine g_iload_n (i := 3) dX7_reckonWell_50 rfl rfl ?_
      refine g_iload dX7_reckonWell_51 rfl ?_
      refine n_callVj (kk_distE (m := m) ho58 hG0 hT0 (by omega) d0 d1 i0 i1) dX7_reckonWell_53 lk7_218 im_X3_distancesTo hLo ho62 rfl rfl rfl rfl (Nat.le_of_ble_eq_true rfl) (fun z c' hz => ?_)
      obtain ⟨rfl, hz2⟩ := hz
      have hz2 := hz2.symm
      subst hz2
      refine g_aload_n (i := 1) dX7_reckonWell_56 rfl rfl ?_
      refine g_getP dX7_reckonWell_57 fl7_173 hLo ho62 (by first | rfl | assumption) ?_
      refine g_iload dX7_reckonWell_60 rfl ?_
      refine g_iaload dX7_reckonWell_62 hL2 ho64 ?_
      rw [g6 ix (by omega) (by omega), ← hib]
      skip -- ?_
      refine g_i2lx dX7_reckonWell_63 ?_
      refine g_lmul dX7_reckonWell_64 ?_
      refine g_lstore6 dX7_reckonWell_65 rfl ?_
      refine g_aload_n (i := 1) dX7_reckonWell_67 rfl rfl ?_
      refine g_aload_n (i := 0) dX7_reckonWell_68 rfl rfl ?_
      refine g_getP dX7_reckonWell_69 fl7_10 (by first | rfl | assumption) (by first | decide | (show _ < 62; omega)) (by first | rfl | assumption) ?_
      refine g_iload_n (i := 2) dX7_reckonWell_72 rfl rfl ?_
      refine g_iload_n (i := 3) dX7_reckonWell_73 rfl rfl ?_
      refine g_iload dX7_reckonWell_74 rfl ?_
      refine n_callVj (kk_distE (m := m) ho58 hG0 hT0 (by omega) d0 d1 i0 i1) dX7_reckonWell_76 lk7_218 im_X3_distancesTo hLo ho62 rfl rfl rfl rfl (Nat.le_of_ble_eq_true rfl) (fun z c' hz => ?_)
      obtain ⟨rfl, hz2⟩ := hz
      have hz2 := hz2.symm
      subst hz2
      rw [← hiy]
      refine g_aload_n (i := 1) dX7_reckonWell_79 rfl rfl ?_
      refine g_getP dX7_reckonWell_80 fl7_173 hLo ho62 (by first | rfl | assumption) ?_
      refine g_iload dX7_reckonWell_83 rfl ?_
      refine g_iaload dX7_reckonWell_85 hL2 ho64 ?_
      rw [g6 (g i) (by omega) (by omega)]
      skip -- ?_
      refine g_iconst dX7_reckonWell_86 ?_
      refine g_isub dX7_reckonWell_87 ?_
      refine g_i2lx dX7_reckonWell_88 ?_
      refine g_lmul dX7_reckonWell_89 ?_
      refine g_lstore8 dX7_reckonWell_90 rfl ?_
      refine g_lload dX7_reckonWell_92 rfl ?_
      refine g_lload dX7_reckonWell_94 rfl ?_
      refine g_mmaxJ dX7_reckonWell_96 mw7_222 ?_ (Nat.le_refl 0) (Nat.le_refl 0) rfl (Nat.le_of_ble_eq_true rfl)
      refine g_lstore10 dX7_reckonWell_99 rfl ?_
      have hmx : 0 ≤ mx (sg g n (g i) (ds wd N kd i) * b) (y * (cn g n (g i) - 1)) ∧ mx (sg g n (g i) (ds wd N kd i) * b) (y * (cn g n (g i) - 1)) ≤ 14400000000 := by unfold mx; split <;> omega
      refine g_lload dX7_reckonWell_101 rfl ?_
      refine g_lconst (z := 0) dX7_reckonWell_103 (by decide) ?_
      refine g_lif_ne 120 dX7_reckonWell_104 dX7_reckonWell_105 (by decide) (fun b104 => ?_) (fun b104 => ?_)
      · skip
        refine g_aload_n (i := 0) dX7_reckonWell_120 rfl rfl ?_
        refine g_getP dX7_reckonWell_121 fl7_54 (by first | rfl | assumption) (by first | decide | (show _ < 62; omega)) (by first | rfl | assumption) ?_
        refine g_lload dX7_reckonWell_124 rfl ?_
        refine g_lload dX7_reckonWell_126 rfl ?_
        refine g_lsub dX7_reckonWell_128 ?_
        refine g_lload dX7_reckonWell_129 rfl ?_
        refine n_callVv (k_X2_put_38 _ _ _ (by unfold mx at *; omega) (by unfold mx at *; omega) (by unfold mx at *; omega)) dX7_reckonWell_131 lk7_199 im_X2_put (by first | rfl | assumption) (by first | decide | (show _ < 62; omega)) rfl rfl rfl rfl (Nat.le_of_ble_eq_true rfl) (fun c' hz => ?_)
        subst hz
        exact n_retv dX7_reckonWell_134 rfl (by first
      | exact ⟨fun q hq => by rw [qu_ne hq, qu_ne hq], by unfold welF; rw [hw, if_neg (by show ¬ (ix = -1 ∨ cn g n (g i) < 2); omega), if_neg (by show ¬ mx (sg g n (g i) (ds wd N kd i) * b) (y * (cn g n (g i) - 1)) = 0; omega)]; rfl, by unfold welF; rw [hw, if_neg (by show ¬ (ix = -1 ∨ cn g n (g i) < 2); omega), if_neg (by show ¬ mx (sg g n (g i) (ds wd N kd i) * b) (y * (cn g n (g i) - 1)) = 0; omega)]; rfl⟩
      | exact ⟨fun q hq => by rw [qu_ne hq, qu_ne hq], by unfold welF; rw [hw, if_neg (by show ¬ (ix = -1 ∨ cn g n (g i) < 2); omega), if_pos (by show mx (sg g n (g i) (ds wd N kd i) * b) (y * (cn g n (g i) - 1)) = 0; omega)]; rfl, by unfold welF; rw [hw, if_neg (by show ¬ (ix = -1 ∨ cn g n (g i) < 2); omega), if_pos (by show mx (sg g n (g i) (ds wd N kd i) * b) (y * (cn g n (g i) - 1)) = 0; omega)]; rfl⟩)
      · skip
        refine g_aload_n (i := 0) dX7_reckonWell_108 rfl rfl ?_
        refine g_getP dX7_reckonWell_109 fl7_54 (by first | rfl | assumption) (by first | decide | (show _ < 62; omega)) (by first | rfl | assumption) ?_
        refine g_lconst (z := 0) dX7_reckonWell_112 (by decide) ?_
        refine g_lconst (z := 1) dX7_reckonWell_113 (by decide) ?_
        refine n_callVv (k_X2_put_38 _ _ _ (by omega) (by omega) (by omega)) dX7_reckonWell_114 lk7_199 im_X2_put (by first | rfl | assumption) (by first | decide | (show _ < 62; omega)) rfl rfl rfl rfl (Nat.le_of_ble_eq_true rfl) (fun c' hz => ?_)
        subst hz
        refine g_goto 134 dX7_reckonWell_117 (by decide) ?_
        exact n_retv dX7_reckonWell_134 rfl (by first
      | exact ⟨fun q hq => by rw [qu_ne hq, qu_ne hq], by unfold welF; rw [hw, if_neg (by show ¬ (ix = -1 ∨ cn g n (g i) < 2); omega), if_neg (by show ¬ mx (sg g n (g i) (ds wd N kd i) * b) (y * (cn g n (g i) - 1)) = 0; omega)]; rfl, by unfold welF; rw [hw, if_neg (by show ¬ (ix = -1 ∨ cn g n (g i) < 2); omega), if_neg (by show ¬ mx (sg g n (g i) (ds wd N kd i) * b) (y * (cn g n (g i) - 1)) = 0; omega)]; rfl⟩
      | exact ⟨fun q hq => by rw [qu_ne hq, qu_ne hq], by unfold welF; rw [hw, if_neg (by show ¬ (ix = -1 ∨ cn g n (g i) < 2); omega), if_pos (by show mx (sg g n (g i) (ds wd N kd i) * b) (y * (cn g n (g i) - 1)) = 0; omega)]; rfl, by unfold welF; rw [hw, if_neg (by show ¬ (ix = -1 ∨ cn g n (g i) < 2); omega), if_pos (by show mx (sg g n (g i) (ds wd N kd i) * b) (y * (cn g n (g i) - 1)) = 0; omega)]; rfl⟩)
    · skip
      refine g_aload_n (i := 0) dX7_reckonWell_34 rfl rfl ?_
      refine g_getP dX7_reckonWell_35 fl7_54 (by first | rfl | assumption) (by first | decide | (show _ < 62; omega)) (by first | rfl | assumption) ?_
      refine g_lconst (z := 0) dX7_reckonWell_38 (by decide) ?_
      refine g_lconst (z := 1) dX7_reckonWell_39 (by decide) ?_
      refine n_callVv (k_X2_put_38 _ _ _ (by omega) (by omega) (by omega)) dX7_reckonWell_40 lk7_199 im_X2_put (by first | rfl | assumption) (by first | decide | (show _ < 62; omega)) rfl rfl rfl rfl (Nat.le_of_ble_eq_true rfl) (fun c' hz => ?_)
      subst hz
      exact n_retv dX7_reckonWell_43 rfl (⟨fun q hq => by rw [qu_ne hq, qu_ne hq], by unfold welF; rw [hw, if_pos (by show ix = -1 ∨ cn g n (g i) < 2; omega)]; rfl, by unfold welF; rw [hw, if_pos (by show ix = -1 ∨ cn g n (g i) < 2; omega)]; rfl⟩)
set_option maxHeartbeats 4000000 in
set_option maxRecDepth 100000 in
theorem k_X7_well (c : qC) (n wd : Int) (N : Int → Int → Int) (S : Sl) (mm : Int) (md : Int → Int) (T : Tr) (hS : CS c n wd N S mm md T) (s kd i e : Int) (s0 : iR s) (d0 : iR kd) (i0 : iR i) (e0 : iR e) : qN X7_well 5 [qP 0, qI s, qI kd, qI i, qI e] c (pJ (fun z c' => z = a_wel n wd N S s kd i e ∧ CS c' n wd N S mm md T ∧ FrC c c')) := by
  have hS0 := hS
  obtain ⟨hT, hSl, hMd, hTr⟩ := hS
  have hT0 := hT
  obtain ⟨t1, t2, t3, t4, t5, t6, t7⟩ := hT
  refine qN.of [some (qP 0), some (qI s), some (qI kd), some (qI i), some (qI e)] (by decide) rfl (fun _ => rfl) (fun _ => Nat.le_of_ble_eq_true rfl) ?_
  refine g_aload_n (i := 0) dX7_well_0 rfl rfl ?_
  refine g_iload_n (i := 3) dX7_well_1 rfl rfl ?_
  refine n_callVi (k_X7_isRow _ _ _ (by assumption) (by omega) (by omega)) dX7_well_2 lk7_85 im_X7_isRow (by first | rfl | assumption) (by first | decide | (show _ < 62; omega)) rfl rfl rfl rfl (Nat.le_of_ble_eq_true rfl) (fun z c' hz => ?_)
  obtain ⟨hz2, hz⟩ := hz
  have hz2 := hz2.symm
  subst hz2
  refine g_if_ne 12 dX7_well_5 (by decide) (fun b5 => ?_) (fun b5 => ?_)
  · skip
    refine g_iload_n (i := 1) dX7_well_12 rfl rfl ?_
    refine n_callSi (k_X7_isSlot _ _ (by omega)) dX7_well_13 lk7_100 sm_X7_isSlot rfl rfl rfl (Nat.le_of_ble_eq_true rfl) (fun z c' hz => ?_)
    obtain ⟨hz2, hz⟩ := hz
    have hz2 := hz2.symm
    subst hz2
    refine g_if_eq 34 dX7_well_16 (by decide) (fun b16 => ?_) (fun b16 => ?_)
    · skip
      refine g_ldc2 (z := -2000000002) dX7_well_34 cw7_135 ?_
      exact n_retj dX7_well_37 rfl (⟨by unfold a_wel; rw [if_pos (by omega), if_neg (by omega)], hS0, FrC.rf c⟩)
    · skip
      refine g_iload_n (i := 2) dX7_well_19 rfl rfl ?_
      refine n_callSi (k_X7_isKind _ _ (by omega)) dX7_well_20 lk7_90 sm_X7_isKind rfl rfl rfl (Nat.le_of_ble_eq_true rfl) (fun z c' hz => ?_)
      obtain ⟨hz2, hz⟩ := hz
      have hz2 := hz2.symm
      subst hz2
      refine g_if_eq 34 dX7_well_23 (by decide) (fun b23 => ?_) (fun b23 => ?_)
      · skip
        refine g_ldc2 (z := -2000000002) dX7_well_34 cw7_135 ?_
        exact n_retj dX7_well_37 rfl (⟨by unfold a_wel; rw [if_pos (by omega), if_neg (by omega)], hS0, FrC.rf c⟩)
      · skip
        refine g_iload dX7_well_26 rfl ?_
        refine n_callSi (k_X7_isSide _ _ (by omega)) dX7_well_28 lk7_176 sm_X7_isSide rfl rfl rfl (Nat.le_of_ble_eq_true rfl) (fun z c' hz => ?_)
        obtain ⟨hz2, hz⟩ := hz
        have hz2 := hz2.symm
        subst hz2
        refine g_if_ne 38 dX7_well_31 (by decide) (fun b31 => ?_) (fun b31 => ?_)
        · skip
          obtain ⟨o, hoS, ho1, hLo, ho62, ho58, hL1, hL2, ho63, ho64⟩ := oS_ex (s := s) (by omega)
          have hst := hSl s (by omega) (by omega)
          rw [hoS] at hst
          have hsb := hst.b
          refine g_aload_n (i := 0) dX7_well_38 rfl rfl ?_
          refine g_getP dX7_well_39 fl7_18 (by first | rfl | assumption) (by first | decide | (show _ < 62; omega)) (by first | rfl | assumption) ?_
          refine g_iload_n (i := 1) dX7_well_42 rfl rfl ?_
          refine g_aaload dX7_well_43 rfl (by decide) ho1 ?_
          refine n_callVi (kk_isEmpty ho58 rfl (by omega)) dX7_well_44 lk7_162 im_X3_isEmpty hLo ho62 rfl rfl rfl rfl (Nat.le_of_ble_eq_true rfl) (fun z c' hz => ?_)
          obtain ⟨hz2, hz⟩ := hz
          have hz2 := hz2.symm
          subst hz2
          refine g_if_ne 65 dX7_well_47 (by decide) (fun b47 => ?_) (fun b47 => ?_)
          · skip
            refine g_ldc2 (z := -2000000003) dX7_well_65 cw7_137 ?_
            exact n_retj dX7_well_68 rfl (⟨by unfold a_wel; rw [if_pos (by omega), if_pos (by omega)]; first | (rw [hg]; exact (if_pos (by omega)).symm) | (rw [hst.no (by omega)]), hS0, FrC.rf c⟩)
          · skip
            obtain ⟨g, m, hg, hG⟩ := hst.yes (by omega)
            have hgi := hG.2.2.2.2.1 i (by omega) (by omega)
            have hg2 := hG.2.2.2.1
            refine g_aload_n (i := 0) dX7_well_50 rfl rfl ?_
            refine g_getP dX7_well_51 fl7_18 (by first | rfl | assumption) (by first | decide | (show _ < 62; omega)) (by first | rfl | assumption) ?_
            refine g_iload_n (i := 1) dX7_well_54 rfl rfl ?_
            refine g_aaload dX7_well_55 rfl (by decide) ho1 ?_
            refine g_getP dX7_well_56 fl7_166 hLo ho62 (by first | rfl | assumption) ?_
            refine g_iload_n (i := 3) dX7_well_59 rfl rfl ?_
            refine g_iaload dX7_well_60 hL1 ho63 ?_
            rw [hgi.1]
            skip -- ?_
            refine g_iconst dX7_well_61 ?_
            refine g_icmp_ne 69 dX7_well_62 (by decide) (fun b62 => ?_) (fun b62 => ?_)
            · skip
              refine g_aload_n (i := 0) dX7_well_69 rfl rfl ?_
              refine g_aload_n (i := 0) dX7_well_70 rfl rfl ?_
              refine g_getP dX7_well_71 fl7_18 (by first | rfl | assumption) (by first | decide | (show _ < 62; omega)) (by first | rfl | assumption) ?_
              refine g_iload_n (i := 1) dX7_well_74 rfl rfl ?_
              refine g_aaload dX7_well_75 rfl (by decide) ho1 ?_
              refine g_iload_n (i := 2) dX7_well_76 rfl rfl ?_
              refine g_iload_n (i := 3) dX7_well_77 rfl rfl ?_
              refine n_callVv (k_X7_reckonWell _ n wd m N g o ho58 hLo ho62 hL1 ho63 hL2 ho64 hG hT0 _ _ (by omega) (by omega) (by omega) (by omega) (by omega)) dX7_well_78 lk7_193 im_X7_reckonWell (by first | rfl | assumption) (by first | decide | (show _ < 62; omega)) rfl rfl rfl rfl (Nat.le_of_ble_eq_true rfl) (fun c1 hz => ?_)
              obtain ⟨hf, hu, hv⟩ := hz
              refine g_aload_n (i := 0) dX7_well_81 rfl rfl ?_
              refine g_getP dX7_well_82 fl7_54 (by first | rfl | assumption) (by first | decide | (show _ < 62; omega)) (by first | rfl | assumption) ?_
              refine g_iload dX7_well_85 rfl ?_
              refine n_callVj (k_X2_part_38 _ _ (by omega)) dX7_well_87 lk7_183 im_X2_part (by first | rfl | assumption) (by first | decide | (show _ < 62; omega)) rfl rfl rfl rfl (Nat.le_of_ble_eq_true rfl) (fun z c' hz => ?_)
              obtain ⟨rfl, hz2⟩ := hz
              have hz2 := hz2.symm
              subst hz2
              exact n_retj dX7_well_90 rfl (⟨by unfold a_wel; rw [if_pos (show 0 ≤ i ∧ i < n by omega), if_pos (show (0 ≤ s ∧ s ≤ 1) ∧ (0 ≤ kd ∧ kd ≤ 2) ∧ 0 ≤ e ∧ e ≤ 1 by omega), hg, hu, hv]; exact (if_neg (by omega)).symm, hS0.fr (fun q hq => hf q (by omega)), fun q hq => hf q (by omega)⟩)
            · skip
              refine g_ldc2 (z := -2000000003) dX7_well_65 cw7_137 ?_
              exact n_retj dX7_well_68 rfl (⟨by unfold a_wel; rw [if_pos (by omega), if_pos (by omega)]; first | (rw [hg]; exact (if_pos (by omega)).symm) | (rw [hst.no (by omega)]), hS0, FrC.rf c⟩)
        · skip
          refine g_ldc2 (z := -2000000002) dX7_well_34 cw7_135 ?_
          exact n_retj dX7_well_37 rfl (⟨by unfold a_wel; rw [if_pos (by omega), if_neg (by omega)], hS0, FrC.rf c⟩)
  · skip
    refine g_ldc2 (z := -2000000001) dX7_well_8 cw7_191 ?_
    exact n_retj dX7_well_11 rfl (⟨by unfold a_wel; rw [if_neg (by omega)], hS0, FrC.rf c⟩)
set_option maxHeartbeats 4000000 in
set_option maxRecDepth 100000 in
theorem k_X8_well (c : qC) (n wd : Int) (N : Int → Int → Int) (S : Sl) (mm : Int) (md : Int → Int) (T : Tr) (hS : TS c n wd N S mm md T) (s kd i e : Int) (s0 : iR s) (d0 : iR kd) (i0 : iR i) (e0 : iR e) : qN X8_well 2 [qP 39, qI s, qI kd, qI i, qI e] c (pJ (fun z c' => z = a_wel n wd N S s kd i e ∧ TS c' n wd N S mm md T ∧ FrT c c')) := by
  have hS0 := hS
  obtain ⟨hM, hSl, hMd, hTr⟩ := hS
  have hM0 := hM
  obtain ⟨t1, t2, t3, t4, t5, t6⟩ := hM
  refine qN.of [some (qP 39), some (qI s), some (qI kd), some (qI i), some (qI e), none, none, none, none, none, none, none, none, none, none, none, none, none, none, none] (by decide) rfl (fun _ => rfl) (fun _ => Nat.le_of_ble_eq_true rfl) ?_
  refine g_aload_n (i := 0) dX8_well_0 rfl rfl ?_
  refine g_iload_n (i := 3) dX8_well_1 rfl rfl ?_
  refine n_callVi (k_X8_isRow _ _ _ (by assumption) (by omega) (by omega)) dX8_well_2 lk8_109 im_X8_isRow (by first | rfl | assumption) (by first | decide | (show _ < 62; omega)) rfl rfl rfl rfl (Nat.le_of_ble_eq_true rfl) (fun z c' hz => ?_)
  obtain ⟨hz2, hz⟩ := hz
  have hz2 := hz2.symm
  subst hz2
  refine g_if_ne 12 dX8_well_5 (by decide) (fun b5 => ?_) (fun b5 => ?_)
  · skip
    refine g_iload_n (i := 1) dX8_well_12 rfl rfl ?_
    refine g_iconst dX8_well_13 ?_
    refine g_iconst dX8_well_14 ?_
    refine n_callSi (k_X8_within _ _ _ _ (by omega) (by omega) (by omega)) dX8_well_15 lk8_85 sm_X8_within rfl rfl rfl (Nat.le_of_ble_eq_true rfl) (fun z c' hz => ?_)
    obtain ⟨hz2, hz⟩ := hz
    have hz2 := hz2.symm
    subst hz2
    refine g_if_eq 40 dX8_well_18 (by decide) (fun b18 => ?_) (fun b18 => ?_)
    · skip
      refine g_ldc2 (z := -2000000002) dX8_well_40 cw8_178 ?_
      exact n_retj dX8_well_43 rfl (⟨by unfold a_wel; rw [if_pos (by omega), if_neg (by omega)], hS0, FrT.rf c⟩)
    · skip
      refine g_iload_n (i := 2) dX8_well_21 rfl rfl ?_
      refine g_iconst dX8_well_22 ?_
      refine g_iconst dX8_well_23 ?_
      refine n_callSi (k_X8_within _ _ _ _ (by omega) (by omega) (by omega)) dX8_well_24 lk8_85 sm_X8_within rfl rfl rfl (Nat.le_of_ble_eq_true rfl) (fun z c' hz => ?_)
      obtain ⟨hz2, hz⟩ := hz
      have hz2 := hz2.symm
      subst hz2
      refine g_if_eq 40 dX8_well_27 (by decide) (fun b27 => ?_) (fun b27 => ?_)
      · skip
        refine g_ldc2 (z := -2000000002) dX8_well_40 cw8_178 ?_
        exact n_retj dX8_well_43 rfl (⟨by unfold a_wel; rw [if_pos (by omega), if_neg (by omega)], hS0, FrT.rf c⟩)
      · skip
        refine g_iload dX8_well_30 rfl ?_
        refine g_iconst dX8_well_32 ?_
        refine g_iconst dX8_well_33 ?_
        refine n_callSi (k_X8_within _ _ _ _ (by omega) (by omega) (by omega)) dX8_well_34 lk8_85 sm_X8_within rfl rfl rfl (Nat.le_of_ble_eq_true rfl) (fun z c' hz => ?_)
        obtain ⟨hz2, hz⟩ := hz
        have hz2 := hz2.symm
        subst hz2
        refine g_if_ne 44 dX8_well_37 (by decide) (fun b37 => ?_) (fun b37 => ?_)
        · skip
          have hst := hSl s (by omega) (by omega)
          have hsb := hst.b
          refine g_aload_n (i := 0) dX8_well_44 rfl rfl ?_
          refine g_getP dX8_well_45 fl8_17 (by first | rfl | assumption) (by first | decide | (show _ < 62; omega)) (by first | rfl | assumption) ?_
          refine g_iload_n (i := 1) dX8_well_48 rfl rfl ?_
          refine g_baload dX8_well_49 (by first | rfl | assumption) (by first | decide | (show _ < 62; omega)) ?_
          refine g_if_eq 63 dX8_well_50 (by decide) (fun b50 => ?_) (fun b50 => ?_)
          · skip
            refine g_ldc2 (z := -2000000003) dX8_well_63 cw8_180 ?_
            exact n_retj dX8_well_66 rfl (⟨by unfold a_wel; rw [if_pos (by omega), if_pos (by omega)]; first | (rw [hg]; exact (if_pos (by omega)).symm) | (rw [hst.no (by omega)]), hS0, FrT.rf c⟩)
          · skip
            obtain ⟨g, m, hg, hg1, hg2, hg3⟩ := hst.yes b50
            have hs01 : 0 ≤ s ∧ s ≤ 1 := by omega
            have hg4 : ∀ r, 0 ≤ r → r < n → c 43 (30 * s + r) = g r ∧ -1 ≤ g r ∧ g r < 30 := fun r r0 r1 => ⟨(hg3 r r0 r1).1, (hg3 r r0 r1).2.1, by have := (hg3 r r0 r1).2.2; omega⟩
            have hgi := hg3 i (by omega) (by omega)
            refine g_aload_n (i := 0) dX8_well_53 rfl rfl ?_
            refine g_iload_n (i := 1) dX8_well_54 rfl rfl ?_
            refine g_iload_n (i := 3) dX8_well_55 rfl rfl ?_
            refine n_callVi (k_X8_of0 _ _ _ (by omega) (by omega) (by omega)) dX8_well_56 lk8_182 im_X8_of0 (by first | rfl | assumption) (by first | decide | (show _ < 62; omega)) rfl rfl rfl rfl (Nat.le_of_ble_eq_true rfl) (fun z c' hz => ?_)
            obtain ⟨rfl, hz2⟩ := hz
            have hz2 := hz2.symm
            subst hz2
            rw [hgi.1]
            refine g_iconst dX8_well_59 ?_
            refine g_icmp_ne 67 dX8_well_60 (by decide) (fun b60 => ?_) (fun b60 => ?_)
            · skip
              have hDb : ∀ r, 0 ≤ r → r < n → 0 ≤ ds wd N kd i r ∧ ds wd N kd i r ≤ 16000000 := fun r r0 r1 => hM0.bd (kd := kd) (show 0 ≤ i by omega) (show i < n by omega) r0 r1
              have hco := cn_bd (g := g) (k := g i) t3.1
              have hco1 := cn_mem (g := g) (i := i) (by omega) rfl n.toNat (by omega)
              rw [show ((n.toNat : Nat) : Int) = n by omega] at hco1
              have hso := sgD_bd (g := g) (k := g i) t3.1 t3.2 hDb
              have hans : ∀ z : Int, z = (if e = 0 then (welF (ds wd N kd i) g n (g i) m.toNat).1 else (welF (ds wd N kd i) g n (g i) m.toNat).2) → z = a_wel n wd N S s kd i e := fun z hz => by
                unfold a_wel; rw [if_pos (show 0 ≤ i ∧ i < n by omega), if_pos (show (0 ≤ s ∧ s ≤ 1) ∧ (0 ≤ kd ∧ kd ≤ 2) ∧ 0 ≤ e ∧ e ≤ 1 by omega), hg, hz]; exact (if_neg (by omega)).symm
              refine g_aload_n (i := 0) dX8_well_67 rfl rfl ?_
              refine g_iload_n (i := 1) dX8_well_68 rfl rfl ?_
              refine g_iload_n (i := 3) dX8_well_69 rfl rfl ?_
              refine n_callVi (k_X8_of0 _ _ _ (by omega) (by omega) (by omega)) dX8_well_70 lk8_182 im_X8_of0 (by first | rfl | assumption) (by first | decide | (show _ < 62; omega)) rfl rfl rfl rfl (Nat.le_of_ble_eq_true rfl) (fun z c' hz => ?_)
              obtain ⟨rfl, hz2⟩ := hz
              have hz2 := hz2.symm
              subst hz2
              rw [hgi.1]
              refine g_istore5 dX8_well_73 rfl ?_
              refine g_aload_n (i := 0) dX8_well_75 rfl rfl ?_
              refine g_iload_n (i := 1) dX8_well_76 rfl rfl ?_
              refine g_iload dX8_well_77 rfl ?_
              refine n_callVi (k_X8_sizeIn _ n wd _ _ N g hM0 hs01 hg4 (by omega)) dX8_well_79 lk8_189 im_X8_sizeIn (by first | rfl | assumption) (by first | decide | (show _ < 62; omega)) rfl rfl rfl rfl (Nat.le_of_ble_eq_true rfl) (fun z c' hz => ?_)
              obtain ⟨rfl, hz2⟩ := hz
              have hz2 := hz2.symm
              subst hz2
              refine g_i2lx dX8_well_82 ?_
              refine g_lconst (z := 1) dX8_well_83 (by decide) ?_
              refine g_lsub dX8_well_84 ?_
              refine g_lstore6 dX8_well_85 rfl ?_
              refine g_aload_n (i := 0) dX8_well_87 rfl rfl ?_
              refine g_iload_n (i := 1) dX8_well_88 rfl rfl ?_
              refine g_iload_n (i := 2) dX8_well_89 rfl rfl ?_
              refine g_iload_n (i := 3) dX8_well_90 rfl rfl ?_
              refine g_iload dX8_well_91 rfl ?_
              refine n_callVj (k_farE _ n wd _ _ N g hM0 hs01 hg4 (by omega) _ _ (by omega) (by omega) (by omega) (by omega)) dX8_well_93 lk8_198 im_X8_farFrom (by first | rfl | assumption) (by first | decide | (show _ < 62; omega)) rfl rfl rfl rfl (Nat.le_of_ble_eq_true rfl) (fun z c' hz => ?_)
              obtain ⟨rfl, hz2⟩ := hz
              have hz2 := hz2.symm
              subst hz2
              refine g_lstore8 dX8_well_96 rfl ?_
              refine g_ldc2 (z := -1) dX8_well_98 cw8_156 ?_
              refine g_lstore10 dX8_well_101 rfl ?_
              refine g_lconst (z := 1) dX8_well_103 (by decide) ?_
              refine g_lstore12 dX8_well_104 rfl ?_
              refine g_iconst dX8_well_106 ?_
              refine g_istore14 dX8_well_107 rfl ?_
              have L109 : ∀ (fu109 : Nat) (k y b : Int), (m - k).toNat < fu109 → (0 ≤ k) → (k ≤ m) → (y = if (wf (ds wd N kd i) g n (g i) k.toNat).1 = -1 then -1 else (wf (ds wd N kd i) g n (g i) k.toNat).2.1) → (b = (wf (ds wd N kd i) g n (g i) k.toNat).2.2) → qG (qYn X8_well 2 (pJ (fun z c' => z = a_wel n wd N S s kd i e ∧ TS c' n wd N S mm md T ∧ FrT c c'))) wN 109 [some (qP 39), some (qI s), some (qI kd), some (qI i), some (qI e), some (qI (g i)), some (qJ (cn g n (g i) - 1)), none, some (qJ (sg g n (g i) (ds wd N kd i))), none, some (qJ y), none, some (qJ b), none, some (qI k), none, none, none, none, none] [] c := by
                intro fu109
                induction fu109 with
                | zero => intro k y b hm; exact absurd hm (Nat.not_lt_zero _)
                | succ fu109 ih109 =>
                  intro k y b hm109 k0 k1 hy hb
                  have hkn : ((k.toNat : Nat) : Int) = k := by omega
                  have hk1 : (k + 1).toNat = k.toNat + 1 := by omega
                  have hcb := cn_bd (g := g) (k := k) t3.1
                  have hsk := sgD_bd (g := g) (k := k) t3.1 t3.2 hDb
                  have hwb := wf_bd (g := g) (own := g i) t3.1 t3.2 hDb k.toNat
                  have hyb0 : -1 ≤ y ∧ y ≤ 480000000 := by rw [hy]; split <;> omega
                  have hbb : 1 ≤ b ∧ b ≤ 30 := by rw [hb]; exact hwb.2.2
                  have hyn : y = -1 → (wf (ds wd N kd i) g n (g i) k.toNat).1 = -1 := fun h => by rw [hy] at h; split at h <;> first | assumption | omega
                  have hyy : ¬ y = -1 → ¬ (wf (ds wd N kd i) g n (g i) k.toNat).1 = -1 ∧ y = (wf (ds wd N kd i) g n (g i) k.toNat).2.1 := fun h => by rw [hy] at h ⊢; split at h <;> first | omega | (rename_i q; exact ⟨q, if_neg q⟩)
                  have hp3 := mul_le2 hsk.1 hsk.2 (show 0 ≤ b by omega) hbb.2
                  refine g_iload dX8_well_109 rfl ?_
                  refine g_aload_n (i := 0) dX8_well_111 rfl rfl ?_
                  refine g_getP dX8_well_112 fl8_21 (by first | rfl | assumption) (by first | decide | (show _ < 62; omega)) (by first | rfl | assumption) ?_
                  refine g_iload_n (i := 1) dX8_well_115 rfl rfl ?_
                  refine g_iaload dX8_well_116 rfl (by decide) ?_
                  rw [hg1]
                  skip -- ?_
                  refine g_icmp_ge 192 dX8_well_117 (by decide) (fun b117 => ?_) (fun b117 => ?_)
                  · skip
                    have hkm : k = m := by omega
                    subst hkm
                    obtain ⟨ix, y2, b2, hw⟩ : ∃ ix y b, wf (ds wd N kd i) g n (g i) k.toNat = (ix, y, b) := ⟨_, _, _, rfl⟩
                    rw [hw] at hwb hy hb
                    dsimp only at hwb hy hb
                    subst hb
                    have hp1 := mul_le2 hso.1 hso.2 (show 0 ≤ b by omega) hwb.2.2.2
                    have hp2 := mul_le2 hwb.2.1.1 hwb.2.1.2 (show 0 ≤ cn g n (g i) - 1 by omega) (show cn g n (g i) - 1 ≤ 30 by omega)
                    have hyb : -1 ≤ y ∧ y ≤ 480000000 := by rw [hy]; split <;> omega
                    refine g_lload dX8_well_192 rfl ?_
                    refine g_lconst (z := 0) dX8_well_194 (by decide) ?_
                    refine g_lif_eq 222 dX8_well_195 dX8_well_196 (by decide) (fun b195 => ?_) (fun b195 => ?_)
                    · skip
                      have hF : welF (ds wd N kd i) g n (g i) k.toNat = (0, 1) := by
                        unfold welF
                        by_cases h1 : ix = -1 ∨ cn g n (g i) < 2
                        · rw [hw, if_pos h1]
                        · have hyy : y = y2 := by rw [hy]; exact if_neg (by omega)
                          rw [hw, if_neg h1, if_pos]
                          show mx (sg g n (g i) (ds wd N kd i) * b) (y2 * (cn g n (g i) - 1)) = 0
                          have hx0 : sg g n (g i) (ds wd N kd i) = 0 := by omega
                          have hy0 : y2 = 0 := by omega
                          rw [hx0, hy0]; simp [mx]
                      refine g_iload dX8_well_222 rfl ?_
                      refine g_i2lx dX8_well_224 ?_
                      exact n_retj dX8_well_225 rfl (⟨hans _ (by rw [hF]; show e = if e = 0 then (0 : Int) else 1; split <;> omega), hS0, FrT.rf c⟩)
                    · skip
                      refine g_lload dX8_well_199 rfl ?_
                      refine g_ldc2 (z := -1) dX8_well_201 cw8_156 ?_
                      refine g_lif_eq 222 dX8_well_204 dX8_well_205 (by decide) (fun b204 => ?_) (fun b204 => ?_)
                      · skip
                        have hF : welF (ds wd N kd i) g n (g i) k.toNat = (0, 1) := by
                          unfold welF
                          by_cases h1 : ix = -1 ∨ cn g n (g i) < 2
                          · rw [hw, if_pos h1]
                          · have hyy : y = y2 := by rw [hy]; exact if_neg (by omega)
                            rw [hw, if_neg h1, if_pos]
                            show mx (sg g n (g i) (ds wd N kd i) * b) (y2 * (cn g n (g i) - 1)) = 0
                            have hx0 : sg g n (g i) (ds wd N kd i) = 0 := by omega
                            have hy0 : y2 = 0 := by omega
                            rw [hx0, hy0]; simp [mx]
                        refine g_iload dX8_well_222 rfl ?_
                        refine g_i2lx dX8_well_224 ?_
                        exact n_retj dX8_well_225 rfl (⟨hans _ (by rw [hF]; show e = if e = 0 then (0 : Int) else 1; split <;> omega), hS0, FrT.rf c⟩)
                      · skip
                        refine g_lload dX8_well_208 rfl ?_
                        refine g_lconst (z := 0) dX8_well_210 (by decide) ?_
                        refine g_lif_ne 226 dX8_well_211 dX8_well_212 (by decide) (fun b211 => ?_) (fun b211 => ?_)
                        · skip
                          have hyy : y = y2 := by rw [hy]; exact if_neg (by omega)
                          subst hyy
                          have hX : sg g n (g i) (ds wd N kd i) * b = 0 → sg g n (g i) (ds wd N kd i) = 0 := fun h => by rcases Int.mul_eq_zero.mp h with q | q <;> omega
                          have hY : y * (cn g n (g i) - 1) = 0 → y = 0 := fun h => by rcases Int.mul_eq_zero.mp h with q | q <;> omega
                          have hM0' : 0 ≤ mx (sg g n (g i) (ds wd N kd i) * b) (y * (cn g n (g i) - 1)) ∧ mx (sg g n (g i) (ds wd N kd i) * b) (y * (cn g n (g i) - 1)) ≤ 14400000000 := by unfold mx; split <;> omega
                          have hM1 : ¬ mx (sg g n (g i) (ds wd N kd i) * b) (y * (cn g n (g i) - 1)) = 0 := by
                            intro h
                            have h1 : sg g n (g i) (ds wd N kd i) * b = 0 := by unfold mx at h; split at h <;> omega
                            have h2 : y * (cn g n (g i) - 1) = 0 := by unfold mx at h; split at h <;> omega
                            have := hX h1; have := hY h2; omega
                          have hF : welF (ds wd N kd i) g n (g i) k.toNat = ((y * (cn g n (g i) - 1) - sg g n (g i) (ds wd N kd i) * b).tdiv (gc (y * (cn g n (g i) - 1) - sg g n (g i) (ds wd N kd i) * b) (mx (sg g n (g i) (ds wd N kd i) * b) (y * (cn g n (g i) - 1)))), (mx (sg g n (g i) (ds wd N kd i) * b) (y * (cn g n (g i) - 1))).tdiv (gc (y * (cn g n (g i) - 1) - sg g n (g i) (ds wd N kd i) * b) (mx (sg g n (g i) (ds wd N kd i) * b) (y * (cn g n (g i) - 1))))) := by
                            unfold welF; rw [hw, if_neg (by show ¬ (ix = -1 ∨ cn g n (g i) < 2); omega), if_neg (by exact hM1)]
                          refine g_lload dX8_well_226 rfl ?_
                          refine g_lload dX8_well_228 rfl ?_
                          refine g_lmul dX8_well_230 ?_
                          refine g_lload dX8_well_231 rfl ?_
                          refine g_lload dX8_well_233 rfl ?_
                          refine g_lmul dX8_well_235 ?_
                          refine g_lsub dX8_well_236 ?_
                          refine g_lstore14 dX8_well_237 rfl ?_
                          have J266 : ∀ (dd : Int), (dd = mx (sg g n (g i) (ds wd N kd i) * b) (y * (cn g n (g i) - 1))) → qG (qYn X8_well 2 (pJ (fun z c' => z = a_wel n wd N S s kd i e ∧ TS c' n wd N S mm md T ∧ FrT c c'))) wN 266 [some (qP 39), some (qI s), some (qI kd), some (qI i), some (qI e), some (qI (g i)), some (qJ (cn g n (g i) - 1)), none, some (qJ (sg g n (g i) (ds wd N kd i))), none, some (qJ y), none, some (qJ b), none, some (qJ (y * (cn g n (g i) - 1) - sg g n (g i) (ds wd N kd i) * b)), none, none, none, none, none] [qJ dd] c := by
                            intro dd hdd
                            subst hdd
                            refine g_lstore16 dX8_well_266 rfl ?_
                            refine g_lload dX8_well_268 rfl ?_
                            refine g_lload dX8_well_270 rfl ?_
                            refine n_callSj (k_X8_common _ _ _ (by omega) (by omega)) dX8_well_272 lk8_174 sm_X8_common rfl rfl rfl (Nat.le_of_ble_eq_true rfl) (fun z c' hz => ?_)
                            obtain ⟨rfl, hz2⟩ := hz
                            have hz2 := hz2.symm
                            subst hz2
                            have hgp := gc_pos (x := y * (cn g n (g i) - 1) - sg g n (g i) (ds wd N kd i) * b) (y := mx (sg g n (g i) (ds wd N kd i) * b) (y * (cn g n (g i) - 1))) (by omega)
                            refine g_lstore18 dX8_well_275 rfl ?_
                            refine g_iload dX8_well_277 rfl ?_
                            refine g_if_ne 290 dX8_well_279 (by decide) (fun b279 => ?_) (fun b279 => ?_)
                            · skip
                              refine g_lload dX8_well_290 rfl ?_
                              refine g_lload dX8_well_292 rfl ?_
                              refine g_ldiv dX8_well_294 (by omega) (by omega) (by omega) ?_
                              exact n_retj dX8_well_295 rfl (⟨hans _ (by rw [hF]; first | (rw [if_pos (by omega)]) | (rw [if_neg (by omega)])), hS0, FrT.rf c⟩)
                            · skip
                              refine g_lload dX8_well_282 rfl ?_
                              refine g_lload dX8_well_284 rfl ?_
                              refine g_ldiv dX8_well_286 (by omega) (by omega) (by omega) ?_
                              refine g_goto 295 dX8_well_287 (by decide) ?_
                              exact n_retj dX8_well_295 rfl (⟨hans _ (by rw [hF]; first | (rw [if_pos (by omega)]) | (rw [if_neg (by omega)])), hS0, FrT.rf c⟩)
                          refine g_lload dX8_well_239 rfl ?_
                          refine g_lload dX8_well_241 rfl ?_
                          refine g_lmul dX8_well_243 ?_
                          refine g_lload dX8_well_244 rfl ?_
                          refine g_lload dX8_well_246 rfl ?_
                          refine g_lmul dX8_well_248 ?_
                          refine g_lif_le 261 dX8_well_249 dX8_well_250 (by decide) (fun b249 => ?_) (fun b249 => ?_)
                          · skip
                            refine g_lload dX8_well_261 rfl ?_
                            refine g_lload dX8_well_263 rfl ?_
                            refine g_lmul dX8_well_265 ?_
                            exact J266 _ (by unfold mx; first | exact (if_pos (by omega)).symm | exact (if_neg (by omega)).symm)
                          · skip
                            refine g_lload dX8_well_253 rfl ?_
                            refine g_lload dX8_well_255 rfl ?_
                            refine g_lmul dX8_well_257 ?_
                            refine g_goto 266 dX8_well_258 (by decide) ?_
                            exact J266 _ (by unfold mx; first | exact (if_pos (by omega)).symm | exact (if_neg (by omega)).symm)
                        · skip
                          refine g_lload dX8_well_215 rfl ?_
                          refine g_lconst (z := 0) dX8_well_217 (by decide) ?_
                          refine g_lif_ne 226 dX8_well_218 dX8_well_219 (by decide) (fun b218 => ?_) (fun b218 => ?_)
                          · skip
                            have hyy : y = y2 := by rw [hy]; exact if_neg (by omega)
                            subst hyy
                            have hX : sg g n (g i) (ds wd N kd i) * b = 0 → sg g n (g i) (ds wd N kd i) = 0 := fun h => by rcases Int.mul_eq_zero.mp h with q | q <;> omega
                            have hY : y * (cn g n (g i) - 1) = 0 → y = 0 := fun h => by rcases Int.mul_eq_zero.mp h with q | q <;> omega
                            have hM0' : 0 ≤ mx (sg g n (g i) (ds wd N kd i) * b) (y * (cn g n (g i) - 1)) ∧ mx (sg g n (g i) (ds wd N kd i) * b) (y * (cn g n (g i) - 1)) ≤ 14400000000 := by unfold mx; split <;> omega
                            have hM1 : ¬ mx (sg g n (g i) (ds wd N kd i) * b) (y * (cn g n (g i) - 1)) = 0 := by
                              intro h
                              have h1 : sg g n (g i) (ds wd N kd i) * b = 0 := by unfold mx at h; split at h <;> omega
                              have h2 : y * (cn g n (g i) - 1) = 0 := by unfold mx at h; split at h <;> omega
                              have := hX h1; have := hY h2; omega
                            have hF : welF (ds wd N kd i) g n (g i) k.toNat = ((y * (cn g n (g i) - 1) - sg g n (g i) (ds wd N kd i) * b).tdiv (gc (y * (cn g n (g i) - 1) - sg g n (g i) (ds wd N kd i) * b) (mx (sg g n (g i) (ds wd N kd i) * b) (y * (cn g n (g i) - 1)))), (mx (sg g n (g i) (ds wd N kd i) * b) (y * (cn g n (g i) - 1))).tdiv (gc (y * (cn g n (g i) - 1) - sg g n (g i) (ds wd N kd i) * b) (mx (sg g n (g i) (ds wd N kd i) * b) (y * (cn g n (g i) - 1))))) := by
                              unfold welF; rw [hw, if_neg (by show ¬ (ix = -1 ∨ cn g n (g i) < 2); omega), if_neg (by exact hM1)]
                            refine g_lload dX8_well_226 rfl ?_
                            refine g_lload dX8_well_228 rfl ?_
                            refine g_lmul dX8_well_230 ?_
                            refine g_lload dX8_well_231 rfl ?_
                            refine g_lload dX8_well_233 rfl ?_
                            refine g_lmul dX8_well_235 ?_
                            refine g_lsub dX8_well_236 ?_
                            refine g_lstore14 dX8_well_237 rfl ?_
                            have J266 : ∀ (dd : Int), (dd = mx (sg g n (g i) (ds wd N kd i) * b) (y * (cn g n (g i) - 1))) → qG (qYn X8_well 2 (pJ (fun z c' => z = a_wel n wd N S s kd i e ∧ TS c' n wd N S mm md T ∧ FrT c c'))) wN 266 [some (qP 39), some (qI s), some (qI kd), some (qI i), some (qI e), some (qI (g i)), some (qJ (cn g n (g i) - 1)), none, some (qJ (sg g n (g i) (ds wd N kd i))), none, some (qJ y), none, some (qJ b), none, some (qJ (y * (cn g n (g i) - 1) - sg g n (g i) (ds wd N kd i) * b)), none, none, none, none, none] [qJ dd] c := by
                              intro dd hdd
                              subst hdd
                              refine g_lstore16 dX8_well_266 rfl ?_
                              refine g_lload dX8_well_268 rfl ?_
                              refine g_lload dX8_well_270 rfl ?_
                              refine n_callSj (k_X8_common _ _ _ (by omega) (by omega)) dX8_well_272 lk8_174 sm_X8_common rfl rfl rfl (Nat.le_of_ble_eq_true rfl) (fun z c' hz => ?_)
                              obtain ⟨rfl, hz2⟩ := hz
                              have hz2 := hz2.symm
                              subst hz2
                              have hgp := gc_pos (x := y * (cn g n (g i) - 1) - sg g n (g i) (ds wd N kd i) * b) (y := mx (sg g n (g i) (ds wd N kd i) * b) (y * (cn g n (g i) - 1))) (by omega)
                              refine g_lstore18 dX8_well_275 rfl ?_
                              refine g_iload dX8_well_277 rfl ?_
                              refine g_if_ne 290 dX8_well_279 (by decide) (fun b279 => ?_) (fun b279 => ?_)
                              · skip
                                refine g_lload dX8_well_290 rfl ?_
                                refine g_lload dX8_well_292 rfl ?_
                                refine g_ldiv dX8_well_294 (by omega) (by omega) (by omega) ?_
                                exact n_retj dX8_well_295 rfl (⟨hans _ (by rw [hF]; first | (rw [if_pos (by omega)]) | (rw [if_neg (by omega)])), hS0, FrT.rf c⟩)
                              · skip
                                refine g_lload dX8_well_282 rfl ?_
                                refine g_lload dX8_well_284 rfl ?_
                                refine g_ldiv dX8_well_286 (by omega) (by omega) (by omega) ?_
                                refine g_goto 295 dX8_well_287 (by decide) ?_
                                exact n_retj dX8_well_295 rfl (⟨hans _ (by rw [hF]; first | (rw [if_pos (by omega)]) | (rw [if_neg (by omega)])), hS0, FrT.rf c⟩)
                            refine g_lload dX8_well_239 rfl ?_
                            refine g_lload dX8_well_241 rfl ?_
                            refine g_lmul dX8_well_243 ?_
                            refine g_lload dX8_well_244 rfl ?_
                            refine g_lload dX8_well_246 rfl ?_
                            refine g_lmul dX8_well_248 ?_
                            refine g_lif_le 261 dX8_well_249 dX8_well_250 (by decide) (fun b249 => ?_) (fun b249 => ?_)
                            · skip
                              refine g_lload dX8_well_261 rfl ?_
                              refine g_lload dX8_well_263 rfl ?_
                              refine g_lmul dX8_well_265 ?_
                              exact J266 _ (by unfold mx; first | exact (if_pos (by omega)).symm | exact (if_neg (by omega)).symm)
                            · skip
                              refine g_lload dX8_well_253 rfl ?_
                              refine g_lload dX8_well_255 rfl ?_
                              refine g_lmul dX8_well_257 ?_
                              refine g_goto 266 dX8_well_258 (by decide) ?_
                              exact J266 _ (by unfold mx; first | exact (if_pos (by omega)).symm | exact (if_neg (by omega)).symm)
                          · skip
                            have hF : welF (ds wd N kd i) g n (g i) k.toNat = (0, 1) := by
                              unfold welF
                              by_cases h1 : ix = -1 ∨ cn g n (g i) < 2
                              · rw [hw, if_pos h1]
                              · have hyy : y = y2 := by rw [hy]; exact if_neg (by omega)
                                rw [hw, if_neg h1, if_pos]
                                show mx (sg g n (g i) (ds wd N kd i) * b) (y2 * (cn g n (g i) - 1)) = 0
                                have hx0 : sg g n (g i) (ds wd N kd i) = 0 := by omega
                                have hy0 : y2 = 0 := by omega
                                rw [hx0, hy0]; simp [mx]
                            refine g_iload dX8_well_222 rfl ?_
                            refine g_i2lx dX8_well_224 ?_
                            exact n_retj dX8_well_225 rfl (⟨hans _ (by rw [hF]; show e = if e = 0 then (0 : Int) else 1; split <;> omega), hS0, FrT.rf c⟩)
                  · skip
                    refine g_aload_n (i := 0) dX8_well_120 rfl rfl ?_
                    refine g_iload_n (i := 1) dX8_well_121 rfl rfl ?_
                    refine g_iload dX8_well_122 rfl ?_
                    refine n_callVi (k_X8_sizeIn _ n wd _ _ N g hM0 hs01 hg4 (by omega)) dX8_well_124 lk8_189 im_X8_sizeIn (by first | rfl | assumption) (by first | decide | (show _ < 62; omega)) rfl rfl rfl rfl (Nat.le_of_ble_eq_true rfl) (fun z c' hz => ?_)
                    obtain ⟨rfl, hz2⟩ := hz
                    have hz2 := hz2.symm
                    subst hz2
                    refine g_i2lx dX8_well_127 ?_
                    refine g_lstore15 dX8_well_128 rfl ?_
                    refine g_iload dX8_well_130 rfl ?_
                    refine g_iload dX8_well_132 rfl ?_
                    refine g_icmp_eq 186 dX8_well_134 (by decide) (fun b134 => ?_) (fun b134 => ?_)
                    · skip
                      refine g_iinc14 dX8_well_186 rfl ?_
                      refine g_goto 109 dX8_well_189 (by decide) ?_
                      refine g_fg15 ?_
                      exact ih109 _ _ _ (by omega) (by first | assumption | omega) (by first | assumption | omega) (by
            first
              | (rw [wf_no k0 (by omega)]; exact hy)
              | (have h2 := hyy (by omega); rw [wf_no k0 (by rw [← h2.2, ← hb]; omega)]; exact hy)
              | (rw [wf_yes k0 ⟨by omega, Or.inl (hyn (by omega))⟩]; exact (if_neg (by show ¬ k = -1; omega)).symm)
              | (have h2 := hyy (by omega); rw [wf_yes k0 ⟨by omega, Or.inr (by rw [← h2.2, ← hb]; omega)⟩]; exact (if_neg (by show ¬ k = -1; omega)).symm)) (by
            first
              | (rw [wf_no k0 (by omega)]; exact hb)
              | (have h2 := hyy (by omega); rw [wf_no k0 (by rw [← h2.2, ← hb]; omega)]; exact hb)
              | (rw [wf_yes k0 ⟨by omega, Or.inl (hyn (by omega))⟩]; try rfl)
              | (have h2 := hyy (by omega); rw [wf_yes k0 ⟨by omega, Or.inr (by rw [← h2.2, ← hb]; omega)⟩]; try rfl))
                    · skip
                      refine g_lload dX8_well_137 rfl ?_
                      refine g_lconst (z := 0) dX8_well_139 (by decide) ?_
                      refine g_lif_le 186 dX8_well_140 dX8_well_141 (by decide) (fun b140 => ?_) (fun b140 => ?_)
                      · skip
                        refine g_iinc14 dX8_well_186 rfl ?_
                        refine g_goto 109 dX8_well_189 (by decide) ?_
                        refine g_fg15 ?_
                        exact ih109 _ _ _ (by omega) (by first | assumption | omega) (by first | assumption | omega) (by
            first
              | (rw [wf_no k0 (by omega)]; exact hy)
              | (have h2 := hyy (by omega); rw [wf_no k0 (by rw [← h2.2, ← hb]; omega)]; exact hy)
              | (rw [wf_yes k0 ⟨by omega, Or.inl (hyn (by omega))⟩]; exact (if_neg (by show ¬ k = -1; omega)).symm)
              | (have h2 := hyy (by omega); rw [wf_yes k0 ⟨by omega, Or.inr (by rw [← h2.2, ← hb]; omega)⟩]; exact (if_neg (by show ¬ k = -1; omega)).symm)) (by
            first
              | (rw [wf_no k0 (by omega)]; exact hb)
              | (have h2 := hyy (by omega); rw [wf_no k0 (by rw [← h2.2, ← hb]; omega)]; exact hb)
              | (rw [wf_yes k0 ⟨by omega, Or.inl (hyn (by omega))⟩]; try rfl)
              | (have h2 := hyy (by omega); rw [wf_yes k0 ⟨by omega, Or.inr (by rw [← h2.2, ← hb]; omega)⟩]; try rfl))
                      · skip
                        refine g_aload_n (i := 0) dX8_well_144 rfl rfl ?_
                        refine g_iload_n (i := 1) dX8_well_145 rfl rfl ?_
                        refine g_iload_n (i := 2) dX8_well_146 rfl rfl ?_
                        refine g_iload_n (i := 3) dX8_well_147 rfl rfl ?_
                        refine g_iload dX8_well_148 rfl ?_
                        refine n_callVj (k_farE _ n wd _ _ N g hM0 hs01 hg4 (by omega) _ _ (by omega) (by omega) (by omega) (by omega)) dX8_well_150 lk8_198 im_X8_farFrom (by first | rfl | assumption) (by first | decide | (show _ < 62; omega)) rfl rfl rfl rfl (Nat.le_of_ble_eq_true rfl) (fun z c' hz => ?_)
                        obtain ⟨rfl, hz2⟩ := hz
                        have hz2 := hz2.symm
                        subst hz2
                        refine g_lstore17 dX8_well_153 rfl ?_
                        refine g_lload dX8_well_155 rfl ?_
                        refine g_ldc2 (z := -1) dX8_well_157 cw8_156 ?_
                        refine g_lif_eq 178 dX8_well_160 dX8_well_161 (by decide) (fun b160 => ?_) (fun b160 => ?_)
                        · skip
                          refine g_lload dX8_well_178 rfl ?_
                          refine g_lstore10 dX8_well_180 rfl ?_
                          refine g_lload dX8_well_182 rfl ?_
                          refine g_lstore12 dX8_well_184 rfl ?_
                          refine g_iinc14 dX8_well_186 rfl ?_
                          refine g_goto 109 dX8_well_189 (by decide) ?_
                          refine g_fg15 ?_
                          refine g_fg17 ?_
                          exact ih109 _ _ _ (by omega) (by first | assumption | omega) (by first | assumption | omega) (by
            first
              | (rw [wf_no k0 (by omega)]; exact hy)
              | (have h2 := hyy (by omega); rw [wf_no k0 (by rw [← h2.2, ← hb]; omega)]; exact hy)
              | (rw [wf_yes k0 ⟨by omega, Or.inl (hyn (by omega))⟩]; exact (if_neg (by show ¬ k = -1; omega)).symm)
              | (have h2 := hyy (by omega); rw [wf_yes k0 ⟨by omega, Or.inr (by rw [← h2.2, ← hb]; omega)⟩]; exact (if_neg (by show ¬ k = -1; omega)).symm)) (by
            first
              | (rw [wf_no k0 (by omega)]; exact hb)
              | (have h2 := hyy (by omega); rw [wf_no k0 (by rw [← h2.2, ← hb]; omega)]; exact hb)
              | (rw [wf_yes k0 ⟨by omega, Or.inl (hyn (by omega))⟩]; try rfl)
              | (have h2 := hyy (by omega); rw [wf_yes k0 ⟨by omega, Or.inr (by rw [← h2.2, ← hb]; omega)⟩]; try rfl))
                        · skip
                          have hp4 := mul_le2 (show 0 ≤ y by omega) hyb0.2 hcb.1 (show cn g n k ≤ 30 by omega)
                          refine g_lload dX8_well_164 rfl ?_
                          refine g_lload dX8_well_166 rfl ?_
                          refine g_lmul dX8_well_168 ?_
                          refine g_lload dX8_well_169 rfl ?_
                          refine g_lload dX8_well_171 rfl ?_
                          refine g_lmul dX8_well_173 ?_
                          refine g_lif_ge 186 dX8_well_174 dX8_well_175 (by decide) (fun b174 => ?_) (fun b174 => ?_)
                          · skip
                            refine g_iinc14 dX8_well_186 rfl ?_
                            refine g_goto 109 dX8_well_189 (by decide) ?_
                            refine g_fg15 ?_
                            refine g_fg17 ?_
                            exact ih109 _ _ _ (by omega) (by first | assumption | omega) (by first | assumption | omega) (by
            first
              | (rw [wf_no k0 (by omega)]; exact hy)
              | (have h2 := hyy (by omega); rw [wf_no k0 (by rw [← h2.2, ← hb]; omega)]; exact hy)
              | (rw [wf_yes k0 ⟨by omega, Or.inl (hyn (by omega))⟩]; exact (if_neg (by show ¬ k = -1; omega)).symm)
              | (have h2 := hyy (by omega); rw [wf_yes k0 ⟨by omega, Or.inr (by rw [← h2.2, ← hb]; omega)⟩]; exact (if_neg (by show ¬ k = -1; omega)).symm)) (by
            first
              | (rw [wf_no k0 (by omega)]; exact hb)
              | (have h2 := hyy (by omega); rw [wf_no k0 (by rw [← h2.2, ← hb]; omega)]; exact hb)
              | (rw [wf_yes k0 ⟨by omega, Or.inl (hyn (by omega))⟩]; try rfl)
              | (have h2 := hyy (by omega); rw [wf_yes k0 ⟨by omega, Or.inr (by rw [← h2.2, ← hb]; omega)⟩]; try rfl))
                          · skip
                            refine g_lload dX8_well_178 rfl ?_
                            refine g_lstore10 dX8_well_180 rfl ?_
                            refine g_lload dX8_well_182 rfl ?_
                            refine g_lstore12 dX8_well_184 rfl ?_
                            refine g_iinc14 dX8_well_186 rfl ?_
                            refine g_goto 109 dX8_well_189 (by decide) ?_
                            refine g_fg15 ?_
                            refine g_fg17 ?_
                            exact ih109 _ _ _ (by omega) (by first | assumption | omega) (by first | assumption | omega) (by
            first
              | (rw [wf_no k0 (by omega)]; exact hy)
              | (have h2 := hyy (by omega); rw [wf_no k0 (by rw [← h2.2, ← hb]; omega)]; exact hy)
              | (rw [wf_yes k0 ⟨by omega, Or.inl (hyn (by omega))⟩]; exact (if_neg (by show ¬ k = -1; omega)).symm)
              | (have h2 := hyy (by omega); rw [wf_yes k0 ⟨by omega, Or.inr (by rw [← h2.2, ← hb]; omega)⟩]; exact (if_neg (by show ¬ k = -1; omega)).symm)) (by
            first
              | (rw [wf_no k0 (by omega)]; exact hb)
              | (have h2 := hyy (by omega); rw [wf_no k0 (by rw [← h2.2, ← hb]; omega)]; exact hb)
              | (rw [wf_yes k0 ⟨by omega, Or.inl (hyn (by omega))⟩]; try rfl)
              | (have h2 := hyy (by omega); rw [wf_yes k0 ⟨by omega, Or.inr (by rw [← h2.2, ← hb]; omega)⟩]; try rfl))
              exact L109 _ _ _ _ (Nat.lt_succ_self _) (by first | assumption | omega) (by first | assumption | omega) rfl rfl
            · skip
              refine g_ldc2 (z := -2000000003) dX8_well_63 cw8_180 ?_
              exact n_retj dX8_well_66 rfl (⟨by unfold a_wel; rw [if_pos (by omega), if_pos (by omega)]; first | (rw [hg]; exact (if_pos (by omega)).symm) | (rw [hst.no (by omega)]), hS0, FrT.rf c⟩)
        · skip
          refine g_ldc2 (z := -2000000002) dX8_well_40 cw8_178 ?_
          exact n_retj dX8_well_43 rfl (⟨by unfold a_wel; rw [if_pos (by omega), if_neg (by omega)], hS0, FrT.rf c⟩)
  · skip
    refine g_ldc2 (z := -2000000001) dX8_well_8 cw8_196 ?_
    exact n_retj dX8_well_11 rfl (⟨by unfold a_wel; rw [if_neg (by omega)], hS0, FrT.rf c⟩)
/-- under which of agree's numbers a pair falls; -1: under none -/
def ag (p q r s : Int) : Int := if p = -1 ∨ q = -1 ∨ r = -1 ∨ s = -1 then -1 else if p = q then (if r = s then 0 else 1) else (if r = s then 2 else 3)
def agI (g h : Int → Int) (n w i : Int) : Int := sI (fun j => if i < j ∧ ag (g i) (g j) (h i) (h j) = w then 1 else 0) n
def agF (g h : Int → Int) (n w : Int) : Int := sI (fun i => agI g h n w i) n
def a_agr (n : Int) (S : Sl) (w : Int) : Int := if 0 ≤ w ∧ w ≤ 3 then (match S 0, S 1 with | some p, some q => agF p.1 q.1 n w | _, _ => -2000000003) else -2000000002
theorem sI_zero {f : Int → Int} {n : Int} (hn : 0 ≤ n) (h : ∀ r, 0 ≤ r → r < n → f r = 0) : sI f n = 0 := by
  have := sI_bd (f := f) (lo := 0) (hi := 0) hn (fun r r0 r1 => by rw [h r r0 r1]; omega)
  omega
set_option maxHeartbeats 4000000 in
set_option maxRecDepth 100000 in
theorem k_X7_agreementOf (c : qC) (i j p q r s : Int) (i0 : 0 ≤ i) (i1 : i < 30) (j0 : 0 ≤ j) (j1 : j < 30) (hp : c 6 i = p) (hq : c 6 j = q) (hr : c 9 i = r) (hs : c 9 j = s) (rp : iR p) (rq : iR q) (rr : iR r) (rs : iR s) : qN X7_agreementOf 1 [qP 0, qI i, qI j] c (pI (fun z c' => z = ag p q r s ∧ c' = c)) := by
  refine qN.of [some (qP 0), some (qI i), some (qI j), none, none] (by decide) rfl (fun _ => rfl) (fun _ => Nat.le_of_ble_eq_true rfl) ?_
  refine g_aload_n (i := 0) dX7_agreementOf_0 rfl rfl ?_
  refine g_getP dX7_agreementOf_1 fl7_18 (by first | rfl | assumption) (by first | decide | (show _ < 62; omega)) (by first | rfl | assumption) ?_
  refine g_iconst dX7_agreementOf_4 ?_
  refine g_aaload dX7_agreementOf_5 rfl (by decide) rfl ?_
  refine g_iload_n (i := 1) dX7_agreementOf_6 rfl rfl ?_
  refine g_iload_n (i := 2) dX7_agreementOf_7 rfl rfl ?_
  refine n_callVi (k_X3_holdsBoth_5 _ _ _ i0 i1 j0 j1 (by rw [hp]; omega) (by rw [hq]; omega)) dX7_agreementOf_8 lk7_232 im_X3_holdsBoth (by first | rfl | assumption) (by first | decide | (show _ < 62; omega)) rfl rfl rfl rfl (Nat.le_of_ble_eq_true rfl) (fun z c' hz => ?_)
  obtain ⟨hz2, hz⟩ := hz
  have hz2 := hz2.symm
  subst hz2
  rw [hp, hq] at hz
  refine g_if_eq 28 dX7_agreementOf_11 (by decide) (fun b11 => ?_) (fun b11 => ?_)
  · skip
    refine g_iconst dX7_agreementOf_28 ?_
    exact n_reti dX7_agreementOf_29 rfl (⟨by unfold ag; (repeat' split) <;> omega, rfl⟩)
  · skip
    refine g_aload_n (i := 0) dX7_agreementOf_14 rfl rfl ?_
    refine g_getP dX7_agreementOf_15 fl7_18 (by first | rfl | assumption) (by first | decide | (show _ < 62; omega)) (by first | rfl | assumption) ?_
    refine g_iconst dX7_agreementOf_18 ?_
    refine g_aaload dX7_agreementOf_19 rfl (by decide) rfl ?_
    refine g_iload_n (i := 1) dX7_agreementOf_20 rfl rfl ?_
    refine g_iload_n (i := 2) dX7_agreementOf_21 rfl rfl ?_
    refine n_callVi (k_X3_holdsBoth_8 _ _ _ i0 i1 j0 j1 (by rw [hr]; omega) (by rw [hs]; omega)) dX7_agreementOf_22 lk7_232 im_X3_holdsBoth (by first | rfl | assumption) (by first | decide | (show _ < 62; omega)) rfl rfl rfl rfl (Nat.le_of_ble_eq_true rfl) (fun z c' hz => ?_)
    obtain ⟨hz2, hz⟩ := hz
    have hz2 := hz2.symm
    subst hz2
    rw [hr, hs] at hz
    refine g_if_ne 30 dX7_agreementOf_25 (by decide) (fun b25 => ?_) (fun b25 => ?_)
    · skip
      refine g_aload_n (i := 0) dX7_agreementOf_30 rfl rfl ?_
      refine g_getP dX7_agreementOf_31 fl7_18 (by first | rfl | assumption) (by first | decide | (show _ < 62; omega)) (by first | rfl | assumption) ?_
      refine g_iconst dX7_agreementOf_34 ?_
      refine g_aaload dX7_agreementOf_35 rfl (by decide) rfl ?_
      refine g_getP dX7_agreementOf_36 fl7_166 (by first | rfl | assumption) (by first | decide | (show _ < 62; omega)) (by first | rfl | assumption) ?_
      refine g_iload_n (i := 1) dX7_agreementOf_39 rfl rfl ?_
      refine g_iaload dX7_agreementOf_40 rfl (by decide) ?_
      rw [hp]
      skip -- ?_
      refine g_aload_n (i := 0) dX7_agreementOf_41 rfl rfl ?_
      refine g_getP dX7_agreementOf_42 fl7_18 (by first | rfl | assumption) (by first | decide | (show _ < 62; omega)) (by first | rfl | assumption) ?_
      refine g_iconst dX7_agreementOf_45 ?_
      refine g_aaload dX7_agreementOf_46 rfl (by decide) rfl ?_
      refine g_getP dX7_agreementOf_47 fl7_166 (by first | rfl | assumption) (by first | decide | (show _ < 62; omega)) (by first | rfl | assumption) ?_
      refine g_iload_n (i := 2) dX7_agreementOf_50 rfl rfl ?_
      refine g_iaload dX7_agreementOf_51 rfl (by decide) ?_
      rw [hq]
      skip -- ?_
      refine g_icmp_ne 59 dX7_agreementOf_52 (by decide) (fun b52 => ?_) (fun b52 => ?_)
      · skip
        refine g_iconst dX7_agreementOf_59 ?_
        refine g_istore_n3 dX7_agreementOf_60 rfl ?_
        refine g_aload_n (i := 0) dX7_agreementOf_61 rfl rfl ?_
        refine g_getP dX7_agreementOf_62 fl7_18 (by first | rfl | assumption) (by first | decide | (show _ < 62; omega)) (by first | rfl | assumption) ?_
        refine g_iconst dX7_agreementOf_65 ?_
        refine g_aaload dX7_agreementOf_66 rfl (by decide) rfl ?_
        refine g_getP dX7_agreementOf_67 fl7_166 (by first | rfl | assumption) (by first | decide | (show _ < 62; omega)) (by first | rfl | assumption) ?_
        refine g_iload_n (i := 1) dX7_agreementOf_70 rfl rfl ?_
        refine g_iaload dX7_agreementOf_71 rfl (by decide) ?_
        rw [hr]
        skip -- ?_
        refine g_aload_n (i := 0) dX7_agreementOf_72 rfl rfl ?_
        refine g_getP dX7_agreementOf_73 fl7_18 (by first | rfl | assumption) (by first | decide | (show _ < 62; omega)) (by first | rfl | assumption) ?_
        refine g_iconst dX7_agreementOf_76 ?_
        refine g_aaload dX7_agreementOf_77 rfl (by decide) rfl ?_
        refine g_getP dX7_agreementOf_78 fl7_166 (by first | rfl | assumption) (by first | decide | (show _ < 62; omega)) (by first | rfl | assumption) ?_
        refine g_iload_n (i := 2) dX7_agreementOf_81 rfl rfl ?_
        refine g_iaload dX7_agreementOf_82 rfl (by decide) ?_
        rw [hs]
        skip -- ?_
        refine g_icmp_ne 90 dX7_agreementOf_83 (by decide) (fun b83 => ?_) (fun b83 => ?_)
        · skip
          refine g_iconst dX7_agreementOf_90 ?_
          refine g_istore4 dX7_agreementOf_91 rfl ?_
          refine g_iload_n (i := 3) dX7_agreementOf_93 rfl rfl ?_
          refine g_if_eq 108 dX7_agreementOf_94 (by decide) (fun b94 => ?_) (fun b94 => ?_)
          · skip
            refine g_iload dX7_agreementOf_108 rfl ?_
            refine g_if_eq 117 dX7_agreementOf_110 (by decide) (fun b110 => ?_) (fun b110 => ?_)
            · skip
              refine g_iconst dX7_agreementOf_117 ?_
              exact n_reti dX7_agreementOf_118 rfl (⟨by unfold ag; (repeat' split) <;> omega, rfl⟩)
            · skip
              refine g_iconst dX7_agreementOf_113 ?_
              refine g_goto 118 dX7_agreementOf_114 (by decide) ?_
              exact n_reti dX7_agreementOf_118 rfl (⟨by unfold ag; (repeat' split) <;> omega, rfl⟩)
          · skip
            refine g_iload dX7_agreementOf_97 rfl ?_
            refine g_if_eq 106 dX7_agreementOf_99 (by decide) (fun b99 => ?_) (fun b99 => ?_)
            · skip
              refine g_iconst dX7_agreementOf_106 ?_
              exact n_reti dX7_agreementOf_107 rfl (⟨by unfold ag; (repeat' split) <;> omega, rfl⟩)
            · skip
              refine g_iconst dX7_agreementOf_102 ?_
              refine g_goto 107 dX7_agreementOf_103 (by decide) ?_
              exact n_reti dX7_agreementOf_107 rfl (⟨by unfold ag; (repeat' split) <;> omega, rfl⟩)
        · skip
          refine g_iconst dX7_agreementOf_86 ?_
          refine g_goto 91 dX7_agreementOf_87 (by decide) ?_
          refine g_istore4 dX7_agreementOf_91 rfl ?_
          refine g_iload_n (i := 3) dX7_agreementOf_93 rfl rfl ?_
          refine g_if_eq 108 dX7_agreementOf_94 (by decide) (fun b94 => ?_) (fun b94 => ?_)
          · skip
            refine g_iload dX7_agreementOf_108 rfl ?_
            refine g_if_eq 117 dX7_agreementOf_110 (by decide) (fun b110 => ?_) (fun b110 => ?_)
            · skip
              refine g_iconst dX7_agreementOf_117 ?_
              exact n_reti dX7_agreementOf_118 rfl (⟨by unfold ag; (repeat' split) <;> omega, rfl⟩)
            · skip
              refine g_iconst dX7_agreementOf_113 ?_
              refine g_goto 118 dX7_agreementOf_114 (by decide) ?_
              exact n_reti dX7_agreementOf_118 rfl (⟨by unfold ag; (repeat' split) <;> omega, rfl⟩)
          · skip
            refine g_iload dX7_agreementOf_97 rfl ?_
            refine g_if_eq 106 dX7_agreementOf_99 (by decide) (fun b99 => ?_) (fun b99 => ?_)
            · skip
              refine g_iconst dX7_agreementOf_106 ?_
              exact n_reti dX7_agreementOf_107 rfl (⟨by unfold ag; (repeat' split) <;> omega, rfl⟩)
            · skip
              refine g_iconst dX7_agreementOf_102 ?_
              refine g_goto 107 dX7_agreementOf_103 (by decide) ?_
              exact n_reti dX7_agreementOf_107 rfl (⟨by unfold ag; (repeat' split) <;> omega, rfl⟩)
      · skip
        refine g_iconst dX7_agreementOf_55 ?_
        refine g_goto 60 dX7_agreementOf_56 (by decide) ?_
        refine g_istore_n3 dX7_agreementOf_60 rfl ?_
        refine g_aload_n (i := 0) dX7_agreementOf_61 rfl rfl ?_
        refine g_getP dX7_agreementOf_62 fl7_18 (by first | rfl | assumption) (by first | decide | (show _ < 62; omega)) (by first | rfl | assumption) ?_
        refine g_iconst dX7_agreementOf_65 ?_
        refine g_aaload dX7_agreementOf_66 rfl (by decide) rfl ?_
        refine g_getP dX7_agreementOf_67 fl7_166 (by first | rfl | assumption) (by first | decide | (show _ < 62; omega)) (by first | rfl | assumption) ?_
        refine g_iload_n (i := 1) dX7_agreementOf_70 rfl rfl ?_
        refine g_iaload dX7_agreementOf_71 rfl (by decide) ?_
        rw [hr]
        skip -- ?_
        refine g_aload_n (i := 0) dX7_agreementOf_72 rfl rfl ?_
        refine g_getP dX7_agreementOf_73 fl7_18 (by first | rfl | assumption) (by first | decide | (show _ < 62; omega)) (by first | rfl | assumption) ?_
        refine g_iconst dX7_agreementOf_76 ?_
        refine g_aaload dX7_agreementOf_77 rfl (by decide) rfl ?_
        refine g_getP dX7_agreementOf_78 fl7_166 (by first | rfl | assumption) (by first | decide | (show _ < 62; omega)) (by first | rfl | assumption) ?_
        refine g_iload_n (i := 2) dX7_agreementOf_81 rfl rfl ?_
        refine g_iaload dX7_agreementOf_82 rfl (by decide) ?_
        rw [hs]
        skip -- ?_
        refine g_icmp_ne 90 dX7_agreementOf_83 (by decide) (fun b83 => ?_) (fun b83 => ?_)
        · skip
          refine g_iconst dX7_agreementOf_90 ?_
          refine g_istore4 dX7_agreementOf_91 rfl ?_
          refine g_iload_n (i := 3) dX7_agreementOf_93 rfl rfl ?_
          refine g_if_eq 108 dX7_agreementOf_94 (by decide) (fun b94 => ?_) (fun b94 => ?_)
          · skip
            refine g_iload dX7_agreementOf_108 rfl ?_
            refine g_if_eq 117 dX7_agreementOf_110 (by decide) (fun b110 => ?_) (fun b110 => ?_)
            · skip
              refine g_iconst dX7_agreementOf_117 ?_
              exact n_reti dX7_agreementOf_118 rfl (⟨by unfold ag; (repeat' split) <;> omega, rfl⟩)
            · skip
              refine g_iconst dX7_agreementOf_113 ?_
              refine g_goto 118 dX7_agreementOf_114 (by decide) ?_
              exact n_reti dX7_agreementOf_118 rfl (⟨by unfold ag; (repeat' split) <;> omega, rfl⟩)
          · skip
            refine g_iload dX7_agreementOf_97 rfl ?_
            refine g_if_eq 106 dX7_agreementOf_99 (by decide) (fun b99 => ?_) (fun b99 => ?_)
            · skip
              refine g_iconst dX7_agreementOf_106 ?_
              exact n_reti dX7_agreementOf_107 rfl (⟨by unfold ag; (repeat' split) <;> omega, rfl⟩)
            · skip
              refine g_iconst dX7_agreementOf_102 ?_
              refine g_goto 107 dX7_agreementOf_103 (by decide) ?_
              exact n_reti dX7_agreementOf_107 rfl (⟨by unfold ag; (repeat' split) <;> omega, rfl⟩)
        · skip
          refine g_iconst dX7_agreementOf_86 ?_
          refine g_goto 91 dX7_agreementOf_87 (by decide) ?_
          refine g_istore4 dX7_agreementOf_91 rfl ?_
          refine g_iload_n (i := 3) dX7_agreementOf_93 rfl rfl ?_
          refine g_if_eq 108 dX7_agreementOf_94 (by decide) (fun b94 => ?_) (fun b94 => ?_)
          · skip
            refine g_iload dX7_agreementOf_108 rfl ?_
            refine g_if_eq 117 dX7_agreementOf_110 (by decide) (fun b110 => ?_) (fun b110 => ?_)
            · skip
              refine g_iconst dX7_agreementOf_117 ?_
              exact n_reti dX7_agreementOf_118 rfl (⟨by unfold ag; (repeat' split) <;> omega, rfl⟩)
            · skip
              refine g_iconst dX7_agreementOf_113 ?_
              refine g_goto 118 dX7_agreementOf_114 (by decide) ?_
              exact n_reti dX7_agreementOf_118 rfl (⟨by unfold ag; (repeat' split) <;> omega, rfl⟩)
          · skip
            refine g_iload dX7_agreementOf_97 rfl ?_
            refine g_if_eq 106 dX7_agreementOf_99 (by decide) (fun b99 => ?_) (fun b99 => ?_)
            · skip
              refine g_iconst dX7_agreementOf_106 ?_
              exact n_reti dX7_agreementOf_107 rfl (⟨by unfold ag; (repeat' split) <;> omega, rfl⟩)
            · skip
              refine g_iconst dX7_agreementOf_102 ?_
              refine g_goto 107 dX7_agreementOf_103 (by decide) ?_
              exact n_reti dX7_agreementOf_107 rfl (⟨by unfold ag; (repeat' split) <;> omega, rfl⟩)
    · skip
      refine g_iconst dX7_agreementOf_28 ?_
      exact n_reti dX7_agreementOf_29 rfl (⟨by unfold ag; (repeat' split) <;> omega, rfl⟩)
set_option maxHeartbeats 4000000 in
set_option maxRecDepth 100000 in
theorem k_X7_agree (c : qC) (n wd : Int) (N : Int → Int → Int) (S : Sl) (mm : Int) (md : Int → Int) (T : Tr) (hS : CS c n wd N S mm md T) (w : Int) (w0 : iR w) : qN X7_agree 2 [qP 0, qI w] c (pI (fun z c' => z = a_agr n S w ∧ CS c' n wd N S mm md T ∧ FrC c c')) := by
  have hS0 := hS
  obtain ⟨hT, hSl, hMd, hTr⟩ := hS
  have hT0 := hT
  obtain ⟨t1, t2, t3, t4, t5, t6, t7⟩ := hT
  have hs0 : CSl c 5 n (S 0) := hSl 0 (by omega) (by omega)
  have hs1 : CSl c 8 n (S 1) := hSl 1 (by omega) (by omega)
  have hb0 := hs0.b
  have hb1 := hs1.b
  refine qN.of [some (qP 0), some (qI w), none, none, none] (by decide) rfl (fun _ => rfl) (fun _ => Nat.le_of_ble_eq_true rfl) ?_
  refine g_iload_n (i := 1) dX7_agree_0 rfl rfl ?_
  refine g_if_lt 9 dX7_agree_1 (by decide) (fun b1 => ?_) (fun b1 => ?_)
  · skip
    refine g_ldc (z := -2000000002) dX7_agree_9 cw7_58 ?_
    exact n_reti dX7_agree_11 rfl (⟨by unfold a_agr; rw [if_neg (by omega)], hS0, FrC.rf c⟩)
  · skip
    refine g_iload_n (i := 1) dX7_agree_4 rfl rfl ?_
    refine g_iconst dX7_agree_5 ?_
    refine g_icmp_le 12 dX7_agree_6 (by decide) (fun b6 => ?_) (fun b6 => ?_)
    · skip
      refine g_aload_n (i := 0) dX7_agree_12 rfl rfl ?_
      refine g_getP dX7_agree_13 fl7_18 (by first | rfl | assumption) (by first | decide | (show _ < 62; omega)) (by first | rfl | assumption) ?_
      refine g_iconst dX7_agree_16 ?_
      refine g_aaload dX7_agree_17 rfl (by decide) rfl ?_
      refine n_callVi (k_X3_isEmpty_5 _ _ rfl (by omega)) dX7_agree_18 lk7_162 im_X3_isEmpty (by first | rfl | assumption) (by first | decide | (show _ < 62; omega)) rfl rfl rfl rfl (Nat.le_of_ble_eq_true rfl) (fun z c' hz => ?_)
      obtain ⟨hz2, hz⟩ := hz
      have hz2 := hz2.symm
      subst hz2
      refine g_if_ne 36 dX7_agree_21 (by decide) (fun b21 => ?_) (fun b21 => ?_)
      · skip
        have hno : S 0 = none ∨ S 1 = none := by
          by_cases e0 : c 5 3 = -1
          · exact Or.inl (hs0.no e0)
          · exact Or.inr (hs1.no (by omega))
        refine g_ldc (z := -2000000003) dX7_agree_36 cw7_63 ?_
        exact n_reti dX7_agree_38 rfl (⟨by unfold a_agr; rw [if_pos (by omega)]; rcases hno with e | e <;> rw [e]; cases S 0 <;> rfl, hS0, FrC.rf c⟩)
      · skip
        refine g_aload_n (i := 0) dX7_agree_24 rfl rfl ?_
        refine g_getP dX7_agree_25 fl7_18 (by first | rfl | assumption) (by first | decide | (show _ < 62; omega)) (by first | rfl | assumption) ?_
        refine g_iconst dX7_agree_28 ?_
        refine g_aaload dX7_agree_29 rfl (by decide) rfl ?_
        refine n_callVi (k_X3_isEmpty_8 _ _ rfl (by omega)) dX7_agree_30 lk7_162 im_X3_isEmpty (by first | rfl | assumption) (by first | decide | (show _ < 62; omega)) rfl rfl rfl rfl (Nat.le_of_ble_eq_true rfl) (fun z c' hz => ?_)
        obtain ⟨hz2, hz⟩ := hz
        have hz2 := hz2.symm
        subst hz2
        refine g_if_eq 39 dX7_agree_33 (by decide) (fun b33 => ?_) (fun b33 => ?_)
        · skip
          obtain ⟨g, m, hg, hG⟩ := hs0.yes (by omega)
          obtain ⟨h, m2, hh, hH⟩ := hs1.yes (by omega)
          have hg4 := hG.2.2.2.1
          have hh4 := hH.2.2.2.1
          have hgi : ∀ r, 0 ≤ r → r < n → c 6 r = g r ∧ -1 ≤ g r ∧ g r < 30 := fun r r0 r1 => ⟨(hG.2.2.2.2.1 r r0 r1).1, (hG.2.2.2.2.1 r r0 r1).2.1, by have := (hG.2.2.2.2.1 r r0 r1).2.2; omega⟩
          have hhi : ∀ r, 0 ≤ r → r < n → c 9 r = h r ∧ -1 ≤ h r ∧ h r < 30 := fun r r0 r1 => ⟨(hH.2.2.2.2.1 r r0 r1).1, (hH.2.2.2.2.1 r r0 r1).2.1, by have := (hH.2.2.2.2.1 r r0 r1).2.2; omega⟩
          refine g_iconst dX7_agree_39 ?_
          refine g_istore_n2 dX7_agree_40 rfl ?_
          refine g_iconst dX7_agree_41 ?_
          refine g_istore_n3 dX7_agree_42 rfl ?_
          have L43 : ∀ (fu43 : Nat) (p i : Int), (n - i).toNat < fu43 → (0 ≤ i) → (i ≤ n) → (p = sI (fun i => agI g h n w i) i) → qG (qYn X7_agree 2 (pI (fun z c' => z = a_agr n S w ∧ CS c' n wd N S mm md T ∧ FrC c c'))) wN 43 [some (qP 0), some (qI w), some (qI p), some (qI i), none] [] c := by
            intro fu43
            induction fu43 with
            | zero => intro p i hm; exact absurd hm (Nat.not_lt_zero _)
            | succ fu43 ih43 =>
              intro p i hm43 i0 i1 hp
              refine g_iload_n (i := 3) dX7_agree_43 rfl rfl ?_
              refine g_aload_n (i := 0) dX7_agree_44 rfl rfl ?_
              refine g_getP dX7_agree_45 fl7_10 (by first | rfl | assumption) (by first | decide | (show _ < 62; omega)) (by first | rfl | assumption) ?_
              refine g_getI (ji := 3) dX7_agree_48 fl7_59 (by first | rfl | assumption) (by first | decide | (show _ < 62; omega)) (by first | rfl | assumption) (by decide) rfl (by first | assumption | rfl) ?_
              refine g_icmp_ge 97 dX7_agree_51 (by decide) (fun b51 => ?_) (fun b51 => ?_)
              · skip
                refine g_iload_n (i := 2) dX7_agree_97 rfl rfl ?_
                exact n_reti dX7_agree_98 rfl (⟨by unfold a_agr; rw [if_pos (by omega), hg, hh, hp, show i = n by omega]; rfl, hS0, FrC.rf c⟩)
              · skip
                refine g_iload_n (i := 3) dX7_agree_54 rfl rfl ?_
                refine g_iconst dX7_agree_55 ?_
                refine g_iadd dX7_agree_56 ?_
                refine g_istore4 dX7_agree_57 rfl ?_
                have L59 : ∀ (fu59 : Nat) (q j : Int), (n - j).toNat < fu59 → (i < j) → (j ≤ n) → (q = p + sI (fun j => if i < j ∧ ag (g i) (g j) (h i) (h j) = w then 1 else 0) j) → qG (qYn X7_agree 2 (pI (fun z c' => z = a_agr n S w ∧ CS c' n wd N S mm md T ∧ FrC c c'))) wN 59 [some (qP 0), some (qI w), some (qI q), some (qI i), some (qI j)] [] c := by
                  intro fu59
                  induction fu59 with
                  | zero => intro q j hm; exact absurd hm (Nat.not_lt_zero _)
                  | succ fu59 ih59 =>
                    intro q j hm59 j0 j1 hq
                    refine g_iload dX7_agree_59 rfl ?_
                    refine g_aload_n (i := 0) dX7_agree_61 rfl rfl ?_
                    refine g_getP dX7_agree_62 fl7_10 (by first | rfl | assumption) (by first | decide | (show _ < 62; omega)) (by first | rfl | assumption) ?_
                    refine g_getI (ji := 3) dX7_agree_65 fl7_59 (by first | rfl | assumption) (by first | decide | (show _ < 62; omega)) (by first | rfl | assumption) (by decide) rfl (by first | assumption | rfl) ?_
                    refine g_icmp_ge 91 dX7_agree_68 (by decide) (fun b68 => ?_) (fun b68 => ?_)
                    · skip
                      refine g_iinc3 dX7_agree_91 rfl ?_
                      refine g_goto 43 dX7_agree_94 (by decide) ?_
                      refine g_fg4 ?_
                      exact ih43 _ _ (by omega) (by first | assumption | omega) (by first | assumption | omega) (by rw [hq, hp, sI_s i0, show j = n by omega]; rfl)
                    · skip
                      refine g_aload_n (i := 0) dX7_agree_71 rfl rfl ?_
                      refine g_iload_n (i := 3) dX7_agree_72 rfl rfl ?_
                      refine g_iload dX7_agree_73 rfl ?_
                      refine n_callVi (k_X7_agreementOf _ _ _ (g i) (g j) (h i) (h j) (by omega) (by omega) (by omega) (by omega) (hgi i (by omega) (by omega)).1 (hgi j (by omega) (by omega)).1 (hhi i (by omega) (by omega)).1 (hhi j (by omega) (by omega)).1 (by have := hgi i (by omega) (by omega); omega) (by have := hgi j (by omega) (by omega); omega) (by have := hhi i (by omega) (by omega); omega) (by have := hhi j (by omega) (by omega); omega)) dX7_agree_75 lk7_196 im_X7_agreementOf (by first | rfl | assumption) (by first | decide | (show _ < 62; omega)) rfl rfl rfl rfl (Nat.le_of_ble_eq_true rfl) (fun z c' hz => ?_)
                      obtain ⟨rfl, hz2⟩ := hz
                      have hz2 := hz2.symm
                      subst hz2
                      have hagb : -1 ≤ ag (g i) (g j) (h i) (h j) ∧ ag (g i) (g j) (h i) (h j) ≤ 3 := by unfold ag; (repeat' split) <;> omega
                      refine g_iload_n (i := 1) dX7_agree_78 rfl rfl ?_
                      refine g_icmp_ne 85 dX7_agree_79 (by decide) (fun b79 => ?_) (fun b79 => ?_)
                      · skip
                        refine g_iinc4 dX7_agree_85 rfl ?_
                        refine g_goto 59 dX7_agree_88 (by decide) ?_
                        exact ih59 _ _ (by omega) (by first | assumption | omega) (by first | assumption | omega) (by rw [hq, sI_s (by omega)]; first | (rw [if_pos (by omega)]; omega) | (rw [if_neg (by omega)]; omega))
                      · skip
                        refine g_iinc2 dX7_agree_82 rfl ?_
                        refine g_iinc4 dX7_agree_85 rfl ?_
                        refine g_goto 59 dX7_agree_88 (by decide) ?_
                        exact ih59 _ _ (by omega) (by first | assumption | omega) (by first | assumption | omega) (by rw [hq, sI_s (by omega)]; first | (rw [if_pos (by omega)]; omega) | (rw [if_neg (by omega)]; omega))
                exact L59 _ _ _ (Nat.lt_succ_self _) (by first | assumption | omega) (by first | assumption | omega) (by rw [sI_zero (by omega) (fun r r0 r1 => if_neg (by omega))]; omega)
          exact L43 _ _ _ (Nat.lt_succ_self _) (by first | assumption | omega) (by first | assumption | omega) rfl
        · skip
          have hno : S 0 = none ∨ S 1 = none := by
            by_cases e0 : c 5 3 = -1
            · exact Or.inl (hs0.no e0)
            · exact Or.inr (hs1.no (by omega))
          refine g_ldc (z := -2000000003) dX7_agree_36 cw7_63 ?_
          exact n_reti dX7_agree_38 rfl (⟨by unfold a_agr; rw [if_pos (by omega)]; rcases hno with e | e <;> rw [e]; cases S 0 <;> rfl, hS0, FrC.rf c⟩)
    · skip
      refine g_ldc (z := -2000000002) dX7_agree_9 cw7_58 ?_
      exact n_reti dX7_agree_11 rfl (⟨by unfold a_agr; rw [if_neg (by omega)], hS0, FrC.rf c⟩)
set_option maxHeartbeats 4000000 in
set_option maxRecDepth 100000 in
theorem k_X8_agree (c : qC) (n wd : Int) (N : Int → Int → Int) (S : Sl) (mm : Int) (md : Int → Int) (T : Tr) (hS : TS c n wd N S mm md T) (w : Int) (w0 : iR w) : qN X8_agree 1 [qP 39, qI w] c (pI (fun z c' => z = a_agr n S w ∧ TS c' n wd N S mm md T ∧ FrT c c')) := by
  have hS0 := hS
  obtain ⟨hM, hSl, hMd, hTr⟩ := hS
  have hM0 := hM
  obtain ⟨t1, t2, t3, t4, t5, t6⟩ := hM
  have hs0 := hSl 0 (by omega) (by omega)
  have hs1 := hSl 1 (by omega) (by omega)
  have hb0 := hs0.b
  have hb1 := hs1.b
  refine qN.of [some (qP 39), some (qI w), none, none, none, none, none, none] (by decide) rfl (fun _ => rfl) (fun _ => Nat.le_of_ble_eq_true rfl) ?_
  refine g_iload_n (i := 1) dX8_agree_0 rfl rfl ?_
  refine g_iconst dX8_agree_1 ?_
  refine g_iconst dX8_agree_2 ?_
  refine n_callSi (k_X8_within _ _ _ _ (by omega) (by omega) (by omega)) dX8_agree_3 lk8_85 sm_X8_within rfl rfl rfl (Nat.le_of_ble_eq_true rfl) (fun z c' hz => ?_)
  obtain ⟨hz2, hz⟩ := hz
  have hz2 := hz2.symm
  subst hz2
  refine g_if_ne 12 dX8_agree_6 (by decide) (fun b6 => ?_) (fun b6 => ?_)
  · skip
    refine g_aload_n (i := 0) dX8_agree_12 rfl rfl ?_
    refine g_getP dX8_agree_13 fl8_17 (by first | rfl | assumption) (by first | decide | (show _ < 62; omega)) (by first | rfl | assumption) ?_
    refine g_iconst dX8_agree_16 ?_
    refine g_baload dX8_agree_17 (by first | rfl | assumption) (by first | decide | (show _ < 62; omega)) ?_
    refine g_if_eq 30 dX8_agree_18 (by decide) (fun b18 => ?_) (fun b18 => ?_)
    · skip
      have hno : S 0 = none ∨ S 1 = none := by
        by_cases e0 : c 41 0 = 0
        · exact Or.inl (hs0.no e0)
        · exact Or.inr (hs1.no (by omega))
      refine g_ldc (z := -2000000003) dX8_agree_30 cw8_97 ?_
      exact n_reti dX8_agree_32 rfl (⟨by unfold a_agr; rw [if_pos (by omega)]; rcases hno with e | e <;> rw [e]; cases S 0 <;> rfl, hS0, FrT.rf c⟩)
    · skip
      refine g_aload_n (i := 0) dX8_agree_21 rfl rfl ?_
      refine g_getP dX8_agree_22 fl8_17 (by first | rfl | assumption) (by first | decide | (show _ < 62; omega)) (by first | rfl | assumption) ?_
      refine g_iconst dX8_agree_25 ?_
      refine g_baload dX8_agree_26 (by first | rfl | assumption) (by first | decide | (show _ < 62; omega)) ?_
      refine g_if_ne 33 dX8_agree_27 (by decide) (fun b27 => ?_) (fun b27 => ?_)
      · skip
        obtain ⟨g, m, hg, hgm, hg4, hG⟩ := hs0.yes (by omega)
        obtain ⟨h, m2, hh, hhm, hh4, hH⟩ := hs1.yes (by omega)
        have hgi : ∀ r, 0 ≤ r → r < n → c 43 (30 * 0 + r) = g r ∧ -1 ≤ g r ∧ g r < 30 := fun r r0 r1 => ⟨(hG r r0 r1).1, (hG r r0 r1).2.1, by have := (hG r r0 r1).2.2; omega⟩
        have hhi : ∀ r, 0 ≤ r → r < n → c 43 (30 * 1 + r) = h r ∧ -1 ≤ h r ∧ h r < 30 := fun r r0 r1 => ⟨(hH r r0 r1).1, (hH r r0 r1).2.1, by have := (hH r r0 r1).2.2; omega⟩
        refine g_iconst dX8_agree_33 ?_
        refine g_istore_n2 dX8_agree_34 rfl ?_
        refine g_iconst dX8_agree_35 ?_
        refine g_istore_n3 dX8_agree_36 rfl ?_
        have L37 : ∀ (fu37 : Nat) (p i : Int), (n - i).toNat < fu37 → (0 ≤ i) → (i ≤ n) → (p = sI (fun i => agI g h n w i) i) → qG (qYn X8_agree 1 (pI (fun z c' => z = a_agr n S w ∧ TS c' n wd N S mm md T ∧ FrT c c'))) wN 37 [some (qP 39), some (qI w), some (qI p), some (qI i), none, none, none, none] [] c := by
          intro fu37
          induction fu37 with
          | zero => intro p i hm; exact absurd hm (Nat.not_lt_zero _)
          | succ fu37 ih37 =>
            intro p i hm37 i0 i1 hp
            refine g_iload_n (i := 3) dX8_agree_37 rfl rfl ?_
            refine g_aload_n (i := 0) dX8_agree_38 rfl rfl ?_
            refine g_getI (ji := 0) dX8_agree_39 fl8_82 (by first | rfl | assumption) (by first | decide | (show _ < 62; omega)) (by first | rfl | assumption) (by decide) rfl (by first | assumption | rfl) ?_
            refine g_icmp_ge 188 dX8_agree_42 (by decide) (fun b42 => ?_) (fun b42 => ?_)
            · skip
              refine g_iload_n (i := 2) dX8_agree_188 rfl rfl ?_
              exact n_reti dX8_agree_189 rfl (⟨by unfold a_agr; rw [if_pos (by omega), hg, hh, hp, show i = n by omega]; rfl, hS0, FrT.rf c⟩)
            · skip
              refine g_iload_n (i := 3) dX8_agree_45 rfl rfl ?_
              refine g_iconst dX8_agree_46 ?_
              refine g_iadd dX8_agree_47 ?_
              refine g_istore4 dX8_agree_48 rfl ?_
              have L50 : ∀ (fu50 : Nat) (q j : Int), (n - j).toNat < fu50 → (i < j) → (j ≤ n) → (q = p + sI (fun j => if i < j ∧ ag (g i) (g j) (h i) (h j) = w then 1 else 0) j) → qG (qYn X8_agree 1 (pI (fun z c' => z = a_agr n S w ∧ TS c' n wd N S mm md T ∧ FrT c c'))) wN 50 [some (qP 39), some (qI w), some (qI q), some (qI i), some (qI j), none, none, none] [] c := by
                intro fu50
                induction fu50 with
                | zero => intro q j hm; exact absurd hm (Nat.not_lt_zero _)
                | succ fu50 ih50 =>
                  intro q j hm50 j0 j1 hq
                  refine g_iload dX8_agree_50 rfl ?_
                  refine g_aload_n (i := 0) dX8_agree_52 rfl rfl ?_
                  refine g_getI (ji := 0) dX8_agree_53 fl8_82 (by first | rfl | assumption) (by first | decide | (show _ < 62; omega)) (by first | rfl | assumption) (by decide) rfl (by first | assumption | rfl) ?_
                  refine g_icmp_ge 182 dX8_agree_56 (by decide) (fun b56 => ?_) (fun b56 => ?_)
                  · skip
                    refine g_iinc3 dX8_agree_182 rfl ?_
                    refine g_goto 37 dX8_agree_185 (by decide) ?_
                    refine g_fg4 ?_
                    exact ih37 _ _ (by omega) (by first | assumption | omega) (by first | assumption | omega) (by rw [hq, hp, sI_s i0, show j = n by omega]; rfl)
                  · skip
                    have J174 : ∀ (z : Int), (z = if i < j ∧ ag (g i) (g j) (h i) (h j) = w then 1 else 0) → qG (qYn X8_agree 1 (pI (fun z c' => z = a_agr n S w ∧ TS c' n wd N S mm md T ∧ FrT c c'))) wN 174 [some (qP 39), some (qI w), some (qI q), some (qI i), some (qI j), none, none, none] [qI z, qI q] c := by
                      intro z hz9
                      refine g_iadd dX8_agree_174 ?_
                      refine g_istore_n2 dX8_agree_175 rfl ?_
                      refine g_iinc4 dX8_agree_176 rfl ?_
                      refine g_goto 50 dX8_agree_179 (by decide) ?_
                      exact ih50 _ _ (by omega) (by first | assumption | omega) (by first | assumption | omega) (by rw [hq, sI_s (by omega), hz9, Int.add_assoc])
                    have J152 : ∀ (al on tw : Int), ((al = 1 ∧ ¬ (g i = -1 ∨ g j = -1 ∨ h i = -1 ∨ h j = -1)) ∨ (al = 0 ∧ (g i = -1 ∨ g j = -1 ∨ h i = -1 ∨ h j = -1))) → ((on = 0 ∧ g i = g j) ∨ (on = 2 ∧ ¬ g i = g j)) → ((tw = 0 ∧ h i = h j) ∨ (tw = 1 ∧ ¬ h i = h j)) → qG (qYn X8_agree 1 (pI (fun z c' => z = a_agr n S w ∧ TS c' n wd N S mm md T ∧ FrT c c'))) wN 152 [some (qP 39), some (qI w), some (qI q), some (qI i), some (qI j), some (qI al), some (qI on), none] [qI tw] c := by
                      intro al on tw hal hon htw
                      refine g_istore7 dX8_agree_152 rfl ?_
                      refine g_iload_n (i := 2) dX8_agree_154 rfl rfl ?_
                      refine g_iload dX8_agree_155 rfl ?_
                      refine g_if_eq 173 dX8_agree_157 (by decide) (fun b157 => ?_) (fun b157 => ?_)
                      · skip
                        refine g_iconst dX8_agree_173 ?_
                        refine g_fg5 ?_
                        refine g_fg6 ?_
                        refine g_fg7 ?_
                        exact J174 _ (by unfold ag; (repeat' split) <;> omega)
                      · skip
                        refine g_iload dX8_agree_160 rfl ?_
                        refine g_iload dX8_agree_162 rfl ?_
                        refine g_iadd dX8_agree_164 ?_
                        refine g_iload_n (i := 1) dX8_agree_165 rfl rfl ?_
                        refine g_icmp_ne 173 dX8_agree_166 (by decide) (fun b166 => ?_) (fun b166 => ?_)
                        · skip
                          refine g_iconst dX8_agree_173 ?_
                          refine g_fg5 ?_
                          refine g_fg6 ?_
                          refine g_fg7 ?_
                          exact J174 _ (by unfold ag; (repeat' split) <;> omega)
                        · skip
                          refine g_iconst dX8_agree_169 ?_
                          refine g_goto 174 dX8_agree_170 (by decide) ?_
                          refine g_fg5 ?_
                          refine g_fg6 ?_
                          refine g_fg7 ?_
                          exact J174 _ (by unfold ag; (repeat' split) <;> omega)
                    have J129 : ∀ (al on : Int), ((al = 1 ∧ ¬ (g i = -1 ∨ g j = -1 ∨ h i = -1 ∨ h j = -1)) ∨ (al = 0 ∧ (g i = -1 ∨ g j = -1 ∨ h i = -1 ∨ h j = -1))) → ((on = 0 ∧ g i = g j) ∨ (on = 2 ∧ ¬ g i = g j)) → qG (qYn X8_agree 1 (pI (fun z c' => z = a_agr n S w ∧ TS c' n wd N S mm md T ∧ FrT c c'))) wN 129 [some (qP 39), some (qI w), some (qI q), some (qI i), some (qI j), some (qI al), none, none] [qI on] c := by
                      intro al on hal hon
                      refine g_istore6 dX8_agree_129 rfl ?_
                      refine g_aload_n (i := 0) dX8_agree_131 rfl rfl ?_
                      refine g_iconst dX8_agree_132 ?_
                      refine g_iload_n (i := 3) dX8_agree_133 rfl rfl ?_
                      refine n_callVi (k_X8_of0 _ _ _ (by omega) (by omega) (by omega)) dX8_agree_134 lk8_182 im_X8_of0 (by first | rfl | assumption) (by first | decide | (show _ < 62; omega)) rfl rfl rfl rfl (Nat.le_of_ble_eq_true rfl) (fun z c' hz => ?_)
                      obtain ⟨rfl, hz2⟩ := hz
                      have hz2 := hz2.symm
                      subst hz2
                      rw [(hhi i (by omega) (by omega)).1]
                      have hv_i := hhi i (by omega) (by omega)
                      refine g_aload_n (i := 0) dX8_agree_137 rfl rfl ?_
                      refine g_iconst dX8_agree_138 ?_
                      refine g_iload dX8_agree_139 rfl ?_
                      refine n_callVi (k_X8_of0 _ _ _ (by omega) (by omega) (by omega)) dX8_agree_141 lk8_182 im_X8_of0 (by first | rfl | assumption) (by first | decide | (show _ < 62; omega)) rfl rfl rfl rfl (Nat.le_of_ble_eq_true rfl) (fun z c' hz => ?_)
                      obtain ⟨rfl, hz2⟩ := hz
                      have hz2 := hz2.symm
                      subst hz2
                      rw [(hhi j (by omega) (by omega)).1]
                      have hv_j := hhi j (by omega) (by omega)
                      refine g_icmp_ne 151 dX8_agree_144 (by decide) (fun b144 => ?_) (fun b144 => ?_)
                      · skip
                        refine g_iconst dX8_agree_151 ?_
                        exact J152 _ _ _ (by first | assumption | omega) (by first | assumption | omega) (by omega)
                      · skip
                        refine g_iconst dX8_agree_147 ?_
                        refine g_goto 152 dX8_agree_148 (by decide) ?_
                        exact J152 _ _ _ (by first | assumption | omega) (by first | assumption | omega) (by omega)
                    have J106 : ∀ (al : Int), ((al = 1 ∧ ¬ (g i = -1 ∨ g j = -1 ∨ h i = -1 ∨ h j = -1)) ∨ (al = 0 ∧ (g i = -1 ∨ g j = -1 ∨ h i = -1 ∨ h j = -1))) → qG (qYn X8_agree 1 (pI (fun z c' => z = a_agr n S w ∧ TS c' n wd N S mm md T ∧ FrT c c'))) wN 106 [some (qP 39), some (qI w), some (qI q), some (qI i), some (qI j), none, none, none] [qI al] c := by
                      intro al hal
                      refine g_istore5 dX8_agree_106 rfl ?_
                      refine g_aload_n (i := 0) dX8_agree_108 rfl rfl ?_
                      refine g_iconst dX8_agree_109 ?_
                      refine g_iload_n (i := 3) dX8_agree_110 rfl rfl ?_
                      refine n_callVi (k_X8_of0 _ _ _ (by omega) (by omega) (by omega)) dX8_agree_111 lk8_182 im_X8_of0 (by first | rfl | assumption) (by first | decide | (show _ < 62; omega)) rfl rfl rfl rfl (Nat.le_of_ble_eq_true rfl) (fun z c' hz => ?_)
                      obtain ⟨rfl, hz2⟩ := hz
                      have hz2 := hz2.symm
                      subst hz2
                      rw [(hgi i (by omega) (by omega)).1]
                      have hv_i := hgi i (by omega) (by omega)
                      refine g_aload_n (i := 0) dX8_agree_114 rfl rfl ?_
                      refine g_iconst dX8_agree_115 ?_
                      refine g_iload dX8_agree_116 rfl ?_
                      refine n_callVi (k_X8_of0 _ _ _ (by omega) (by omega) (by omega)) dX8_agree_118 lk8_182 im_X8_of0 (by first | rfl | assumption) (by first | decide | (show _ < 62; omega)) rfl rfl rfl rfl (Nat.le_of_ble_eq_true rfl) (fun z c' hz => ?_)
                      obtain ⟨rfl, hz2⟩ := hz
                      have hz2 := hz2.symm
                      subst hz2
                      rw [(hgi j (by omega) (by omega)).1]
                      have hv_j := hgi j (by omega) (by omega)
                      refine g_icmp_ne 128 dX8_agree_121 (by decide) (fun b121 => ?_) (fun b121 => ?_)
                      · skip
                        refine g_iconst dX8_agree_128 ?_
                        exact J129 _ _ (by first | assumption | omega) (by omega)
                      · skip
                        refine g_iconst dX8_agree_124 ?_
                        refine g_goto 129 dX8_agree_125 (by decide) ?_
                        exact J129 _ _ (by first | assumption | omega) (by omega)
                    refine g_aload_n (i := 0) dX8_agree_59 rfl rfl ?_
                    refine g_iconst dX8_agree_60 ?_
                    refine g_iload_n (i := 3) dX8_agree_61 rfl rfl ?_
                    refine n_callVi (k_X8_of0 _ _ _ (by omega) (by omega) (by omega)) dX8_agree_62 lk8_182 im_X8_of0 (by first | rfl | assumption) (by first | decide | (show _ < 62; omega)) rfl rfl rfl rfl (Nat.le_of_ble_eq_true rfl) (fun z c' hz => ?_)
                    obtain ⟨rfl, hz2⟩ := hz
                    have hz2 := hz2.symm
                    subst hz2
                    rw [(hgi i (by omega) (by omega)).1]
                    have hv_i := hgi i (by omega) (by omega)
                    refine g_iconst dX8_agree_65 ?_
                    refine g_icmp_eq 105 dX8_agree_66 (by decide) (fun b66 => ?_) (fun b66 => ?_)
                    · skip
                      refine g_iconst dX8_agree_105 ?_
                      exact J106 _ (by omega)
                    · skip
                      refine g_aload_n (i := 0) dX8_agree_69 rfl rfl ?_
                      refine g_iconst dX8_agree_70 ?_
                      refine g_iload dX8_agree_71 rfl ?_
                      refine n_callVi (k_X8_of0 _ _ _ (by omega) (by omega) (by omega)) dX8_agree_73 lk8_182 im_X8_of0 (by first | rfl | assumption) (by first | decide | (show _ < 62; omega)) rfl rfl rfl rfl (Nat.le_of_ble_eq_true rfl) (fun z c' hz => ?_)
                      obtain ⟨rfl, hz2⟩ := hz
                      have hz2 := hz2.symm
                      subst hz2
                      rw [(hgi j (by omega) (by omega)).1]
                      have hv_j := hgi j (by omega) (by omega)
                      refine g_iconst dX8_agree_76 ?_
                      refine g_icmp_eq 105 dX8_agree_77 (by decide) (fun b77 => ?_) (fun b77 => ?_)
                      · skip
                        refine g_iconst dX8_agree_105 ?_
                        exact J106 _ (by omega)
                      · skip
                        refine g_aload_n (i := 0) dX8_agree_80 rfl rfl ?_
                        refine g_iconst dX8_agree_81 ?_
                        refine g_iload_n (i := 3) dX8_agree_82 rfl rfl ?_
                        refine n_callVi (k_X8_of0 _ _ _ (by omega) (by omega) (by omega)) dX8_agree_83 lk8_182 im_X8_of0 (by first | rfl | assumption) (by first | decide | (show _ < 62; omega)) rfl rfl rfl rfl (Nat.le_of_ble_eq_true rfl) (fun z c' hz => ?_)
                        obtain ⟨rfl, hz2⟩ := hz
                        have hz2 := hz2.symm
                        subst hz2
                        rw [(hhi i (by omega) (by omega)).1]
                        have hv_i := hhi i (by omega) (by omega)
                        refine g_iconst dX8_agree_86 ?_
                        refine g_icmp_eq 105 dX8_agree_87 (by decide) (fun b87 => ?_) (fun b87 => ?_)
                        · skip
                          refine g_iconst dX8_agree_105 ?_
                          exact J106 _ (by omega)
                        · skip
                          refine g_aload_n (i := 0) dX8_agree_90 rfl rfl ?_
                          refine g_iconst dX8_agree_91 ?_
                          refine g_iload dX8_agree_92 rfl ?_
                          refine n_callVi (k_X8_of0 _ _ _ (by omega) (by omega) (by omega)) dX8_agree_94 lk8_182 im_X8_of0 (by first | rfl | assumption) (by first | decide | (show _ < 62; omega)) rfl rfl rfl rfl (Nat.le_of_ble_eq_true rfl) (fun z c' hz => ?_)
                          obtain ⟨rfl, hz2⟩ := hz
                          have hz2 := hz2.symm
                          subst hz2
                          rw [(hhi j (by omega) (by omega)).1]
                          have hv_j := hhi j (by omega) (by omega)
                          refine g_iconst dX8_agree_97 ?_
                          refine g_icmp_eq 105 dX8_agree_98 (by decide) (fun b98 => ?_) (fun b98 => ?_)
                          · skip
                            refine g_iconst dX8_agree_105 ?_
                            exact J106 _ (by omega)
                          · skip
                            refine g_iconst dX8_agree_101 ?_
                            refine g_goto 106 dX8_agree_102 (by decide) ?_
                            exact J106 _ (by omega)
              exact L50 _ _ _ (Nat.lt_succ_self _) (by first | assumption | omega) (by first | assumption | omega) (by rw [sI_zero (by omega) (fun r r0 r1 => if_neg (by omega))]; omega)
        exact L37 _ _ _ (Nat.lt_succ_self _) (by first | assumption | omega) (by first | assumption | omega) rfl
      · skip
        have hno : S 0 = none ∨ S 1 = none := by
          by_cases e0 : c 41 0 = 0
          · exact Or.inl (hs0.no e0)
          · exact Or.inr (hs1.no (by omega))
        refine g_ldc (z := -2000000003) dX8_agree_30 cw8_97 ?_
        exact n_reti dX8_agree_32 rfl (⟨by unfold a_agr; rw [if_pos (by omega)]; rcases hno with e | e <;> rw [e]; cases S 0 <;> rfl, hS0, FrT.rf c⟩)
  · skip
    refine g_ldc (z := -2000000002) dX8_agree_9 cw8_96 ?_
    exact n_reti dX8_agree_11 rfl (⟨by unfold a_agr; rw [if_neg (by omega)], hS0, FrT.rf c⟩)
