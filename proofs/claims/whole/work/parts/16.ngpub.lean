/-- the Grouping of a SLOT -/
def oS (s : Int) : Nat := if s = 0 then 5 else 8
theorem oS_ex {s : Int} (h : 0 ≤ s ∧ s ≤ 1) : ∃ o, oS s = o ∧ LAYs s.toNat = some o ∧ LAY o = .inr (.inr (3, [.inl (some (o + 1)), .inl (some (o + 2)), .inr 0, .inr 0])) ∧ o < 62 ∧ (o = 5 ∨ o = 8) ∧ LAY (o + 1) = .inl (0, 30) ∧ LAY (o + 2) = .inl (0, 30) ∧ o + 1 < 62 ∧ o + 2 < 62 := by
  obtain rfl | rfl : s = 0 ∨ s = 1 := by omega
  · exact ⟨5, rfl, rfl, rfl, by decide, Or.inl rfl, rfl, rfl, by decide, by decide⟩
  · exact ⟨8, rfl, rfl, rfl, by decide, Or.inr rfl, rfl, rfl, by decide, by decide⟩
def CSl (c : qC) (o : Nat) (n : Int) (ol : Option ((Int → Int) × Int)) : Prop := match ol with
  | none => c o 3 = -1
  | some p => Gr c o n p.1 p.2
def CMd (c : qC) (mm : Int) (md : Int → Int) : Prop := c 18 4 = mm ∧ (0 ≤ mm ∧ mm ≤ 3) ∧ ∀ i, 0 ≤ i → i < mm → c 20 i = md i
def CTr (c : qC) (n : Int) (o : Tr) : Prop := match o with
  | none => c 27 11 = -1
  | some p => c 27 11 = p.1 ∧ p.1 = n - 1 ∧ 1 ≤ n ∧ ∀ i, 0 ≤ i → i < p.1 → (c 28 i = p.2 0 i ∧ c 29 i = p.2 1 i ∧ c 30 i = p.2 2 i ∧ c 31 i = p.2 3 i ∧ c 32 i = p.2 4 i) ∧ 0 ≤ p.2 0 i ∧ p.2 0 i < p.2 1 i ∧ p.2 1 i < n ∧ iR (p.2 2 i)
/-- the class's state -/
def CS (c : qC) (n wd : Int) (N : Int → Int → Int) (S : Sl) (mm : Int) (md : Int → Int) (T : Tr) : Prop := Tb c n wd N ∧ (∀ s, 0 ≤ s → s ≤ 1 → CSl c (oS s) n (S s)) ∧ CMd c mm md ∧ CTr c n T
theorem CSl.no {c : qC} {o : Nat} {n : Int} {ol : Option ((Int → Int) × Int)} (h : CSl c o n ol) (h0 : c o 3 = -1) : ol = none := by
  cases ol with
  | none => rfl
  | some p => have h1 := h.2.1; have h2 := h.2.2.2.1; omega
theorem CSl.yes {c : qC} {o : Nat} {n : Int} {ol : Option ((Int → Int) × Int)} (h : CSl c o n ol) (h0 : ¬ c o 3 = -1) : ∃ g m, ol = some (g, m) ∧ Gr c o n g m := by
  cases ol with
  | none => exact absurd h h0
  | some p => exact ⟨p.1, p.2, rfl, h⟩
theorem CSl.b {c : qC} {o : Nat} {n : Int} {ol : Option ((Int → Int) × Int)} (h : CSl c o n ol) : -1 ≤ c o 3 ∧ c o 3 ≤ 30 := by
  cases ol with
  | none => have h1 : c o 3 = -1 := h; omega
  | some p => have h1 := h.2.1; have h2 := h.2.2.2.1; omega
theorem CTr.no {c : qC} {n : Int} {o : Tr} (h : CTr c n o) (h0 : c 27 11 = -1) : o = none := by
  cases o with
  | none => rfl
  | some p => have h1 := h.1; have h2 := h.2.1; have h3 := h.2.2.1; omega
theorem CTr.yes {c : qC} {n : Int} {o : Tr} (h : CTr c n o) (h0 : ¬ c 27 11 = -1) : ∃ jn J, o = some (jn, J) ∧ c 27 11 = jn ∧ jn = n - 1 ∧ 1 ≤ n ∧ ∀ i, 0 ≤ i → i < jn → (c 28 i = J 0 i ∧ c 29 i = J 1 i ∧ c 30 i = J 2 i ∧ c 31 i = J 3 i ∧ c 32 i = J 4 i) ∧ 0 ≤ J 0 i ∧ J 0 i < J 1 i ∧ J 1 i < n ∧ iR (J 2 i) := by
  cases o with
  | none => exact absurd h h0
  | some p => exact ⟨p.1, p.2, rfl, h⟩
theorem CTr.b {c : qC} {n : Int} {o : Tr} (h : CTr c n o) (hn : n ≤ 30) : -1 ≤ c 27 11 ∧ c 27 11 ≤ 29 := by
  cases o with
  | none => have h1 : c 27 11 = -1 := h; omega
  | some p => have h1 := h.1; have h2 := h.2.1; have h3 := h.2.2.1; omega
theorem kk_isEmpty {c : qC} {m : Int} {o : Nat} (ho : o = 5 ∨ o = 8) (hm : c o 3 = m) (m0 : iR m) : qN X3_isEmpty 0 [qP o] c (pI (fun z c' => c' = c ∧ ((z = 1 ∧ m = -1) ∨ (z = 0 ∧ ¬ m = -1)))) := by
  rcases ho with rfl | rfl
  · exact k_X3_isEmpty_5 c m hm m0
  · exact k_X3_isEmpty_8 c m hm m0
theorem kk_total {c : qC} {n wd m : Int} {N : Int → Int → Int} {g : Int → Int} {k x : Int} {o : Nat} (ho : o = 5 ∨ o = 8) (hG : Gr c o n g m) (hT : Tb c n wd N) (k0 : iR k) (x0 : 0 ≤ x) (x1 : x < wd) : qN X3_total 1 [qP o, qP 1, qI k, qI x] c (pJ (fun z c' => z = sg g n k (fun r => N r x) ∧ c' = c)) := by
  rcases ho with rfl | rfl
  · exact k_X3_total_5 c n wd m N g k x hG hT k0 x0 x1
  · exact k_X3_total_8 c n wd m N g k x hG hT k0 x0 x1
theorem kk_dist {c : qC} {n wd m : Int} {N : Int → Int → Int} {g : Int → Int} {kd i k : Int} {o : Nat} (ho : o = 5 ∨ o = 8) (hG : Gr c o n g m) (hT : Tb c n wd N) (k0 : iR k) (d0 : 0 ≤ kd) (d1 : kd < 3) (i0 : 0 ≤ i) (i1 : i < n) : qN X3_distancesTo 2 [qP o, qP 1, qI kd, qI i, qI k] c (pJ (fun z c' => z = sg g n k (fun r => ds wd N kd i r) ∧ c' = c)) := by
  rcases ho with rfl | rfl
  · exact k_X3_distancesTo_5 c n wd m N g kd i k hG hT k0 d0 d1 i0 i1
  · exact k_X3_distancesTo_8 c n wd m N g kd i k hG hT k0 d0 d1 i0 i1
theorem kk_sqs {c : qC} {n wd m : Int} {N : Int → Int → Int} {g : Int → Int} {k : Int} {o : Nat} (ho : o = 5 ∨ o = 8) (hG : Gr c o n g m) (hT : Tb c n wd N) (k0 : 0 ≤ k) (k1 : k < m) : qN X3_squaresTimesSize 2 [qP o, qP 1, qI k] c (pJ (fun z c' => z = sq wd N g n k ∧ c' = c)) := by
  rcases ho with rfl | rfl
  · exact k_X3_squaresTimesSize_5 c n wd m N g k hG hT k0 k1
  · exact k_X3_squaresTimesSize_8 c n wd m N g k hG hT k0 k1
theorem kk_both {c : qC} {i j : Int} {o : Nat} (ho : o = 5 ∨ o = 8) (i0 : 0 ≤ i) (i1 : i < 30) (j0 : 0 ≤ j) (j1 : j < 30) (ri : iR (c (o + 1) i)) (rj : iR (c (o + 1) j)) : qN X3_holdsBoth 0 [qP o, qI i, qI j] c (pI (fun z c' => c' = c ∧ ((z = 1 ∧ ¬ c (o + 1) i = -1 ∧ ¬ c (o + 1) j = -1) ∨ (z = 0 ∧ (c (o + 1) i = -1 ∨ c (o + 1) j = -1))))) := by
  rcases ho with rfl | rfl
  · exact k_X3_holdsBoth_5 c i j i0 i1 j0 j1 ri rj
  · exact k_X3_holdsBoth_8 c i j i0 i1 j0 j1 ri rj
theorem kk_fill {c : qC} {q : Nat} {n m : Int} {g : Int → Int} {o : Nat} (ho : o = 5 ∨ o = 8) (hq : LAY q = .inl (0, 30)) (q1 : q < 62) (q2 : q ≠ o ∧ q ≠ o + 1 ∧ q ≠ o + 2) (n0 : 0 ≤ n ∧ n ≤ 30) (m0 : 0 ≤ m ∧ m ≤ 30) (hg : ∀ r, 0 ≤ r → r < n → c q r = g r ∧ -1 ≤ g r ∧ g r < m) : qN X3_fill 1 [qP o, qP q, qI n, qI m] c (pV (fun c' => Gr c' o n g m ∧ ∀ k, k ≠ o → k ≠ o + 1 → k ≠ o + 2 → c' k = c k)) := by
  rcases ho with rfl | rfl
  · exact k_X3_fill_5 c q n m g hq q1 q2 n0 m0 hg
  · exact k_X3_fill_8 c q n m g hq q1 q2 n0 m0 hg
/-- what the class's calls leave, where only the Fraction changes -/
theorem CS.fr {c c' : qC} {n wd : Int} {N : Int → Int → Int} {S : Sl} {mm : Int} {md : Int → Int} {T : Tr} (h : CS c n wd N S mm md T) (hf : ∀ k, k < 33 → c' k = c k) : CS c' n wd N S mm md T := by
  obtain ⟨h1, h2, h3, h4⟩ := h
  refine ⟨h1.fr (hf 1 (by decide)) (hf 2 (by decide)) (hf 3 (by decide)), fun s s0 s1 => ?_, ?_, ?_⟩
  · have h5 := h2 s s0 s1
    obtain ⟨o, e, -, -, -, h58, -⟩ := oS_ex ⟨s0, s1⟩
    rw [e] at h5 ⊢
    unfold CSl at h5 ⊢
    cases hs : S s with
    | none => rw [hs] at h5; show c' o 3 = -1; rw [hf o (by omega)]; exact h5
    | some p => rw [hs] at h5; exact Gr.fr h5 (hf o (by omega)) (hf (o + 1) (by omega)) (hf (o + 2) (by omega))
  · unfold CMd at h3 ⊢
    rw [hf 18 (by decide), hf 20 (by decide)]
    exact h3
  · unfold CTr at h4 ⊢
    rw [hf 27 (by decide), hf 28 (by decide), hf 29 (by decide), hf 30 (by decide), hf 31 (by decide), hf 32 (by decide)]
    exact h4
set_option maxHeartbeats 4000000 in
set_option maxRecDepth 100000 in
theorem k_X7_isRow (c : qC) (n i : Int) (hn : c 1 3 = n) (n0 : iR n) (i0 : iR i) : qN X7_isRow 0 [qP 0, qI i] c (pI (fun z c' => c' = c ∧ ((z = 1 ∧ 0 ≤ i ∧ i < n) ∨ (z = 0 ∧ ¬ (0 ≤ i ∧ i < n))))) := by
  refine qN.of [some (qP 0), some (qI i)] (by decide) rfl (fun _ => rfl) (fun _ => Nat.le_of_ble_eq_true rfl) ?_
  refine g_iload_n (i := 1) dX7_isRow_0 rfl rfl ?_
  refine g_if_lt 19 dX7_isRow_1 (by decide) (fun b1 => ?_) (fun b1 => ?_)
  · skip
    refine g_iconst dX7_isRow_19 ?_
    exact n_retz dX7_isRow_20 rfl (by first | exact Or.inl rfl | exact Or.inr rfl | assumption | omega) (⟨rfl, by omega⟩)
  · skip
    refine g_iload_n (i := 1) dX7_isRow_4 rfl rfl ?_
    refine g_aload_n (i := 0) dX7_isRow_5 rfl rfl ?_
    refine g_getP dX7_isRow_6 fl7_10 (by first | rfl | assumption) (by first | decide | (show _ < 62; omega)) (by first | rfl | assumption) ?_
    refine g_getI (ji := 3) dX7_isRow_9 fl7_59 (by first | rfl | assumption) (by first | decide | (show _ < 62; omega)) (by first | rfl | assumption) (by decide) rfl (by first | assumption | rfl) ?_
    refine g_icmp_ge 19 dX7_isRow_12 (by decide) (fun b12 => ?_) (fun b12 => ?_)
    · skip
      refine g_iconst dX7_isRow_19 ?_
      exact n_retz dX7_isRow_20 rfl (by first | exact Or.inl rfl | exact Or.inr rfl | assumption | omega) (⟨rfl, by omega⟩)
    · skip
      refine g_iconst dX7_isRow_15 ?_
      refine g_goto 20 dX7_isRow_16 (by decide) ?_
      exact n_retz dX7_isRow_20 rfl (by first | exact Or.inl rfl | exact Or.inr rfl | assumption | omega) (⟨rfl, by omega⟩)
set_option maxHeartbeats 4000000 in
set_option maxRecDepth 100000 in
theorem k_X7_isKind (c : qC) (i : Int) (i0 : iR i) : qN X7_isKind 0 [qI i] c (pI (fun z c' => c' = c ∧ ((z = 1 ∧ 0 ≤ i ∧ i < 3) ∨ (z = 0 ∧ ¬ (0 ≤ i ∧ i < 3))))) := by
  refine qN.of [some (qI i)] (by decide) rfl (fun _ => rfl) (fun _ => Nat.le_of_ble_eq_true rfl) ?_
  refine g_iload_n (i := 0) dX7_isKind_0 rfl rfl ?_
  refine g_if_lt 13 dX7_isKind_1 (by decide) (fun b1 => ?_) (fun b1 => ?_)
  · skip
    refine g_iconst dX7_isKind_13 ?_
    exact n_retz dX7_isKind_14 rfl (by first | exact Or.inl rfl | exact Or.inr rfl | assumption | omega) (⟨rfl, by omega⟩)
  · skip
    refine g_iload_n (i := 0) dX7_isKind_4 rfl rfl ?_
    refine g_iconst dX7_isKind_5 ?_
    refine g_icmp_ge 13 dX7_isKind_6 (by decide) (fun b6 => ?_) (fun b6 => ?_)
    · skip
      refine g_iconst dX7_isKind_13 ?_
      exact n_retz dX7_isKind_14 rfl (by first | exact Or.inl rfl | exact Or.inr rfl | assumption | omega) (⟨rfl, by omega⟩)
    · skip
      refine g_iconst dX7_isKind_9 ?_
      refine g_goto 14 dX7_isKind_10 (by decide) ?_
      exact n_retz dX7_isKind_14 rfl (by first | exact Or.inl rfl | exact Or.inr rfl | assumption | omega) (⟨rfl, by omega⟩)
set_option maxHeartbeats 4000000 in
set_option maxRecDepth 100000 in
theorem k_X7_isSlot (c : qC) (i : Int) (i0 : iR i) : qN X7_isSlot 0 [qI i] c (pI (fun z c' => c' = c ∧ ((z = 1 ∧ 0 ≤ i ∧ i < 2) ∨ (z = 0 ∧ ¬ (0 ≤ i ∧ i < 2))))) := by
  refine qN.of [some (qI i)] (by decide) rfl (fun _ => rfl) (fun _ => Nat.le_of_ble_eq_true rfl) ?_
  refine g_iload_n (i := 0) dX7_isSlot_0 rfl rfl ?_
  refine g_if_lt 13 dX7_isSlot_1 (by decide) (fun b1 => ?_) (fun b1 => ?_)
  · skip
    refine g_iconst dX7_isSlot_13 ?_
    exact n_retz dX7_isSlot_14 rfl (by first | exact Or.inl rfl | exact Or.inr rfl | assumption | omega) (⟨rfl, by omega⟩)
  · skip
    refine g_iload_n (i := 0) dX7_isSlot_4 rfl rfl ?_
    refine g_iconst dX7_isSlot_5 ?_
    refine g_icmp_ge 13 dX7_isSlot_6 (by decide) (fun b6 => ?_) (fun b6 => ?_)
    · skip
      refine g_iconst dX7_isSlot_13 ?_
      exact n_retz dX7_isSlot_14 rfl (by first | exact Or.inl rfl | exact Or.inr rfl | assumption | omega) (⟨rfl, by omega⟩)
    · skip
      refine g_iconst dX7_isSlot_9 ?_
      refine g_goto 14 dX7_isSlot_10 (by decide) ?_
      exact n_retz dX7_isSlot_14 rfl (by first | exact Or.inl rfl | exact Or.inr rfl | assumption | omega) (⟨rfl, by omega⟩)
set_option maxHeartbeats 4000000 in
set_option maxRecDepth 100000 in
theorem k_X7_isSide (c : qC) (i : Int) (i0 : iR i) : qN X7_isSide 0 [qI i] c (pI (fun z c' => c' = c ∧ ((z = 1 ∧ 0 ≤ i ∧ i < 2) ∨ (z = 0 ∧ ¬ (0 ≤ i ∧ i < 2))))) := by
  refine qN.of [some (qI i)] (by decide) rfl (fun _ => rfl) (fun _ => Nat.le_of_ble_eq_true rfl) ?_
  refine g_iload_n (i := 0) dX7_isSide_0 rfl rfl ?_
  refine g_if_lt 13 dX7_isSide_1 (by decide) (fun b1 => ?_) (fun b1 => ?_)
  · skip
    refine g_iconst dX7_isSide_13 ?_
    exact n_retz dX7_isSide_14 rfl (by first | exact Or.inl rfl | exact Or.inr rfl | assumption | omega) (⟨rfl, by omega⟩)
  · skip
    refine g_iload_n (i := 0) dX7_isSide_4 rfl rfl ?_
    refine g_iconst dX7_isSide_5 ?_
    refine g_icmp_ge 13 dX7_isSide_6 (by decide) (fun b6 => ?_) (fun b6 => ?_)
    · skip
      refine g_iconst dX7_isSide_13 ?_
      exact n_retz dX7_isSide_14 rfl (by first | exact Or.inl rfl | exact Or.inr rfl | assumption | omega) (⟨rfl, by omega⟩)
    · skip
      refine g_iconst dX7_isSide_9 ?_
      refine g_goto 14 dX7_isSide_10 (by decide) ?_
      exact n_retz dX7_isSide_14 rfl (by first | exact Or.inl rfl | exact Or.inr rfl | assumption | omega) (⟨rfl, by omega⟩)
set_option maxHeartbeats 4000000 in
set_option maxRecDepth 100000 in
theorem k_X7_forgetGroupings (c : qC) : qN X7_forgetGroupings 0 [qP 0] c (pV (fun c' => c' 5 3 = -1 ∧ c' 8 3 = -1 ∧ c' 18 4 = 0 ∧ c' 27 11 = -1 ∧ ∀ k, k ≠ 5 → k ≠ 8 → k ≠ 18 → k ≠ 27 → c' k = c k)) := by
  refine qN.of [some (qP 0), none] (by decide) rfl (fun _ => rfl) (fun _ => Nat.le_of_ble_eq_true rfl) ?_
  refine g_iconst dX7_forgetGroupings_0 ?_
  refine g_istore_n1 dX7_forgetGroupings_1 rfl ?_
  have L2 : ∀ (fu2 : Nat) (s : Int) (c1 : qC), (2 - s).toNat < fu2 → (0 ≤ s) → (s ≤ 2) → (0 < s → c1 5 3 = -1) → (1 < s → c1 8 3 = -1) → (∀ k, k ≠ 5 → k ≠ 8 → c1 k = c k) → qG (qYn X7_forgetGroupings 0 (pV (fun c' => c' 5 3 = -1 ∧ c' 8 3 = -1 ∧ c' 18 4 = 0 ∧ c' 27 11 = -1 ∧ ∀ k, k ≠ 5 → k ≠ 8 → k ≠ 18 → k ≠ 27 → c' k = c k))) wN 2 [some (qP 0), some (qI s)] [] c1 := by
    intro fu2
    induction fu2 with
    | zero => intro s c1 hm; exact absurd hm (Nat.not_lt_zero _)
    | succ fu2 ih2 =>
      intro s c1 hm2 s0 s1 f1 f2 ff
      refine g_iload_n (i := 1) dX7_forgetGroupings_2 rfl rfl ?_
      refine g_iconst dX7_forgetGroupings_3 ?_
      refine g_icmp_ge 23 dX7_forgetGroupings_4 (by decide) (fun b4 => ?_) (fun b4 => ?_)
      · skip
        refine g_aload_n (i := 0) dX7_forgetGroupings_23 rfl rfl ?_
        refine g_getP dX7_forgetGroupings_24 fl7_33 (by first | rfl | assumption) (by first | decide | (show _ < 62; omega)) (by first | rfl | assumption) ?_
        refine g_iconst dX7_forgetGroupings_27 ?_
        refine g_putI 4 dX7_forgetGroupings_28 fl7_120 fw0_4 (by first | rfl | assumption) (by first | decide | (show _ < 62; omega)) (by first | rfl | assumption) (by decide) rfl ?_
        refine g_aload_n (i := 0) dX7_forgetGroupings_31 rfl rfl ?_
        refine g_getP dX7_forgetGroupings_32 fl7_47 (by first | rfl | assumption) (by first | decide | (show _ < 62; omega)) (by first | rfl | assumption) ?_
        refine g_iconst dX7_forgetGroupings_35 ?_
        refine g_putI 11 dX7_forgetGroupings_36 fl7_82 fw4_11 (by first | rfl | assumption) (by first | decide | (show _ < 62; omega)) (by first | rfl | assumption) (by decide) rfl ?_
        exact n_retv dX7_forgetGroupings_39 rfl (⟨by show c1 5 3 = -1; exact f1 (by omega), by show c1 8 3 = -1; exact f2 (by omega), rfl, rfl, fun k k1 k2 k3 k4 => by rw [qu_ne k4, qu_ne k3]; exact ff k k1 k2⟩)
      · skip
        obtain ⟨o, hoS, ho1, hLo, ho62, ho58, hL1, hL2, ho63, ho64⟩ := oS_ex (s := s) (by omega)
        refine g_aload_n (i := 0) dX7_forgetGroupings_7 rfl rfl ?_
        refine g_getP dX7_forgetGroupings_8 fl7_18 (by first | rfl | assumption) (by first | decide | (show _ < 62; omega)) (by first | rfl | assumption) ?_
        refine g_iload_n (i := 1) dX7_forgetGroupings_11 rfl rfl ?_
        refine g_aaload dX7_forgetGroupings_12 rfl (by decide) ho1 ?_
        refine g_iconst dX7_forgetGroupings_13 ?_
        refine g_putI 3 dX7_forgetGroupings_14 fl7_79 fw3_3 hLo ho62 (by first | rfl | assumption) (by decide) rfl ?_
        refine g_iinc1 dX7_forgetGroupings_17 rfl ?_
        refine g_goto 2 dX7_forgetGroupings_20 (by decide) ?_
        exact ih2 _ _ (by omega) (by first | assumption | omega) (by first | assumption | omega) (fun _ => by
        rcases ho58 with e | e
        · rw [e, qu_eq]
        · rw [e, qu_ne (by decide)]
          refine f1 ?_
          have h8 : ¬ s = 0 := fun q => by subst q; rw [← hoS] at e; exact absurd e (by decide)
          omega) (fun h => by have e : o = 8 := (by rw [← hoS, show s = 1 by omega]; rfl); rw [e, qu_eq]) (fun k k1 k2 => by rw [qu_ne (by rcases ho58 with e | e <;> rw [e] <;> assumption)]; exact ff k k1 k2)
  exact L2 _ _ _ (Nat.lt_succ_self _) (by first | assumption | omega) (by first | assumption | omega) (fun h => by omega) (fun h => by omega) (fun k _ _ => rfl)
set_option maxHeartbeats 4000000 in
set_option maxRecDepth 100000 in
theorem k_X7_columns (c : qC) (n wd : Int) (N : Int → Int → Int) (S : Sl) (mm : Int) (md : Int → Int) (T : Tr) (hS : CS c n wd N S mm md T) (a : Int) (a0 : iR a) : qN X7_columns 0 [qP 0, qI a] c (pI (fun z c' => z = a_col n a ∧ CS c' n (w_col n wd a) N S mm md T ∧ FrC c c')) := by
  have hS0 := hS
  obtain ⟨hT, hSl, hMd, hTr⟩ := hS
  have hT0 := hT
  obtain ⟨t1, t2, t3, t4, t5, t6, t7⟩ := hT
  refine qN.of [some (qP 0), some (qI a)] (by decide) rfl (fun _ => rfl) (fun _ => Nat.le_of_ble_eq_true rfl) ?_
  refine g_iload_n (i := 1) dX7_columns_0 rfl rfl ?_
  refine g_iconst dX7_columns_1 ?_
  refine g_icmp_lt 10 dX7_columns_2 (by decide) (fun b2 => ?_) (fun b2 => ?_)
  · skip
    refine g_ldc (z := -2000000002) dX7_columns_10 cw7_58 ?_
    exact n_reti dX7_columns_12 rfl (⟨by unfold a_col; rw [if_neg (by omega)], by unfold w_col; rw [if_neg (by omega)]; exact hS0, FrC.rf c⟩)
  · skip
    refine g_iload_n (i := 1) dX7_columns_5 rfl rfl ?_
    refine g_iconst dX7_columns_6 ?_
    refine g_icmp_le 13 dX7_columns_7 (by decide) (fun b7 => ?_) (fun b7 => ?_)
    · skip
      refine g_aload_n (i := 0) dX7_columns_13 rfl rfl ?_
      refine g_getP dX7_columns_14 fl7_10 (by first | rfl | assumption) (by first | decide | (show _ < 62; omega)) (by first | rfl | assumption) ?_
      refine g_getI (ji := 3) dX7_columns_17 fl7_59 (by first | rfl | assumption) (by first | decide | (show _ < 62; omega)) (by first | rfl | assumption) (by decide) rfl (by first | assumption | rfl) ?_
      refine g_if_le 26 dX7_columns_20 (by decide) (fun b20 => ?_) (fun b20 => ?_)
      · skip
        refine g_aload_n (i := 0) dX7_columns_26 rfl rfl ?_
        refine g_getP dX7_columns_27 fl7_10 (by first | rfl | assumption) (by first | decide | (show _ < 62; omega)) (by first | rfl | assumption) ?_
        refine g_iload_n (i := 1) dX7_columns_30 rfl rfl ?_
        refine g_putI 2 dX7_columns_31 fl7_64 fw6_2 (by first | rfl | assumption) (by first | decide | (show _ < 62; omega)) (by first | rfl | assumption) (by decide) rfl ?_
        refine g_iconst dX7_columns_34 ?_
        exact n_reti dX7_columns_35 rfl (⟨by unfold a_col; rw [if_pos (by omega), if_neg (by omega)], by
      have hn : n = 0 := by omega
      unfold w_col
      rw [if_pos (by omega)]
      refine ⟨⟨t1, rfl, t3, by omega, fun i x i0 i1 => by omega, fun i i0 i1 => by omega, fun kd i j k0 k1 i0 i1 => by omega⟩, fun s s0 s1 => ?_, hMd, hTr⟩
      have h5 := hSl s s0 s1
      obtain ⟨o, e, -, -, -, h58, -⟩ := oS_ex ⟨s0, s1⟩
      rw [e] at h5 ⊢
      rcases h58 with e | e <;> subst e <;> exact h5, fun k hk => qu_ne (by omega)⟩)
      · skip
        refine g_ldc (z := -2000000003) dX7_columns_23 cw7_63 ?_
        exact n_reti dX7_columns_25 rfl (⟨by unfold a_col; rw [if_pos (by omega), if_pos (by omega)], by unfold w_col; rw [if_neg (by omega)]; exact hS0, FrC.rf c⟩)
    · skip
      refine g_ldc (z := -2000000002) dX7_columns_10 cw7_58 ?_
      exact n_reti dX7_columns_12 rfl (⟨by unfold a_col; rw [if_neg (by omega)], by unfold w_col; rw [if_neg (by omega)]; exact hS0, FrC.rf c⟩)
theorem CSl.none5 {c c' : qC} {n : Int} (h5 : c' 5 3 = -1) (h8 : c' 8 3 = -1) : ∀ s, 0 ≤ s → s ≤ 1 → CSl c' (oS s) n none := by
  intro s s0 s1
  obtain ⟨o, e, -, -, -, h58, -⟩ := oS_ex ⟨s0, s1⟩
  rw [e]
  rcases h58 with e | e <;> subst e
  · exact h5
  · exact h8
set_option maxHeartbeats 4000000 in
set_option maxRecDepth 100000 in
theorem k_X7_clear (c : qC) (n wd : Int) (N : Int → Int → Int) (S : Sl) (mm : Int) (md : Int → Int) (T : Tr) (hS : CS c n wd N S mm md T)  : qN X7_clear 1 [qP 0] c (pI (fun z c' => z = n ∧ CS c' 0 wd N (fun _ => none) 0 md none ∧ FrC c c')) := by
  have hS0 := hS
  obtain ⟨hT, hSl, hMd, hTr⟩ := hS
  have hT0 := hT
  obtain ⟨t1, t2, t3, t4, t5, t6, t7⟩ := hT
  refine qN.of [some (qP 0), none] (by decide) rfl (fun _ => rfl) (fun _ => Nat.le_of_ble_eq_true rfl) ?_
  refine g_aload_n (i := 0) dX7_clear_0 rfl rfl ?_
  refine g_getP dX7_clear_1 fl7_10 (by first | rfl | assumption) (by first | decide | (show _ < 62; omega)) (by first | rfl | assumption) ?_
  refine g_getI (ji := 3) dX7_clear_4 fl7_59 (by first | rfl | assumption) (by first | decide | (show _ < 62; omega)) (by first | rfl | assumption) (by decide) rfl (by first | assumption | rfl) ?_
  refine g_istore_n1 dX7_clear_7 rfl ?_
  refine g_aload_n (i := 0) dX7_clear_8 rfl rfl ?_
  refine g_getP dX7_clear_9 fl7_10 (by first | rfl | assumption) (by first | decide | (show _ < 62; omega)) (by first | rfl | assumption) ?_
  refine g_iconst dX7_clear_12 ?_
  refine g_putI 3 dX7_clear_13 fl7_59 fw6_3 (by first | rfl | assumption) (by first | decide | (show _ < 62; omega)) (by first | rfl | assumption) (by decide) rfl ?_
  refine g_aload_n (i := 0) dX7_clear_16 rfl rfl ?_
  refine n_callVv (k_X7_forgetGroupings _) dX7_clear_17 lk7_72 im_X7_forgetGroupings (by first | rfl | assumption) (by first | decide | (show _ < 62; omega)) rfl rfl rfl rfl (Nat.le_of_ble_eq_true rfl) (fun c2 hz => ?_)
  obtain ⟨q1, q2, q3, q4, qf⟩ := hz
  refine g_iload_n (i := 1) dX7_clear_20 rfl rfl ?_
  exact n_reti dX7_clear_21 rfl (⟨rfl, ⟨⟨by rw [qf 1 (by decide) (by decide) (by decide) (by decide)]; rfl, by rw [qf 1 (by decide) (by decide) (by decide) (by decide)]; exact t2, by omega, t4, fun i x i0 i1 => by omega, fun i i0 i1 => by omega, fun kd i j k0 k1 i0 i1 => by omega⟩, CSl.none5 (c := c) q1 q2, ⟨q3, by omega, fun i i0 i1 => by omega⟩, q4⟩, fun k hk => by rw [qf k (by omega) (by omega) (by omega) (by omega), qu_ne (by omega)]⟩)
set_option maxHeartbeats 4000000 in
set_option maxRecDepth 100000 in
theorem k_X7_count (c : qC) (n wd : Int) (N : Int → Int → Int) (S : Sl) (mm : Int) (md : Int → Int) (T : Tr) (hS : CS c n wd N S mm md T) (w : Int) (w0 : iR w) : qN X7_count 0 [qP 0, qI w] c (pI (fun z c' => z = a_cnt n wd S T w ∧ CS c' n wd N S mm md T ∧ FrC c c')) := by
  have hS0 := hS
  obtain ⟨hT, hSl, hMd, hTr⟩ := hS
  have hT0 := hT
  obtain ⟨t1, t2, t3, t4, t5, t6, t7⟩ := hT
  refine qN.of [some (qP 0), some (qI w)] (by decide) rfl (fun _ => rfl) (fun _ => Nat.le_of_ble_eq_true rfl) ?_
  refine g_iload_n (i := 1) dX7_count_0 rfl rfl ?_
  rcases (show (w < 0 ∨ 4 < w) ∨ w = 0 ∨ w = 1 ∨ w = 2 ∨ w = 3 ∨ w = 4 by omega) with hsw | rfl | rfl | rfl | rfl | rfl
  · refine g_tableOut 80 dX7_count_1 hsw (by decide) ?_
    refine g_ldc (z := -2000000002) dX7_count_80 cw7_58 ?_
    exact n_reti dX7_count_82 rfl (⟨by unfold a_cnt; rw [if_neg (by omega), if_neg (by omega), if_neg (by omega), if_neg (by omega), if_neg (by omega)], hS0, FrC.rf c⟩)
  · refine g_tableIn (off := 35) 36 dX7_count_1 (by decide) (by decide) rfl (by decide) ?_
    refine g_aload_n (i := 0) dX7_count_36 rfl rfl ?_
    refine g_getP dX7_count_37 fl7_10 (by first | rfl | assumption) (by first | decide | (show _ < 62; omega)) (by first | rfl | assumption) ?_
    refine g_getI (ji := 3) dX7_count_40 fl7_59 (by first | rfl | assumption) (by first | decide | (show _ < 62; omega)) (by first | rfl | assumption) (by decide) rfl (by first | assumption | rfl) ?_
    exact n_reti dX7_count_43 rfl (⟨rfl, hS0, FrC.rf c⟩)
  · refine g_tableIn (off := 43) 44 dX7_count_1 (by decide) (by decide) rfl (by decide) ?_
    refine g_aload_n (i := 0) dX7_count_44 rfl rfl ?_
    refine g_getP dX7_count_45 fl7_10 (by first | rfl | assumption) (by first | decide | (show _ < 62; omega)) (by first | rfl | assumption) ?_
    refine g_getI (ji := 2) dX7_count_48 fl7_64 (by first | rfl | assumption) (by first | decide | (show _ < 62; omega)) (by first | rfl | assumption) (by decide) rfl (by first | assumption | rfl) ?_
    exact n_reti dX7_count_51 rfl (⟨rfl, hS0, FrC.rf c⟩)
  · refine g_tableIn (off := 51) 52 dX7_count_1 (by decide) (by decide) rfl (by decide) ?_
    refine g_aload_n (i := 0) dX7_count_52 rfl rfl ?_
    refine g_getP dX7_count_53 fl7_18 (by first | rfl | assumption) (by first | decide | (show _ < 62; omega)) (by first | rfl | assumption) ?_
    refine g_iconst dX7_count_56 ?_
    refine g_aaload dX7_count_57 rfl (by decide) rfl ?_
    refine g_getI (ji := 3) dX7_count_58 fl7_79 (by first | rfl | assumption) (by first | decide | (show _ < 62; omega)) (by first | rfl | assumption) (by decide) rfl (by first | assumption | rfl) ?_
    exact n_reti dX7_count_61 rfl (⟨by have h := hSl 0 (by omega) (by omega); unfold a_cnt; cases hs : S 0 with
      | none => rw [hs] at h; exact h
      | some p => rw [hs] at h; exact h.2.1, hS0, FrC.rf c⟩)
  · refine g_tableIn (off := 61) 62 dX7_count_1 (by decide) (by decide) rfl (by decide) ?_
    refine g_aload_n (i := 0) dX7_count_62 rfl rfl ?_
    refine g_getP dX7_count_63 fl7_18 (by first | rfl | assumption) (by first | decide | (show _ < 62; omega)) (by first | rfl | assumption) ?_
    refine g_iconst dX7_count_66 ?_
    refine g_aaload dX7_count_67 rfl (by decide) rfl ?_
    refine g_getI (ji := 3) dX7_count_68 fl7_79 (by first | rfl | assumption) (by first | decide | (show _ < 62; omega)) (by first | rfl | assumption) (by decide) rfl (by first | assumption | rfl) ?_
    exact n_reti dX7_count_71 rfl (⟨by have h := hSl 1 (by omega) (by omega); unfold a_cnt; cases hs : S 1 with
      | none => rw [hs] at h; exact h
      | some p => rw [hs] at h; exact h.2.1, hS0, FrC.rf c⟩)
  · refine g_tableIn (off := 71) 72 dX7_count_1 (by decide) (by decide) rfl (by decide) ?_
    refine g_aload_n (i := 0) dX7_count_72 rfl rfl ?_
    refine g_getP dX7_count_73 fl7_47 (by first | rfl | assumption) (by first | decide | (show _ < 62; omega)) (by first | rfl | assumption) ?_
    refine g_getI (ji := 11) dX7_count_76 fl7_82 (by first | rfl | assumption) (by first | decide | (show _ < 62; omega)) (by first | rfl | assumption) (by decide) rfl (by first | assumption | rfl) ?_
    exact n_reti dX7_count_79 rfl (⟨by unfold a_cnt; cases hs : T with
      | none => rw [hs] at hTr; exact hTr
      | some p => rw [hs] at hTr; exact hTr.1, hS0, FrC.rf c⟩)
set_option maxHeartbeats 4000000 in
set_option maxRecDepth 100000 in
theorem k_X7_distance (c : qC) (n wd : Int) (N : Int → Int → Int) (S : Sl) (mm : Int) (md : Int → Int) (T : Tr) (hS : CS c n wd N S mm md T) (kd i j : Int) (d0 : iR kd) (i0 : iR i) (j0 : iR j) : qN X7_distance 2 [qP 0, qI kd, qI i, qI j] c (pI (fun z c' => z = a_dis n wd N kd i j ∧ CS c' n wd N S mm md T ∧ FrC c c')) := by
  have hS0 := hS
  obtain ⟨hT, hSl, hMd, hTr⟩ := hS
  have hT0 := hT
  obtain ⟨t1, t2, t3, t4, t5, t6, t7⟩ := hT
  refine qN.of [some (qP 0), some (qI kd), some (qI i), some (qI j)] (by decide) rfl (fun _ => rfl) (fun _ => Nat.le_of_ble_eq_true rfl) ?_
  refine g_aload_n (i := 0) dX7_distance_0 rfl rfl ?_
  refine g_iload_n (i := 2) dX7_distance_1 rfl rfl ?_
  refine n_callVi (k_X7_isRow _ _ _ (by assumption) (by omega) (by omega)) dX7_distance_2 lk7_85 im_X7_isRow (by first | rfl | assumption) (by first | decide | (show _ < 62; omega)) rfl rfl rfl rfl (Nat.le_of_ble_eq_true rfl) (fun z c' hz => ?_)
  obtain ⟨hz2, hz⟩ := hz
  have hz2 := hz2.symm
  subst hz2
  refine g_if_eq 16 dX7_distance_5 (by decide) (fun b5 => ?_) (fun b5 => ?_)
  · skip
    refine g_ldc (z := -2000000001) dX7_distance_16 cw7_89 ?_
    exact n_reti dX7_distance_18 rfl (⟨by unfold a_dis; rw [if_neg (by omega)], hS0, FrC.rf c⟩)
  · skip
    refine g_aload_n (i := 0) dX7_distance_8 rfl rfl ?_
    refine g_iload_n (i := 3) dX7_distance_9 rfl rfl ?_
    refine n_callVi (k_X7_isRow _ _ _ (by assumption) (by omega) (by omega)) dX7_distance_10 lk7_85 im_X7_isRow (by first | rfl | assumption) (by first | decide | (show _ < 62; omega)) rfl rfl rfl rfl (Nat.le_of_ble_eq_true rfl) (fun z c' hz => ?_)
    obtain ⟨hz2, hz⟩ := hz
    have hz2 := hz2.symm
    subst hz2
    refine g_if_ne 19 dX7_distance_13 (by decide) (fun b13 => ?_) (fun b13 => ?_)
    · skip
      refine g_iload_n (i := 1) dX7_distance_19 rfl rfl ?_
      refine n_callSi (k_X7_isKind _ _ (by omega)) dX7_distance_20 lk7_90 sm_X7_isKind rfl rfl rfl (Nat.le_of_ble_eq_true rfl) (fun z c' hz => ?_)
      obtain ⟨hz2, hz⟩ := hz
      have hz2 := hz2.symm
      subst hz2
      refine g_if_ne 29 dX7_distance_23 (by decide) (fun b23 => ?_) (fun b23 => ?_)
      · skip
        refine g_aload_n (i := 0) dX7_distance_29 rfl rfl ?_
        refine g_getP dX7_distance_30 fl7_10 (by first | rfl | assumption) (by first | decide | (show _ < 62; omega)) (by first | rfl | assumption) ?_
        refine g_iload_n (i := 1) dX7_distance_33 rfl rfl ?_
        refine g_iload_n (i := 2) dX7_distance_34 rfl rfl ?_
        refine g_iload_n (i := 3) dX7_distance_35 rfl rfl ?_
        refine n_callVi (k_X6_apart _ _ _ _ (by omega) (by omega) (by omega) (by omega) (by omega) (by omega)) dX7_distance_36 lk7_93 im_X6_apart (by first | rfl | assumption) (by first | decide | (show _ < 62; omega)) rfl rfl rfl rfl (Nat.le_of_ble_eq_true rfl) (fun z c' hz => ?_)
        obtain ⟨rfl, hz2⟩ := hz
        have hz2 := hz2.symm
        subst hz2
        exact n_reti dX7_distance_39 rfl (⟨by unfold a_dis; rw [if_pos (by omega), if_pos (by omega)]; exact t7 kd i j (by omega) (by omega) (by omega) (by omega) (by omega) (by omega), hS0, FrC.rf c⟩)
      · skip
        refine g_ldc (z := -2000000002) dX7_distance_26 cw7_58 ?_
        exact n_reti dX7_distance_28 rfl (⟨by unfold a_dis; rw [if_pos (by omega), if_neg (by omega)], hS0, FrC.rf c⟩)
    · skip
      refine g_ldc (z := -2000000001) dX7_distance_16 cw7_89 ?_
      exact n_reti dX7_distance_18 rfl (⟨by unfold a_dis; rw [if_neg (by omega)], hS0, FrC.rf c⟩)
set_option maxHeartbeats 4000000 in
set_option maxRecDepth 100000 in
theorem k_X7_near (c : qC) (n wd : Int) (N : Int → Int → Int) (S : Sl) (mm : Int) (md : Int → Int) (T : Tr) (hS : CS c n wd N S mm md T) (kd i k : Int) (d0 : iR kd) (i0 : iR i) (k0 : iR k) : qN X7_near 3 [qP 0, qI kd, qI i, qI k] c (pI (fun z c' => z = a_nea n wd N kd i k ∧ CS c' n wd N S mm md T ∧ FrC c c')) := by
  have hS0 := hS
  obtain ⟨hT, hSl, hMd, hTr⟩ := hS
  have hT0 := hT
  obtain ⟨t1, t2, t3, t4, t5, t6, t7⟩ := hT
  refine qN.of [some (qP 0), some (qI kd), some (qI i), some (qI k), none] (by decide) rfl (fun _ => rfl) (fun _ => Nat.le_of_ble_eq_true rfl) ?_
  refine g_aload_n (i := 0) dX7_near_0 rfl rfl ?_
  refine g_iload_n (i := 2) dX7_near_1 rfl rfl ?_
  refine n_callVi (k_X7_isRow _ _ _ (by assumption) (by omega) (by omega)) dX7_near_2 lk7_85 im_X7_isRow (by first | rfl | assumption) (by first | decide | (show _ < 62; omega)) rfl rfl rfl rfl (Nat.le_of_ble_eq_true rfl) (fun z c' hz => ?_)
  obtain ⟨hz2, hz⟩ := hz
  have hz2 := hz2.symm
  subst hz2
  refine g_if_ne 11 dX7_near_5 (by decide) (fun b5 => ?_) (fun b5 => ?_)
  · skip
    refine g_iload_n (i := 1) dX7_near_11 rfl rfl ?_
    refine n_callSi (k_X7_isKind _ _ (by omega)) dX7_near_12 lk7_90 sm_X7_isKind rfl rfl rfl (Nat.le_of_ble_eq_true rfl) (fun z c' hz => ?_)
    obtain ⟨hz2, hz⟩ := hz
    have hz2 := hz2.symm
    subst hz2
    refine g_if_ne 21 dX7_near_15 (by decide) (fun b15 => ?_) (fun b15 => ?_)
    · skip
      refine g_iconst dX7_near_21 ?_
      refine g_istore4 dX7_near_22 rfl ?_
      have L24 : ∀ (fu24 : Nat) (r : Int), (n - r).toNat < fu24 → (0 ≤ r) → (r ≤ n) → (a_nea n wd N kd i k = nea (ds wd N kd i) n i k (n - r).toNat r) → qG (qYn X7_near 3 (pI (fun z c' => z = a_nea n wd N kd i k ∧ CS c' n wd N S mm md T ∧ FrC c c'))) wN 24 [some (qP 0), some (qI kd), some (qI i), some (qI k), some (qI r)] [] c := by
        intro fu24
        induction fu24 with
        | zero => intro r hm; exact absurd hm (Nat.not_lt_zero _)
        | succ fu24 ih24 =>
          intro r hm24 r0 r1 hr
          refine g_iload dX7_near_24 rfl ?_
          refine g_aload_n (i := 0) dX7_near_26 rfl rfl ?_
          refine g_getP dX7_near_27 fl7_10 (by first | rfl | assumption) (by first | decide | (show _ < 62; omega)) (by first | rfl | assumption) ?_
          refine g_getI (ji := 3) dX7_near_30 fl7_59 (by first | rfl | assumption) (by first | decide | (show _ < 62; omega)) (by first | rfl | assumption) (by decide) rfl (by first | assumption | rfl) ?_
          refine g_icmp_ge 66 dX7_near_33 (by decide) (fun b33 => ?_) (fun b33 => ?_)
          · skip
            refine g_iconst dX7_near_66 ?_
            exact n_reti dX7_near_67 rfl (⟨by rw [hr, show (n - r).toNat = 0 by omega]; rfl, hS0, FrC.rf c⟩)
          · skip
            refine g_iload dX7_near_36 rfl ?_
            refine g_iload_n (i := 2) dX7_near_38 rfl rfl ?_
            refine g_icmp_eq 60 dX7_near_39 (by decide) (fun b39 => ?_) (fun b39 => ?_)
            · skip
              have hno : ¬ (¬ r = i ∧ nr (ds wd N kd i) n i r = k) := by omega
              refine g_iinc4 dX7_near_60 rfl ?_
              refine g_goto 24 dX7_near_63 (by decide) ?_
              exact ih24 _ (by omega) (by first | assumption | omega) (by first | assumption | omega) (by rw [hr, show (n - r).toNat = (n - (r + 1)).toNat + 1 by omega, nea, if_neg hno])
            · skip
              refine g_aload_n (i := 0) dX7_near_42 rfl rfl ?_
              refine g_getP dX7_near_43 fl7_10 (by first | rfl | assumption) (by first | decide | (show _ < 62; omega)) (by first | rfl | assumption) ?_
              refine g_iload_n (i := 1) dX7_near_46 rfl rfl ?_
              refine g_iload_n (i := 2) dX7_near_47 rfl rfl ?_
              refine g_iload dX7_near_48 rfl ?_
              refine n_callVi (k_X6_nearerThan _ n _ _ _ (ds wd N kd i) (by assumption) (by omega) (by omega) (by omega) (by omega) (by omega) (by omega) (by omega) (fun j q0 q1 => ⟨t7 kd i j (by omega) (by omega) (by omega) (by omega) q0 q1, by have := hT0.bd (kd := kd) (show 0 ≤ i by omega) (show i < n by omega) q0 q1; omega⟩)) dX7_near_50 lk7_97 im_X6_nearerThan (by first | rfl | assumption) (by first | decide | (show _ < 62; omega)) rfl rfl rfl rfl (Nat.le_of_ble_eq_true rfl) (fun z c' hz => ?_)
              obtain ⟨rfl, hz2⟩ := hz
              have hz2 := hz2.symm
              subst hz2
              have hab : 0 ≤ nr (ds wd N kd i) n i r ∧ nr (ds wd N kd i) n i r ≤ 30 := by
                have := sI_bd (f := fun q => if q ≠ i ∧ (ds wd N kd i q < ds wd N kd i r ∨ (ds wd N kd i q = ds wd N kd i r ∧ q < r)) then 1 else 0) (lo := 0) (hi := 1) t3.1 (fun x _ _ => by split <;> omega)
                unfold nr; omega
              refine g_iload_n (i := 3) dX7_near_53 rfl rfl ?_
              refine g_icmp_ne 60 dX7_near_54 (by decide) (fun b54 => ?_) (fun b54 => ?_)
              · skip
                have hno : ¬ (¬ r = i ∧ nr (ds wd N kd i) n i r = k) := by omega
                refine g_iinc4 dX7_near_60 rfl ?_
                refine g_goto 24 dX7_near_63 (by decide) ?_
                exact ih24 _ (by omega) (by first | assumption | omega) (by first | assumption | omega) (by rw [hr, show (n - r).toNat = (n - (r + 1)).toNat + 1 by omega, nea, if_neg hno])
              · skip
                refine g_iload dX7_near_57 rfl ?_
                exact n_reti dX7_near_59 rfl (⟨by rw [hr, show (n - r).toNat = (n - r - 1).toNat + 1 by omega, nea, if_pos ⟨b39, b54⟩], hS0, FrC.rf c⟩)
      exact L24 _ _ (Nat.lt_succ_self _) (by first | assumption | omega) (by first | assumption | omega) (by unfold a_nea; rw [if_pos (by omega), if_pos (by omega), Int.sub_zero])
    · skip
      refine g_ldc (z := -2000000002) dX7_near_18 cw7_58 ?_
      exact n_reti dX7_near_20 rfl (⟨by unfold a_nea; rw [if_pos (by omega), if_neg (by omega)], hS0, FrC.rf c⟩)
  · skip
    refine g_ldc (z := -2000000001) dX7_near_8 cw7_89 ?_
    exact n_reti dX7_near_10 rfl (⟨by unfold a_nea; rw [if_neg (by omega)], hS0, FrC.rf c⟩)
set_option maxHeartbeats 4000000 in
set_option maxRecDepth 100000 in
theorem k_X7_medoid (c : qC) (n wd : Int) (N : Int → Int → Int) (S : Sl) (mm : Int) (md : Int → Int) (T : Tr) (hS : CS c n wd N S mm md T) (i : Int) (i0 : iR i) : qN X7_medoid 0 [qP 0, qI i] c (pI (fun z c' => z = a_med mm md i ∧ CS c' n wd N S mm md T ∧ FrC c c')) := by
  have hS0 := hS
  obtain ⟨hT, hSl, hMd, hTr⟩ := hS
  have hT0 := hT
  obtain ⟨t1, t2, t3, t4, t5, t6, t7⟩ := hT
  have hMd0 := hMd
  obtain ⟨m1, m2, m3⟩ := hMd
  refine qN.of [some (qP 0), some (qI i)] (by decide) rfl (fun _ => rfl) (fun _ => Nat.le_of_ble_eq_true rfl) ?_
  refine g_iload_n (i := 1) dX7_medoid_0 rfl rfl ?_
  refine g_if_lt 15 dX7_medoid_1 (by decide) (fun b1 => ?_) (fun b1 => ?_)
  · skip
    refine g_iconst dX7_medoid_15 ?_
    exact n_reti dX7_medoid_16 rfl (⟨by unfold a_med; rw [if_neg (by omega)], hS0, FrC.rf c⟩)
  · skip
    refine g_iload_n (i := 1) dX7_medoid_4 rfl rfl ?_
    refine g_aload_n (i := 0) dX7_medoid_5 rfl rfl ?_
    refine g_getP dX7_medoid_6 fl7_33 (by first | rfl | assumption) (by first | decide | (show _ < 62; omega)) (by first | rfl | assumption) ?_
    refine g_getI (ji := 4) dX7_medoid_9 fl7_120 (by first | rfl | assumption) (by first | decide | (show _ < 62; omega)) (by first | rfl | assumption) (by decide) rfl (by first | assumption | rfl) ?_
    refine g_icmp_lt 17 dX7_medoid_12 (by decide) (fun b12 => ?_) (fun b12 => ?_)
    · skip
      refine g_aload_n (i := 0) dX7_medoid_17 rfl rfl ?_
      refine g_getP dX7_medoid_18 fl7_33 (by first | rfl | assumption) (by first | decide | (show _ < 62; omega)) (by first | rfl | assumption) ?_
      refine g_getP dX7_medoid_21 fl7_123 (by first | rfl | assumption) (by first | decide | (show _ < 62; omega)) (by first | rfl | assumption) ?_
      refine g_iload_n (i := 1) dX7_medoid_24 rfl rfl ?_
      refine g_iaload dX7_medoid_25 (by first | rfl | assumption) (by first | decide | (show _ < 62; omega)) ?_
      exact n_reti dX7_medoid_26 rfl (⟨by unfold a_med; rw [if_pos (by omega)]; exact m3 i (by omega) (by omega), hS0, FrC.rf c⟩)
    · skip
      refine g_iconst dX7_medoid_15 ?_
      exact n_reti dX7_medoid_16 rfl (⟨by unfold a_med; rw [if_neg (by omega)], hS0, FrC.rf c⟩)
set_option maxHeartbeats 4000000 in
set_option maxRecDepth 100000 in
theorem k_X7_join (c : qC) (n wd : Int) (N : Int → Int → Int) (S : Sl) (mm : Int) (md : Int → Int) (T : Tr) (hS : CS c n wd N S mm md T) (i w : Int) (i0 : iR i) (w0 : iR w) : qN X7_join 0 [qP 0, qI i, qI w] c (pJ (fun z c' => z = a_joi T i w ∧ CS c' n wd N S mm md T ∧ FrC c c')) := by
  have hS0 := hS
  obtain ⟨hT, hSl, hMd, hTr⟩ := hS
  have hT0 := hT
  obtain ⟨t1, t2, t3, t4, t5, t6, t7⟩ := hT
  have hbt := hTr.b t3.2
  refine qN.of [some (qP 0), some (qI i), some (qI w)] (by decide) rfl (fun _ => rfl) (fun _ => Nat.le_of_ble_eq_true rfl) ?_
  refine g_iload_n (i := 2) dX7_join_0 rfl rfl ?_
  refine g_if_lt 9 dX7_join_1 (by decide) (fun b1 => ?_) (fun b1 => ?_)
  · skip
    refine g_ldc2 (z := -2000000002) dX7_join_9 cw7_135 ?_
    exact n_retj dX7_join_12 rfl (⟨by unfold a_joi; rw [if_neg (by omega)], hS0, FrC.rf c⟩)
  · skip
    refine g_iload_n (i := 2) dX7_join_4 rfl rfl ?_
    refine g_iconst dX7_join_5 ?_
    refine g_icmp_le 13 dX7_join_6 (by decide) (fun b6 => ?_) (fun b6 => ?_)
    · skip
      refine g_aload_n (i := 0) dX7_join_13 rfl rfl ?_
      refine g_getP dX7_join_14 fl7_47 (by first | rfl | assumption) (by first | decide | (show _ < 62; omega)) (by first | rfl | assumption) ?_
      refine g_getI (ji := 11) dX7_join_17 fl7_82 (by first | rfl | assumption) (by first | decide | (show _ < 62; omega)) (by first | rfl | assumption) (by decide) rfl (by first | assumption | rfl) ?_
      refine g_iconst dX7_join_20 ?_
      refine g_icmp_ne 28 dX7_join_21 (by decide) (fun b21 => ?_) (fun b21 => ?_)
      · skip
        obtain ⟨jn, J, hT, hj1, hj2, hj3, hj⟩ := hTr.yes b21
        refine g_iload_n (i := 1) dX7_join_28 rfl rfl ?_
        refine g_if_lt 43 dX7_join_29 (by decide) (fun b29 => ?_) (fun b29 => ?_)
        · skip
          refine g_ldc2 (z := -1) dX7_join_43 cw7_139 ?_
          exact n_retj dX7_join_46 rfl (⟨by unfold a_joi; rw [if_pos (by omega), hT]; exact (if_neg (by omega)).symm, hS0, FrC.rf c⟩)
        · skip
          refine g_iload_n (i := 1) dX7_join_32 rfl rfl ?_
          refine g_aload_n (i := 0) dX7_join_33 rfl rfl ?_
          refine g_getP dX7_join_34 fl7_47 (by first | rfl | assumption) (by first | decide | (show _ < 62; omega)) (by first | rfl | assumption) ?_
          refine g_getI (ji := 11) dX7_join_37 fl7_82 (by first | rfl | assumption) (by first | decide | (show _ < 62; omega)) (by first | rfl | assumption) (by decide) rfl (by first | assumption | rfl) ?_
          refine g_icmp_lt 47 dX7_join_40 (by decide) (fun b40 => ?_) (fun b40 => ?_)
          · skip
            have hji := hj i (by omega) (by omega)
            obtain ⟨⟨v0, v1, v2, v3, v4⟩, hjb⟩ := hji
            refine g_iload_n (i := 2) dX7_join_47 rfl rfl ?_
            rcases (show (w < 0 ∨ 3 < w) ∨ w = 0 ∨ w = 1 ∨ w = 2 ∨ w = 3 by omega) with hsw | rfl | rfl | rfl | rfl
            · refine g_tableOut 123 dX7_join_48 hsw (by decide) ?_
              refine g_aload_n (i := 0) dX7_join_123 rfl rfl ?_
              refine g_getP dX7_join_124 fl7_47 (by first | rfl | assumption) (by first | decide | (show _ < 62; omega)) (by first | rfl | assumption) ?_
              refine g_getP dX7_join_127 fl7_154 (by first | rfl | assumption) (by first | decide | (show _ < 62; omega)) (by first | rfl | assumption) ?_
              refine g_iload_n (i := 1) dX7_join_130 rfl rfl ?_
              refine g_laload dX7_join_131 rfl (by decide) ?_
              rw [v4]
              skip -- ?_
              exact n_retj dX7_join_132 rfl (⟨by unfold a_joi; rw [if_pos (by omega), hT, show w = 4 by omega]; exact (if_pos (by omega)).symm, hS0, FrC.rf c⟩)
            · refine g_tableIn (off := 32) 80 dX7_join_48 (by decide) (by decide) rfl (by decide) ?_
              refine g_aload_n (i := 0) dX7_join_80 rfl rfl ?_
              refine g_getP dX7_join_81 fl7_47 (by first | rfl | assumption) (by first | decide | (show _ < 62; omega)) (by first | rfl | assumption) ?_
              refine g_getP dX7_join_84 fl7_141 (by first | rfl | assumption) (by first | decide | (show _ < 62; omega)) (by first | rfl | assumption) ?_
              refine g_iload_n (i := 1) dX7_join_87 rfl rfl ?_
              refine g_iaload dX7_join_88 rfl (by decide) ?_
              rw [v0]
              skip -- ?_
              refine g_i2lx dX7_join_89 ?_
              exact n_retj dX7_join_90 rfl (⟨by unfold a_joi; rw [if_pos (by omega), hT]; exact (if_pos (by omega)).symm, hS0, FrC.rf c⟩)
            · refine g_tableIn (off := 43) 91 dX7_join_48 (by decide) (by decide) rfl (by decide) ?_
              refine g_aload_n (i := 0) dX7_join_91 rfl rfl ?_
              refine g_getP dX7_join_92 fl7_47 (by first | rfl | assumption) (by first | decide | (show _ < 62; omega)) (by first | rfl | assumption) ?_
              refine g_getP dX7_join_95 fl7_144 (by first | rfl | assumption) (by first | decide | (show _ < 62; omega)) (by first | rfl | assumption) ?_
              refine g_iload_n (i := 1) dX7_join_98 rfl rfl ?_
              refine g_iaload dX7_join_99 rfl (by decide) ?_
              rw [v1]
              skip -- ?_
              refine g_i2lx dX7_join_100 ?_
              exact n_retj dX7_join_101 rfl (⟨by unfold a_joi; rw [if_pos (by omega), hT]; exact (if_pos (by omega)).symm, hS0, FrC.rf c⟩)
            · refine g_tableIn (off := 54) 102 dX7_join_48 (by decide) (by decide) rfl (by decide) ?_
              refine g_aload_n (i := 0) dX7_join_102 rfl rfl ?_
              refine g_getP dX7_join_103 fl7_47 (by first | rfl | assumption) (by first | decide | (show _ < 62; omega)) (by first | rfl | assumption) ?_
              refine g_getP dX7_join_106 fl7_147 (by first | rfl | assumption) (by first | decide | (show _ < 62; omega)) (by first | rfl | assumption) ?_
              refine g_iload_n (i := 1) dX7_join_109 rfl rfl ?_
              refine g_iaload dX7_join_110 rfl (by decide) ?_
              rw [v2]
              skip -- ?_
              refine g_i2lx dX7_join_111 ?_
              exact n_retj dX7_join_112 rfl (⟨by unfold a_joi; rw [if_pos (by omega), hT]; exact (if_pos (by omega)).symm, hS0, FrC.rf c⟩)
            · refine g_tableIn (off := 65) 113 dX7_join_48 (by decide) (by decide) rfl (by decide) ?_
              refine g_aload_n (i := 0) dX7_join_113 rfl rfl ?_
              refine g_getP dX7_join_114 fl7_47 (by first | rfl | assumption) (by first | decide | (show _ < 62; omega)) (by first | rfl | assumption) ?_
              refine g_getP dX7_join_117 fl7_150 (by first | rfl | assumption) (by first | decide | (show _ < 62; omega)) (by first | rfl | assumption) ?_
              refine g_iload_n (i := 1) dX7_join_120 rfl rfl ?_
              refine g_laload dX7_join_121 rfl (by decide) ?_
              rw [v3]
              skip -- ?_
              exact n_retj dX7_join_122 rfl (⟨by unfold a_joi; rw [if_pos (by omega), hT]; exact (if_pos (by omega)).symm, hS0, FrC.rf c⟩)
          · skip
            refine g_ldc2 (z := -1) dX7_join_43 cw7_139 ?_
            exact n_retj dX7_join_46 rfl (⟨by unfold a_joi; rw [if_pos (by omega), hT]; exact (if_neg (by omega)).symm, hS0, FrC.rf c⟩)
      · skip
        have hT := hTr.no b21
        refine g_ldc2 (z := -2000000003) dX7_join_24 cw7_137 ?_
        exact n_retj dX7_join_27 rfl (⟨by unfold a_joi; rw [if_pos (by omega), hT], hS0, FrC.rf c⟩)
    · skip
      refine g_ldc2 (z := -2000000002) dX7_join_9 cw7_135 ?_
      exact n_retj dX7_join_12 rfl (⟨by unfold a_joi; rw [if_neg (by omega)], hS0, FrC.rf c⟩)
set_option maxHeartbeats 4000000 in
set_option maxRecDepth 100000 in
theorem k_X7_of (c : qC) (n wd : Int) (N : Int → Int → Int) (S : Sl) (mm : Int) (md : Int → Int) (T : Tr) (hS : CS c n wd N S mm md T) (s i : Int) (s0 : iR s) (i0 : iR i) : qN X7_of 1 [qP 0, qI s, qI i] c (pI (fun z c' => z = a_of n S s i ∧ CS c' n wd N S mm md T ∧ FrC c c')) := by
  have hS0 := hS
  obtain ⟨hT, hSl, hMd, hTr⟩ := hS
  have hT0 := hT
  obtain ⟨t1, t2, t3, t4, t5, t6, t7⟩ := hT
  refine qN.of [some (qP 0), some (qI s), some (qI i)] (by decide) rfl (fun _ => rfl) (fun _ => Nat.le_of_ble_eq_true rfl) ?_
  refine g_aload_n (i := 0) dX7_of_0 rfl rfl ?_
  refine g_iload_n (i := 2) dX7_of_1 rfl rfl ?_
  refine n_callVi (k_X7_isRow _ _ _ (by assumption) (by omega) (by omega)) dX7_of_2 lk7_85 im_X7_isRow (by first | rfl | assumption) (by first | decide | (show _ < 62; omega)) rfl rfl rfl rfl (Nat.le_of_ble_eq_true rfl) (fun z c' hz => ?_)
  obtain ⟨hz2, hz⟩ := hz
  have hz2 := hz2.symm
  subst hz2
  refine g_if_ne 11 dX7_of_5 (by decide) (fun b5 => ?_) (fun b5 => ?_)
  · skip
    refine g_iload_n (i := 1) dX7_of_11 rfl rfl ?_
    refine n_callSi (k_X7_isSlot _ _ (by omega)) dX7_of_12 lk7_100 sm_X7_isSlot rfl rfl rfl (Nat.le_of_ble_eq_true rfl) (fun z c' hz => ?_)
    obtain ⟨hz2, hz⟩ := hz
    have hz2 := hz2.symm
    subst hz2
    refine g_if_ne 21 dX7_of_15 (by decide) (fun b15 => ?_) (fun b15 => ?_)
    · skip
      obtain ⟨o, hoS, ho1, hLo, ho62, ho58, hL1, hL2, ho63, ho64⟩ := oS_ex (s := s) (by omega)
      have hst := hSl s (by omega) (by omega)
      rw [hoS] at hst
      have hsb := hst.b
      refine g_aload_n (i := 0) dX7_of_21 rfl rfl ?_
      refine g_getP dX7_of_22 fl7_18 (by first | rfl | assumption) (by first | decide | (show _ < 62; omega)) (by first | rfl | assumption) ?_
      refine g_iload_n (i := 1) dX7_of_25 rfl rfl ?_
      refine g_aaload dX7_of_26 rfl (by decide) ho1 ?_
      refine n_callVi (kk_isEmpty ho58 rfl (by omega)) dX7_of_27 lk7_162 im_X3_isEmpty hLo ho62 rfl rfl rfl rfl (Nat.le_of_ble_eq_true rfl) (fun z c' hz => ?_)
      obtain ⟨hz2, hz⟩ := hz
      have hz2 := hz2.symm
      subst hz2
      refine g_if_eq 36 dX7_of_30 (by decide) (fun b30 => ?_) (fun b30 => ?_)
      · skip
        obtain ⟨g, m, hg, hG⟩ := hst.yes (by omega)
        refine g_aload_n (i := 0) dX7_of_36 rfl rfl ?_
        refine g_getP dX7_of_37 fl7_18 (by first | rfl | assumption) (by first | decide | (show _ < 62; omega)) (by first | rfl | assumption) ?_
        refine g_iload_n (i := 1) dX7_of_40 rfl rfl ?_
        refine g_aaload dX7_of_41 rfl (by decide) ho1 ?_
        refine g_getP dX7_of_42 fl7_166 hLo ho62 (by first | rfl | assumption) ?_
        refine g_iload_n (i := 2) dX7_of_45 rfl rfl ?_
        refine g_iaload dX7_of_46 hL1 ho63 ?_
        exact n_reti dX7_of_47 rfl (⟨by unfold a_of; rw [if_pos (by omega), if_pos (by omega), hg]; exact (hG.2.2.2.2.1 i (by omega) (by omega)).1, hS0, FrC.rf c⟩)
      · skip
        have hg := hst.no (by omega)
        refine g_ldc (z := -2000000003) dX7_of_33 cw7_63 ?_
        exact n_reti dX7_of_35 rfl (⟨by unfold a_of; rw [if_pos (by omega), if_pos (by omega), hg], hS0, FrC.rf c⟩)
    · skip
      refine g_ldc (z := -2000000002) dX7_of_18 cw7_58 ?_
      exact n_reti dX7_of_20 rfl (⟨by unfold a_of; rw [if_pos (by omega), if_neg (by omega)], hS0, FrC.rf c⟩)
  · skip
    refine g_ldc (z := -2000000001) dX7_of_8 cw7_89 ?_
    exact n_reti dX7_of_10 rfl (⟨by unfold a_of; rw [if_neg (by omega)], hS0, FrC.rf c⟩)
set_option maxHeartbeats 4000000 in
set_option maxRecDepth 100000 in
theorem k_X7_refusalOfGroup (c : qC) (n wd : Int) (N : Int → Int → Int) (S : Sl) (mm : Int) (md : Int → Int) (T : Tr) (hS : CS c n wd N S mm md T) (s k : Int) (s0 : iR s) (k0 : iR k) : qN X7_refusalOfGroup 1 [qP 0, qI s, qI k] c (pI (fun z c' => z = rfS S s k ∧ c' = c)) := by
  have hS0 := hS
  obtain ⟨hT, hSl, hMd, hTr⟩ := hS
  have hT0 := hT
  obtain ⟨t1, t2, t3, t4, t5, t6, t7⟩ := hT
  refine qN.of [some (qP 0), some (qI s), some (qI k)] (by decide) rfl (fun _ => rfl) (fun _ => Nat.le_of_ble_eq_true rfl) ?_
  refine g_iload_n (i := 1) dX7_refusalOfGroup_0 rfl rfl ?_
  refine n_callSi (k_X7_isSlot _ _ (by omega)) dX7_refusalOfGroup_1 lk7_100 sm_X7_isSlot rfl rfl rfl (Nat.le_of_ble_eq_true rfl) (fun z c' hz => ?_)
  obtain ⟨hz2, hz⟩ := hz
  have hz2 := hz2.symm
  subst hz2
  refine g_if_ne 10 dX7_refusalOfGroup_4 (by decide) (fun b4 => ?_) (fun b4 => ?_)
  · skip
    obtain ⟨o, hoS, ho1, hLo, ho62, ho58, hL1, hL2, ho63, ho64⟩ := oS_ex (s := s) (by omega)
    have hst := hSl s (by omega) (by omega)
    rw [hoS] at hst
    have hsb := hst.b
    refine g_aload_n (i := 0) dX7_refusalOfGroup_10 rfl rfl ?_
    refine g_getP dX7_refusalOfGroup_11 fl7_18 (by first | rfl | assumption) (by first | decide | (show _ < 62; omega)) (by first | rfl | assumption) ?_
    refine g_iload_n (i := 1) dX7_refusalOfGroup_14 rfl rfl ?_
    refine g_aaload dX7_refusalOfGroup_15 rfl (by decide) ho1 ?_
    refine n_callVi (kk_isEmpty ho58 rfl (by omega)) dX7_refusalOfGroup_16 lk7_162 im_X3_isEmpty hLo ho62 rfl rfl rfl rfl (Nat.le_of_ble_eq_true rfl) (fun z c' hz => ?_)
    obtain ⟨hz2, hz⟩ := hz
    have hz2 := hz2.symm
    subst hz2
    refine g_if_eq 25 dX7_refusalOfGroup_19 (by decide) (fun b19 => ?_) (fun b19 => ?_)
    · skip
      obtain ⟨g, m, hg, hG⟩ := hst.yes (by omega)
      have hg1 := hG.2.1
      have hg2 := hG.2.2.2.1
      refine g_iload_n (i := 2) dX7_refusalOfGroup_25 rfl rfl ?_
      refine g_if_lt 46 dX7_refusalOfGroup_26 (by decide) (fun b26 => ?_) (fun b26 => ?_)
      · skip
        refine g_ldc (z := -2000000001) dX7_refusalOfGroup_46 cw7_89 ?_
        exact n_reti dX7_refusalOfGroup_48 rfl (⟨by unfold rfS; rw [if_pos (by omega), hg]; first | exact (if_pos (by omega)).symm | exact (if_neg (by omega)).symm, rfl⟩)
      · skip
        refine g_iload_n (i := 2) dX7_refusalOfGroup_29 rfl rfl ?_
        refine g_aload_n (i := 0) dX7_refusalOfGroup_30 rfl rfl ?_
        refine g_getP dX7_refusalOfGroup_31 fl7_18 (by first | rfl | assumption) (by first | decide | (show _ < 62; omega)) (by first | rfl | assumption) ?_
        refine g_iload_n (i := 1) dX7_refusalOfGroup_34 rfl rfl ?_
        refine g_aaload dX7_refusalOfGroup_35 rfl (by decide) ho1 ?_
        refine g_getI (ji := 3) dX7_refusalOfGroup_36 fl7_79 hLo ho62 (by first | rfl | assumption) (by decide) rfl (by first | assumption | rfl) ?_
        refine g_icmp_ge 46 dX7_refusalOfGroup_39 (by decide) (fun b39 => ?_) (fun b39 => ?_)
        · skip
          refine g_ldc (z := -2000000001) dX7_refusalOfGroup_46 cw7_89 ?_
          exact n_reti dX7_refusalOfGroup_48 rfl (⟨by unfold rfS; rw [if_pos (by omega), hg]; first | exact (if_pos (by omega)).symm | exact (if_neg (by omega)).symm, rfl⟩)
        · skip
          refine g_iconst dX7_refusalOfGroup_42 ?_
          refine g_goto 48 dX7_refusalOfGroup_43 (by decide) ?_
          exact n_reti dX7_refusalOfGroup_48 rfl (⟨by unfold rfS; rw [if_pos (by omega), hg]; first | exact (if_pos (by omega)).symm | exact (if_neg (by omega)).symm, rfl⟩)
    · skip
      have hg := hst.no (by omega)
      refine g_ldc (z := -2000000003) dX7_refusalOfGroup_22 cw7_63 ?_
      exact n_reti dX7_refusalOfGroup_24 rfl (⟨by unfold rfS; rw [if_pos (by omega), hg], rfl⟩)
  · skip
    refine g_ldc (z := -2000000002) dX7_refusalOfGroup_7 cw7_58 ?_
    exact n_reti dX7_refusalOfGroup_9 rfl (⟨by unfold rfS; rw [if_neg (by omega)], rfl⟩)
set_option maxHeartbeats 4000000 in
set_option maxRecDepth 100000 in
theorem k_X7_size (c : qC) (n wd : Int) (N : Int → Int → Int) (S : Sl) (mm : Int) (md : Int → Int) (T : Tr) (hS : CS c n wd N S mm md T) (s k : Int) (s0 : iR s) (k0 : iR k) : qN X7_size 2 [qP 0, qI s, qI k] c (pI (fun z c' => z = a_siz n S s k ∧ CS c' n wd N S mm md T ∧ FrC c c')) := by
  have hS0 := hS
  obtain ⟨hT, hSl, hMd, hTr⟩ := hS
  have hT0 := hT
  obtain ⟨t1, t2, t3, t4, t5, t6, t7⟩ := hT
  have hrr := rfS_r S s k
  refine qN.of [some (qP 0), some (qI s), some (qI k), none] (by decide) rfl (fun _ => rfl) (fun _ => Nat.le_of_ble_eq_true rfl) ?_
  refine g_aload_n (i := 0) dX7_size_0 rfl rfl ?_
  refine g_iload_n (i := 1) dX7_size_1 rfl rfl ?_
  refine g_iload_n (i := 2) dX7_size_2 rfl rfl ?_
  refine n_callVi (k_X7_refusalOfGroup _ n wd N S mm md T hS0 _ _ (by omega) (by omega)) dX7_size_3 lk7_169 im_X7_refusalOfGroup (by first | rfl | assumption) (by first | decide | (show _ < 62; omega)) rfl rfl rfl rfl (Nat.le_of_ble_eq_true rfl) (fun z c' hz => ?_)
  obtain ⟨rfl, hz2⟩ := hz
  have hz2 := hz2.symm
  subst hz2
  refine g_istore_n3 dX7_size_6 rfl ?_
  refine g_iload_n (i := 3) dX7_size_7 rfl rfl ?_
  refine g_if_eq 13 dX7_size_8 (by decide) (fun b8 => ?_) (fun b8 => ?_)
  · skip
    obtain ⟨hs01, g, m, hg, hk0, hk1⟩ := rfS_0 b8
    obtain ⟨o, hoS, ho1, hLo, ho62, ho58, hL1, hL2, ho63, ho64⟩ := oS_ex (s := s) (by omega)
    have hG : Gr c o n g m := by
      have hst := hSl s (by omega) (by omega)
      rw [hoS, hg] at hst
      exact hst
    have hg2 := hG.2.2.2.1
    have hcb := cn_bd (g := g) (k := k) t3.1
    refine g_aload_n (i := 0) dX7_size_13 rfl rfl ?_
    refine g_getP dX7_size_14 fl7_18 (by first | rfl | assumption) (by first | decide | (show _ < 62; omega)) (by first | rfl | assumption) ?_
    refine g_iload_n (i := 1) dX7_size_17 rfl rfl ?_
    refine g_aaload dX7_size_18 rfl (by decide) ho1 ?_
    refine g_getP dX7_size_19 fl7_173 hLo ho62 (by first | rfl | assumption) ?_
    refine g_iload_n (i := 2) dX7_size_22 rfl rfl ?_
    refine g_iaload dX7_size_23 hL2 ho64 ?_
    exact n_reti dX7_size_24 rfl (⟨by unfold a_siz; rw [if_pos b8, hg]; exact hG.2.2.2.2.2 k hk0 hk1, hS0, FrC.rf c⟩)
  · skip
    refine g_iload_n (i := 3) dX7_size_11 rfl rfl ?_
    exact n_reti dX7_size_12 rfl (⟨by unfold a_siz; rw [if_neg b8], hS0, FrC.rf c⟩)
set_option maxHeartbeats 4000000 in
set_option maxRecDepth 100000 in
theorem k_X7_reckonMean (c : qC) (n wd m k x : Int) (N : Int → Int → Int) (g : Int → Int) (o : Nat) (ho58 : o = 5 ∨ o = 8) (hLo : LAY o = .inr (.inr (3, [.inl (some (o + 1)), .inl (some (o + 2)), .inr 0, .inr 0]))) (ho62 : o < 62) (hL2 : LAY (o + 2) = .inl (0, 30)) (ho64 : o + 2 < 62) (hG : Gr c o n g m) (hT : Tb c n wd N) (k0 : 0 ≤ k) (k1 : k < m) (x0 : 0 ≤ x) (x1 : x < wd) : qN X7_reckonMean 2 [qP 0, qP o, qI k, qI x] c (pV (fun c' => (∀ q, q ≠ 38 → c' q = c q) ∧ (cn g n k = 0 → c' 38 0 = 0 ∧ c' 38 1 = 1) ∧ (¬ cn g n k = 0 → c' 38 0 = (sg g n k (fun r => N r x)).tdiv (gc (sg g n k (fun r => N r x)) (cn g n k)) ∧ c' 38 1 = (cn g n k).tdiv (gc (sg g n k (fun r => N r x)) (cn g n k))))) := by
  have hT0 := hT
  have hG0 := hG
  obtain ⟨t1, t2, t3, t4, t5, t6, t7⟩ := hT
  obtain ⟨g1, g2, g3, g4, g5, g6⟩ := hG
  have hcb := cn_bd (g := g) (k := k) t3.1
  have hsb := sg_bd (g := g) (k := k) (v := fun r => N r x) (m := 1000) t3.1 (by omega) (fun r r0 r1 => t6 r r0 r1 x x0 x1)
  refine qN.of [some (qP 0), some (qP o), some (qI k), some (qI x), none] (by decide) rfl (fun _ => rfl) (fun _ => Nat.le_of_ble_eq_true rfl) ?_
  refine g_aload_n (i := 1) dX7_reckonMean_0 rfl rfl ?_
  refine g_getP dX7_reckonMean_1 fl7_173 hLo ho62 (by first | rfl | assumption) ?_
  refine g_iload_n (i := 2) dX7_reckonMean_4 rfl rfl ?_
  refine g_iaload dX7_reckonMean_5 hL2 ho64 ?_
  rw [g6 k k0 k1]
  skip -- ?_
  refine g_istore4 dX7_reckonMean_6 rfl ?_
  refine g_iload dX7_reckonMean_8 rfl ?_
  refine g_if_ne 25 dX7_reckonMean_10 (by decide) (fun b10 => ?_) (fun b10 => ?_)
  · skip
    refine g_aload_n (i := 0) dX7_reckonMean_25 rfl rfl ?_
    refine g_getP dX7_reckonMean_26 fl7_54 (by first | rfl | assumption) (by first | decide | (show _ < 62; omega)) (by first | rfl | assumption) ?_
    refine g_aload_n (i := 1) dX7_reckonMean_29 rfl rfl ?_
    refine g_aload_n (i := 0) dX7_reckonMean_30 rfl rfl ?_
    refine g_getP dX7_reckonMean_31 fl7_10 (by first | rfl | assumption) (by first | decide | (show _ < 62; omega)) (by first | rfl | assumption) ?_
    refine g_iload_n (i := 2) dX7_reckonMean_34 rfl rfl ?_
    refine g_iload_n (i := 3) dX7_reckonMean_35 rfl rfl ?_
    refine n_callVj (kk_total (m := m) (g := g) (N := N) ho58 hG0 hT0 (by omega) x0 x1) dX7_reckonMean_36 lk7_203 im_X3_total hLo ho62 rfl rfl rfl rfl (Nat.le_of_ble_eq_true rfl) (fun z c' hz => ?_)
    obtain ⟨rfl, hz2⟩ := hz
    have hz2 := hz2.symm
    subst hz2
    refine g_iload dX7_reckonMean_39 rfl ?_
    refine g_i2lx dX7_reckonMean_41 ?_
    refine n_callVv (k_X2_put_38 _ _ _ (by omega) (by omega) (by omega)) dX7_reckonMean_42 lk7_199 im_X2_put (by first | rfl | assumption) (by first | decide | (show _ < 62; omega)) rfl rfl rfl rfl (Nat.le_of_ble_eq_true rfl) (fun c' hz => ?_)
    subst hz
    exact n_retv dX7_reckonMean_45 rfl (by first | exact ⟨fun q hq => by rw [qu_ne hq, qu_ne hq], fun h => absurd h b10, fun _ => ⟨rfl, rfl⟩⟩ | exact ⟨fun q hq => by rw [qu_ne hq, qu_ne hq], fun _ => ⟨rfl, rfl⟩, fun h => absurd b10 h⟩)
  · skip
    refine g_aload_n (i := 0) dX7_reckonMean_13 rfl rfl ?_
    refine g_getP dX7_reckonMean_14 fl7_54 (by first | rfl | assumption) (by first | decide | (show _ < 62; omega)) (by first | rfl | assumption) ?_
    refine g_lconst (z := 0) dX7_reckonMean_17 (by decide) ?_
    refine g_lconst (z := 1) dX7_reckonMean_18 (by decide) ?_
    refine n_callVv (k_X2_put_38 _ _ _ (by omega) (by omega) (by omega)) dX7_reckonMean_19 lk7_199 im_X2_put (by first | rfl | assumption) (by first | decide | (show _ < 62; omega)) rfl rfl rfl rfl (Nat.le_of_ble_eq_true rfl) (fun c' hz => ?_)
    subst hz
    refine g_goto 45 dX7_reckonMean_22 (by decide) ?_
    exact n_retv dX7_reckonMean_45 rfl (by first | exact ⟨fun q hq => by rw [qu_ne hq, qu_ne hq], fun h => absurd h b10, fun _ => ⟨rfl, rfl⟩⟩ | exact ⟨fun q hq => by rw [qu_ne hq, qu_ne hq], fun _ => ⟨rfl, rfl⟩, fun h => absurd b10 h⟩)
set_option maxHeartbeats 4000000 in
set_option maxRecDepth 100000 in
theorem k_X7_mean (c : qC) (n wd : Int) (N : Int → Int → Int) (S : Sl) (mm : Int) (md : Int → Int) (T : Tr) (hS : CS c n wd N S mm md T) (s k x e : Int) (s0 : iR s) (k0 : iR k) (x0 : iR x) (e0 : iR e) : qN X7_mean 3 [qP 0, qI s, qI k, qI x, qI e] c (pI (fun z c' => z = a_mea n wd N S s k x e ∧ CS c' n wd N S mm md T ∧ FrC c c')) := by
  have hS0 := hS
  obtain ⟨hT, hSl, hMd, hTr⟩ := hS
  have hT0 := hT
  obtain ⟨t1, t2, t3, t4, t5, t6, t7⟩ := hT
  have hrr := rfS_r S s k
  refine qN.of [some (qP 0), some (qI s), some (qI k), some (qI x), some (qI e), none] (by decide) rfl (fun _ => rfl) (fun _ => Nat.le_of_ble_eq_true rfl) ?_
  refine g_aload_n (i := 0) dX7_mean_0 rfl rfl ?_
  refine g_iload_n (i := 1) dX7_mean_1 rfl rfl ?_
  refine g_iload_n (i := 2) dX7_mean_2 rfl rfl ?_
  refine n_callVi (k_X7_refusalOfGroup _ n wd N S mm md T hS0 _ _ (by omega) (by omega)) dX7_mean_3 lk7_169 im_X7_refusalOfGroup (by first | rfl | assumption) (by first | decide | (show _ < 62; omega)) rfl rfl rfl rfl (Nat.le_of_ble_eq_true rfl) (fun z c' hz => ?_)
  obtain ⟨rfl, hz2⟩ := hz
  have hz2 := hz2.symm
  subst hz2
  refine g_istore5 dX7_mean_6 rfl ?_
  refine g_iload dX7_mean_8 rfl ?_
  refine g_if_eq 16 dX7_mean_10 (by decide) (fun b10 => ?_) (fun b10 => ?_)
  · skip
    obtain ⟨hs01, g, m, hg, hk0, hk1⟩ := rfS_0 b10
    obtain ⟨o, hoS, ho1, hLo, ho62, ho58, hL1, hL2, ho63, ho64⟩ := oS_ex (s := s) (by omega)
    have hG : Gr c o n g m := by
      have hst := hSl s (by omega) (by omega)
      rw [hoS, hg] at hst
      exact hst
    have hg2 := hG.2.2.2.1
    have hcb := cn_bd (g := g) (k := k) t3.1
    refine g_iload_n (i := 3) dX7_mean_16 rfl rfl ?_
    refine g_if_lt 39 dX7_mean_17 (by decide) (fun b17 => ?_) (fun b17 => ?_)
    · skip
      refine g_ldc (z := -2000000002) dX7_mean_39 cw7_58 ?_
      exact n_reti dX7_mean_41 rfl (⟨by unfold a_mea; rw [if_pos b10, if_neg (by omega)], hS0, FrC.rf c⟩)
    · skip
      refine g_iload_n (i := 3) dX7_mean_20 rfl rfl ?_
      refine g_aload_n (i := 0) dX7_mean_21 rfl rfl ?_
      refine g_getP dX7_mean_22 fl7_10 (by first | rfl | assumption) (by first | decide | (show _ < 62; omega)) (by first | rfl | assumption) ?_
      refine g_getI (ji := 2) dX7_mean_25 fl7_64 (by first | rfl | assumption) (by first | decide | (show _ < 62; omega)) (by first | rfl | assumption) (by decide) rfl (by first | assumption | rfl) ?_
      refine g_icmp_ge 39 dX7_mean_28 (by decide) (fun b28 => ?_) (fun b28 => ?_)
      · skip
        refine g_ldc (z := -2000000002) dX7_mean_39 cw7_58 ?_
        exact n_reti dX7_mean_41 rfl (⟨by unfold a_mea; rw [if_pos b10, if_neg (by omega)], hS0, FrC.rf c⟩)
      · skip
        refine g_iload dX7_mean_31 rfl ?_
        refine n_callSi (k_X7_isSide _ _ (by omega)) dX7_mean_33 lk7_176 sm_X7_isSide rfl rfl rfl (Nat.le_of_ble_eq_true rfl) (fun z c' hz => ?_)
        obtain ⟨hz2, hz⟩ := hz
        have hz2 := hz2.symm
        subst hz2
        refine g_if_ne 42 dX7_mean_36 (by decide) (fun b36 => ?_) (fun b36 => ?_)
        · skip
          refine g_aload_n (i := 0) dX7_mean_42 rfl rfl ?_
          refine g_aload_n (i := 0) dX7_mean_43 rfl rfl ?_
          refine g_getP dX7_mean_44 fl7_18 (by first | rfl | assumption) (by first | decide | (show _ < 62; omega)) (by first | rfl | assumption) ?_
          refine g_iload_n (i := 1) dX7_mean_47 rfl rfl ?_
          refine g_aaload dX7_mean_48 rfl (by decide) ho1 ?_
          refine g_iload_n (i := 2) dX7_mean_49 rfl rfl ?_
          refine g_iload_n (i := 3) dX7_mean_50 rfl rfl ?_
          refine n_callVv (k_X7_reckonMean _ n wd m _ _ N g o ho58 hLo ho62 hL2 ho64 hG hT0 hk0 hk1 (by omega) (by omega)) dX7_mean_51 lk7_179 im_X7_reckonMean (by first | rfl | assumption) (by first | decide | (show _ < 62; omega)) rfl rfl rfl rfl (Nat.le_of_ble_eq_true rfl) (fun c1 hz => ?_)
          obtain ⟨hf, hm0, hm1⟩ := hz
          refine g_aload_n (i := 0) dX7_mean_54 rfl rfl ?_
          refine g_getP dX7_mean_55 fl7_54 (by first | rfl | assumption) (by first | decide | (show _ < 62; omega)) (by first | rfl | assumption) ?_
          refine g_iload dX7_mean_58 rfl ?_
          refine n_callVj (k_X2_part_38 _ _ (by omega)) dX7_mean_60 lk7_183 im_X2_part (by first | rfl | assumption) (by first | decide | (show _ < 62; omega)) rfl rfl rfl rfl (Nat.le_of_ble_eq_true rfl) (fun z c' hz => ?_)
          obtain ⟨rfl, hz2⟩ := hz
          have hz2 := hz2.symm
          subst hz2
          refine g_l2i dX7_mean_63 ?_
          exact n_reti dX7_mean_64 rfl (⟨by
      unfold a_mea
      rw [if_pos b10, if_pos (show (0 ≤ x ∧ x < wd) ∧ 0 ≤ e ∧ e ≤ 1 by omega), hg]
      by_cases hc : cn g n k = 0
      · rw [if_pos (show cn (gof (some (g, m))) n k = 0 from hc)]
        by_cases he : e = 0
        · rw [if_pos he, (hm0 hc).1, he]
        · rw [if_neg he, (hm0 hc).2]; omega
      · rw [if_neg (show ¬ cn (gof (some (g, m))) n k = 0 from hc)]
        by_cases he : e = 0
        · rw [if_pos he, if_pos he, (hm1 hc).1]; rfl
        · rw [if_neg he, if_neg he, (hm1 hc).2]; rfl, hS0.fr (fun q hq => hf q (by omega)), fun q hq => hf q (by omega)⟩)
        · skip
          refine g_ldc (z := -2000000002) dX7_mean_39 cw7_58 ?_
          exact n_reti dX7_mean_41 rfl (⟨by unfold a_mea; rw [if_pos b10, if_neg (by omega)], hS0, FrC.rf c⟩)
  · skip
    refine g_iload dX7_mean_13 rfl ?_
    exact n_reti dX7_mean_15 rfl (⟨by unfold a_mea; rw [if_neg b10], hS0, FrC.rf c⟩)
