abbrev Sl : Type := Int → Option ((Int → Int) × Int)
abbrev Tr : Type := Option (Int × (Int → Int → Int))
def TSl (c : qC) (s n : Int) (o : Option ((Int → Int) × Int)) : Prop := match o with
  | none => c 41 s = 0
  | some p => c 41 s = 1 ∧ c 42 s = p.2 ∧ (0 ≤ p.2 ∧ p.2 ≤ 30) ∧ ∀ r, 0 ≤ r → r < n → c 43 (30 * s + r) = p.1 r ∧ -1 ≤ p.1 r ∧ p.1 r < p.2
def TMd (c : qC) (mm : Int) (md : Int → Int) : Prop := c 39 6 = mm ∧ (0 ≤ mm ∧ mm ≤ 3) ∧ ∀ i, 0 ≤ i → i < mm → c 44 i = md i
def TTr (c : qC) (n : Int) (o : Tr) : Prop := match o with
  | none => c 39 8 = 0
  | some p => c 39 8 = 1 ∧ c 39 9 = p.1 ∧ p.1 = n - 1 ∧ 1 ≤ n ∧ ∀ i, 0 ≤ i → i < p.1 → (c 45 i = p.2 0 i ∧ c 46 i = p.2 1 i ∧ c 47 i = p.2 2 i ∧ c 48 i = p.2 3 i ∧ c 49 i = p.2 4 i) ∧ 0 ≤ p.2 0 i ∧ p.2 0 i < p.2 1 i ∧ p.2 1 i < n ∧ iR (p.2 2 i)
/-- the reference's state -/
def TS (c : qC) (n wd : Int) (N : Int → Int → Int) (S : Sl) (mm : Int) (md : Int → Int) (T : Tr) : Prop := Md c n wd N ∧ (∀ s, 0 ≤ s → s ≤ 1 → TSl c s n (S s)) ∧ TMd c mm md ∧ TTr c n T
theorem TSl.no {c : qC} {s n : Int} {o : Option ((Int → Int) × Int)} (h : TSl c s n o) (h0 : c 41 s = 0) : o = none := by
  cases o with
  | none => rfl
  | some p => have := h.1; omega
theorem TSl.yes {c : qC} {s n : Int} {o : Option ((Int → Int) × Int)} (h : TSl c s n o) (h0 : ¬ c 41 s = 0) : ∃ g m, o = some (g, m) ∧ c 42 s = m ∧ (0 ≤ m ∧ m ≤ 30) ∧ ∀ r, 0 ≤ r → r < n → c 43 (30 * s + r) = g r ∧ -1 ≤ g r ∧ g r < m := by
  cases o with
  | none => exact absurd h h0
  | some p => exact ⟨p.1, p.2, rfl, h.2⟩
theorem TSl.b {c : qC} {s n : Int} {o : Option ((Int → Int) × Int)} (h : TSl c s n o) : 0 ≤ c 41 s ∧ c 41 s ≤ 1 := by
  cases o with
  | none => have : c 41 s = 0 := h; omega
  | some p => have := h.1; omega
theorem TTr.no {c : qC} {n : Int} {o : Tr} (h : TTr c n o) (h0 : c 39 8 = 0) : o = none := by
  cases o with
  | none => rfl
  | some p => have := h.1; omega
theorem TTr.yes {c : qC} {n : Int} {o : Tr} (h : TTr c n o) (h0 : ¬ c 39 8 = 0) : ∃ jn J, o = some (jn, J) ∧ c 39 9 = jn ∧ jn = n - 1 ∧ 1 ≤ n ∧ ∀ i, 0 ≤ i → i < jn → (c 45 i = J 0 i ∧ c 46 i = J 1 i ∧ c 47 i = J 2 i ∧ c 48 i = J 3 i ∧ c 49 i = J 4 i) ∧ 0 ≤ J 0 i ∧ J 0 i < J 1 i ∧ J 1 i < n ∧ iR (J 2 i) := by
  cases o with
  | none => exact absurd h h0
  | some p => exact ⟨p.1, p.2, rfl, h.2⟩
theorem TTr.b {c : qC} {n : Int} {o : Tr} (h : TTr c n o) : 0 ≤ c 39 8 ∧ c 39 8 ≤ 1 := by
  cases o with
  | none => have : c 39 8 = 0 := h; omega
  | some p => have := h.1; omega
/-- the class's own cells, the reference's own -/
def FrT (c c' : qC) : Prop := ∀ k, k < 39 → c' k = c k
def FrC (c c' : qC) : Prop := ∀ k, 39 ≤ k → c' k = c k
theorem FrT.rf (c : qC) : FrT c c := fun _ _ => rfl
theorem FrC.rf (c : qC) : FrC c c := fun _ _ => rfl
theorem TS.fr {c c' : qC} {n wd : Int} {N : Int → Int → Int} {S : Sl} {mm : Int} {md : Int → Int} {T : Tr} (h : TS c n wd N S mm md T) (hf : ∀ k, 39 ≤ k → k < 50 → c' k = c k) : TS c' n wd N S mm md T := by
  obtain ⟨h1, h2, h3, h4⟩ := h
  refine ⟨h1.fr (by rw [hf 39 (by decide) (by decide)]) (by rw [hf 39 (by decide) (by decide)]) (hf 40 (by decide) (by decide)), fun s s0 s1 => ?_, ?_, ?_⟩
  · have := h2 s s0 s1
    unfold TSl at this ⊢
    rw [hf 41 (by decide) (by decide), hf 42 (by decide) (by decide), hf 43 (by decide) (by decide)]
    exact this
  · unfold TMd at h3 ⊢
    rw [hf 39 (by decide) (by decide), hf 44 (by decide) (by decide)]
    exact h3
  · unfold TTr at h4 ⊢
    rw [hf 39 (by decide) (by decide), hf 45 (by decide) (by decide), hf 46 (by decide) (by decide), hf 47 (by decide) (by decide), hf 48 (by decide) (by decide), hf 49 (by decide) (by decide)]
    exact h4
-- the answers
def inb (wd a b e f : Int) : Prop := (-1000 ≤ a ∧ a ≤ 1000) ∧ (wd < 2 ∨ (-1000 ≤ b ∧ b ≤ 1000)) ∧ (wd < 3 ∨ (-1000 ≤ e ∧ e ≤ 1000)) ∧ (wd < 4 ∨ (-1000 ≤ f ∧ f ≤ 1000))
def a_col (n a : Int) : Int := if 1 ≤ a ∧ a ≤ 4 then (if 0 < n then -2000000003 else 1) else -2000000002
def w_col (n wd a : Int) : Int := if (1 ≤ a ∧ a ≤ 4) ∧ ¬ 0 < n then a else wd
def gcn (o : Option ((Int → Int) × Int)) : Int := match o with
  | none => -1
  | some p => p.2
def tcn (o : Tr) : Int := match o with
  | none => -1
  | some p => p.1
def a_cnt (n wd : Int) (S : Sl) (T : Tr) (w : Int) : Int := if w = 0 then n else if w = 1 then wd else if w = 2 then gcn (S 0) else if w = 3 then gcn (S 1) else if w = 4 then tcn T else -2000000002
def a_dis (n wd : Int) (N : Int → Int → Int) (kd i j : Int) : Int := if (0 ≤ i ∧ i < n) ∧ 0 ≤ j ∧ j < n then (if 0 ≤ kd ∧ kd ≤ 2 then ds wd N kd i j else -2000000002) else -2000000001
/-- the first of the ROWS from r on (m of them) that is the k-th nearest to i -/
def nea (D : Int → Int) (n i k : Int) : Nat → Int → Int
  | 0, _ => -1
  | m + 1, r => if ¬ r = i ∧ nr D n i r = k then r else nea D n i k m (r + 1)
def a_nea (n wd : Int) (N : Int → Int → Int) (kd i k : Int) : Int := if 0 ≤ i ∧ i < n then (if 0 ≤ kd ∧ kd ≤ 2 then nea (ds wd N kd i) n i k n.toNat 0 else -2000000002) else -2000000001
def a_med (mm : Int) (md : Int → Int) (i : Int) : Int := if 0 ≤ i ∧ i < mm then md i else -1
def a_joi (T : Tr) (i w : Int) : Int := if 0 ≤ w ∧ w ≤ 4 then (match T with | none => -2000000003 | some p => if 0 ≤ i ∧ i < p.1 then p.2 w i else -1) else -2000000002
def a_of (n : Int) (S : Sl) (s i : Int) : Int := if 0 ≤ i ∧ i < n then (if 0 ≤ s ∧ s ≤ 1 then (match S s with | none => -2000000003 | some p => p.1 i) else -2000000002) else -2000000001
def rfS (S : Sl) (s k : Int) : Int := if 0 ≤ s ∧ s ≤ 1 then (match S s with | none => -2000000003 | some p => if 0 ≤ k ∧ k < p.2 then 0 else -2000000001) else -2000000002
def gof (o : Option ((Int → Int) × Int)) : Int → Int := match o with
  | none => fun _ => 0
  | some p => p.1
def a_siz (n : Int) (S : Sl) (s k : Int) : Int := if rfS S s k = 0 then cn (gof (S s)) n k else rfS S s k
def a_mea (n wd : Int) (N : Int → Int → Int) (S : Sl) (s k x e : Int) : Int := if rfS S s k = 0 then (if (0 ≤ x ∧ x < wd) ∧ 0 ≤ e ∧ e ≤ 1 then (if cn (gof (S s)) n k = 0 then e else if e = 0 then (sg (gof (S s)) n k (fun r => N r x)).tdiv (gc (sg (gof (S s)) n k (fun r => N r x)) (cn (gof (S s)) n k)) else (cn (gof (S s)) n k).tdiv (gc (sg (gof (S s)) n k (fun r => N r x)) (cn (gof (S s)) n k))) else -2000000002) else rfS S s k
set_option maxHeartbeats 4000000 in
set_option maxRecDepth 100000 in
theorem k_X8_columns (c : qC) (n wd : Int) (N : Int → Int → Int) (S : Sl) (mm : Int) (md : Int → Int) (T : Tr) (hS : TS c n wd N S mm md T) (a : Int) (a0 : iR a) : qN X8_columns 1 [qP 39, qI a] c (pI (fun z c' => z = a_col n a ∧ TS c' n (w_col n wd a) N S mm md T ∧ FrT c c')) := by
  have hS0 := hS
  obtain ⟨hM, hSl, hMd, hTr⟩ := hS
  have hM0 := hM
  obtain ⟨t1, t2, t3, t4, t5, t6⟩ := hM
  refine qN.of [some (qP 39), some (qI a)] (by decide) rfl (fun _ => rfl) (fun _ => Nat.le_of_ble_eq_true rfl) ?_
  refine g_iload_n (i := 1) dX8_columns_0 rfl rfl ?_
  refine g_iconst dX8_columns_1 ?_
  refine g_iconst dX8_columns_2 ?_
  refine n_callSi (k_X8_within _ _ _ _ (by omega) (by omega) (by omega)) dX8_columns_3 lk8_85 sm_X8_within rfl rfl rfl (Nat.le_of_ble_eq_true rfl) (fun z c' hz => ?_)
  obtain ⟨hz2, hz⟩ := hz
  have hz2 := hz2.symm
  subst hz2
  refine g_if_ne 12 dX8_columns_6 (by decide) (fun b6 => ?_) (fun b6 => ?_)
  · skip
    refine g_aload_n (i := 0) dX8_columns_12 rfl rfl ?_
    refine g_getI (ji := 0) dX8_columns_13 fl8_82 (by first | rfl | assumption) (by first | decide | (show _ < 62; omega)) (by first | rfl | assumption) (by decide) rfl (by first | assumption | rfl) ?_
    refine g_if_le 22 dX8_columns_16 (by decide) (fun b16 => ?_) (fun b16 => ?_)
    · skip
      refine g_aload_n (i := 0) dX8_columns_22 rfl rfl ?_
      refine g_iload_n (i := 1) dX8_columns_23 rfl rfl ?_
      refine g_putI 1 dX8_columns_24 fl8_7 fw8_1 (by first | rfl | assumption) (by first | decide | (show _ < 62; omega)) (by first | rfl | assumption) (by decide) rfl ?_
      refine g_iconst dX8_columns_27 ?_
      exact n_reti dX8_columns_28 rfl (⟨by unfold a_col; rw [if_pos (by omega), if_neg (by omega)], by
      have hn : n = 0 := by omega
      unfold w_col
      rw [if_pos (by omega)]
      refine ⟨⟨t1, rfl, t3, by omega, fun i x i0 i1 => by omega, fun i i0 i1 => by omega⟩, hSl, hMd, hTr⟩, fun k hk => qu_ne (by omega)⟩)
    · skip
      refine g_ldc (z := -2000000003) dX8_columns_19 cw8_97 ?_
      exact n_reti dX8_columns_21 rfl (⟨by unfold a_col; rw [if_pos (by omega), if_pos (by omega)], by unfold w_col; rw [if_neg (by omega)]; exact hS0, FrT.rf c⟩)
  · skip
    refine g_ldc (z := -2000000002) dX8_columns_9 cw8_96 ?_
    exact n_reti dX8_columns_11 rfl (⟨by unfold a_col; rw [if_neg (by omega)], by unfold w_col; rw [if_neg (by omega)]; exact hS0, FrT.rf c⟩)
set_option maxHeartbeats 4000000 in
set_option maxRecDepth 100000 in
theorem k_X8_row (c : qC) (n wd : Int) (N : Int → Int → Int) (S : Sl) (mm : Int) (md : Int → Int) (T : Tr) (hS : TS c n wd N S mm md T) (a b e f : Int) (a0 : iR a) (b0 : iR b) (e0 : iR e) (f0 : iR f) : qN X8_row 1 [qP 39, qI a, qI b, qI e, qI f] c (pI (fun z c' => (inb wd a b e f → n < 30 → z = n ∧ TS c' (n + 1) wd (nw N n a b e f) (fun _ => none) 0 md none) ∧ (inb wd a b e f → ¬ n < 30 → z = -2000000004 ∧ TS c' n wd N S mm md T) ∧ (¬ inb wd a b e f → z = -2000000002 ∧ TS c' n wd N S mm md T) ∧ FrT c c')) := by
  have hS0 := hS
  obtain ⟨hM, hSl, hMd, hTr⟩ := hS
  have hM0 := hM
  obtain ⟨t1, t2, t3, t4, t5, t6⟩ := hM
  refine qN.of [some (qP 39), some (qI a), some (qI b), some (qI e), some (qI f), none] (by decide) rfl (fun _ => rfl) (fun _ => Nat.le_of_ble_eq_true rfl) ?_
  have J82 : ∀ (z : Int), ((z = 1 ∧ inb wd a b e f) ∨ (z = 0 ∧ ¬ inb wd a b e f)) → qG (qYn X8_row 1 (pI (fun z c' => (inb wd a b e f → n < 30 → z = n ∧ TS c' (n + 1) wd (nw N n a b e f) (fun _ => none) 0 md none) ∧ (inb wd a b e f → ¬ n < 30 → z = -2000000004 ∧ TS c' n wd N S mm md T) ∧ (¬ inb wd a b e f → z = -2000000002 ∧ TS c' n wd N S mm md T) ∧ FrT c c'))) wN 82 [some (qP 39), some (qI a), some (qI b), some (qI e), some (qI f), none] [qI z] c := by
    intro z hz
    refine g_istore5 dX8_row_82 rfl ?_
    refine g_iload dX8_row_84 rfl ?_
    have hzb : z = 0 ∨ z = 1 := by omega
    refine g_if_ne 92 dX8_row_86 (by decide) (fun b86 => ?_) (fun b86 => ?_)
    · skip
      have hyi : inb wd a b e f := hz.elim (fun q => q.2) (fun q => absurd q.1 (by omega))
      refine g_aload_n (i := 0) dX8_row_92 rfl rfl ?_
      refine g_getI (ji := 0) dX8_row_93 fl8_82 (by first | rfl | assumption) (by first | decide | (show _ < 62; omega)) (by first | rfl | assumption) (by decide) rfl (by first | assumption | rfl) ?_
      refine g_bipush dX8_row_96 (by decide) ?_
      refine g_icmp_ne 104 dX8_row_98 (by decide) (fun b98 => ?_) (fun b98 => ?_)
      · skip
        refine g_aload_n (i := 0) dX8_row_104 rfl rfl ?_
        refine g_getP dX8_row_105 fl8_13 (by first | rfl | assumption) (by first | decide | (show _ < 62; omega)) (by first | rfl | assumption) ?_
        refine g_iconst dX8_row_108 ?_
        refine g_aload_n (i := 0) dX8_row_109 rfl rfl ?_
        refine g_getI (ji := 0) dX8_row_110 fl8_82 (by first | rfl | assumption) (by first | decide | (show _ < 62; omega)) (by first | rfl | assumption) (by decide) rfl (by first | assumption | rfl) ?_
        refine g_imul dX8_row_113 ?_
        refine g_iload_n (i := 1) dX8_row_114 rfl rfl ?_
        refine g_iastore dX8_row_115 (by first | rfl | assumption) (by first | decide | (show _ < 62; omega)) ?_
        refine g_aload_n (i := 0) dX8_row_116 rfl rfl ?_
        refine g_getP dX8_row_117 fl8_13 (by first | rfl | assumption) (by first | decide | (show _ < 62; omega)) (by first | rfl | assumption) ?_
        refine g_iconst dX8_row_120 ?_
        refine g_aload_n (i := 0) dX8_row_121 rfl rfl ?_
        refine g_getI (ji := 0) dX8_row_122 fl8_82 (by first | rfl | assumption) (by first | decide | (show _ < 62; omega)) (by first | rfl | assumption) (by decide) rfl (by first | assumption | rfl) ?_
        refine g_imul dX8_row_125 ?_
        refine g_iconst dX8_row_126 ?_
        refine g_iadd dX8_row_127 ?_
        refine g_iload_n (i := 2) dX8_row_128 rfl rfl ?_
        refine g_iastore dX8_row_129 (by first | rfl | assumption) (by first | decide | (show _ < 62; omega)) ?_
        refine g_aload_n (i := 0) dX8_row_130 rfl rfl ?_
        refine g_getP dX8_row_131 fl8_13 (by first | rfl | assumption) (by first | decide | (show _ < 62; omega)) (by first | rfl | assumption) ?_
        refine g_iconst dX8_row_134 ?_
        refine g_aload_n (i := 0) dX8_row_135 rfl rfl ?_
        refine g_getI (ji := 0) dX8_row_136 fl8_82 (by first | rfl | assumption) (by first | decide | (show _ < 62; omega)) (by first | rfl | assumption) (by decide) rfl (by first | assumption | rfl) ?_
        refine g_imul dX8_row_139 ?_
        refine g_iconst dX8_row_140 ?_
        refine g_iadd dX8_row_141 ?_
        refine g_iload_n (i := 3) dX8_row_142 rfl rfl ?_
        refine g_iastore dX8_row_143 (by first | rfl | assumption) (by first | decide | (show _ < 62; omega)) ?_
        refine g_aload_n (i := 0) dX8_row_144 rfl rfl ?_
        refine g_getP dX8_row_145 fl8_13 (by first | rfl | assumption) (by first | decide | (show _ < 62; omega)) (by first | rfl | assumption) ?_
        refine g_iconst dX8_row_148 ?_
        refine g_aload_n (i := 0) dX8_row_149 rfl rfl ?_
        refine g_getI (ji := 0) dX8_row_150 fl8_82 (by first | rfl | assumption) (by first | decide | (show _ < 62; omega)) (by first | rfl | assumption) (by decide) rfl (by first | assumption | rfl) ?_
        refine g_imul dX8_row_153 ?_
        refine g_iconst dX8_row_154 ?_
        refine g_iadd dX8_row_155 ?_
        refine g_iload dX8_row_156 rfl ?_
        refine g_iastore dX8_row_158 (by first | rfl | assumption) (by first | decide | (show _ < 62; omega)) ?_
        refine g_aload_n (i := 0) dX8_row_159 rfl rfl ?_
        refine g_dup dX8_row_160 rfl ?_
        refine g_getI (ji := 0) dX8_row_161 fl8_82 (by first | rfl | assumption) (by first | decide | (show _ < 62; omega)) (by first | rfl | assumption) (by decide) rfl (by first | assumption | rfl) ?_
        refine g_iconst dX8_row_164 ?_
        refine g_iadd dX8_row_165 ?_
        refine g_putI 0 dX8_row_166 fl8_82 fw8_0 (by first | rfl | assumption) (by first | decide | (show _ < 62; omega)) (by first | rfl | assumption) (by decide) rfl ?_
        refine g_aload_n (i := 0) dX8_row_169 rfl rfl ?_
        refine n_callVv (k_X8_forget _) dX8_row_170 lk8_99 im_X8_forget (by first | rfl | assumption) (by first | decide | (show _ < 62; omega)) rfl rfl rfl rfl (Nat.le_of_ble_eq_true rfl) (fun c' hz => ?_)
        subst hz
        refine g_aload_n (i := 0) dX8_row_173 rfl rfl ?_
        refine g_getI (ji := 0) dX8_row_174 fl8_82 (by first | rfl | assumption) (by first | decide | (show _ < 62; omega)) (by first | rfl | assumption) (by decide) rfl (by first | assumption | rfl) ?_
        refine g_iconst dX8_row_177 ?_
        refine g_isub dX8_row_178 ?_
        exact n_reti dX8_row_179 rfl (⟨fun _ _ => ⟨by show n + 1 - 1 = n; omega, ⟨rfl, t2, by omega, t4, fun i x i0 i1 x0 x1 => by
      show qu (qu (qu (qu c 40 (4 * n) a) 40 (4 * n + 1) b) 40 (4 * n + 2) e) 40 (4 * n + 3) f 40 (4 * i + x) = _
      by_cases hi : i = n
      · subst hi
        rw [qu_at, qu_at, qu_at, qu_at]
        unfold nw
        rw [if_pos rfl]
        obtain rfl | rfl | rfl | rfl : x = 0 ∨ x = 1 ∨ x = 2 ∨ x = 3 := by omega
        · rw [if_neg (by omega), if_neg (by omega), if_neg (by omega), if_pos (by omega), if_pos rfl]
        · rw [if_neg (by omega), if_neg (by omega), if_pos (by omega), if_neg (by omega), if_pos rfl]
        · rw [if_neg (by omega), if_pos (by omega), if_neg (by omega), if_neg (by omega), if_pos rfl]
        · rw [if_pos (by omega), if_neg (by omega), if_neg (by omega), if_neg (by omega)]
      · rw [nw_ne hi, qu_off (by omega), qu_off (by omega), qu_off (by omega), qu_off (by omega)]
        exact t5 i x i0 (by omega) x0 x1, fun i i0 i1 => by
      by_cases hi : i = n
      · subst hi
        intro x x0 x1
        unfold nw
        rw [if_pos rfl]
        unfold inb at hyi
        obtain rfl | rfl | rfl | rfl : x = 0 ∨ x = 1 ∨ x = 2 ∨ x = 3 := by omega
        · rw [if_pos rfl]; omega
        · rw [if_neg (by omega), if_pos rfl]; omega
        · rw [if_neg (by omega), if_neg (by omega), if_pos rfl]; omega
        · rw [if_neg (by omega), if_neg (by omega), if_neg (by omega)]; omega
      · intro x x0 x1; rw [nw_ne hi]; exact t6 i i0 (by omega) x x0 x1⟩, fun s s0 s1 => by
      obtain rfl | rfl : s = 0 ∨ s = 1 := by omega
      · rfl
      · rfl, ⟨rfl, by omega, fun i i0 i1 => by omega⟩, rfl⟩, fun _ q => absurd (show n < 30 by omega) q, fun q => absurd hyi q, fun k hk => by
      unfold fg
      rw [qu_ne (by omega), qu_ne (by omega), qu_ne (by omega), qu_ne (by omega), qu_ne (by omega), qu_ne (by omega), qu_ne (by omega), qu_ne (by omega), qu_ne (by omega)]⟩)
      · skip
        refine g_ldc (z := -2000000004) dX8_row_101 cw8_98 ?_
        exact n_reti dX8_row_103 rfl (⟨fun _ q => by omega, fun _ _ => ⟨rfl, hS0⟩, fun q => absurd hyi q, FrT.rf c⟩)
    · skip
      have hni : ¬ inb wd a b e f := hz.elim (fun q => absurd q.1 (by omega)) (fun q => q.2)
      refine g_ldc (z := -2000000002) dX8_row_89 cw8_96 ?_
      exact n_reti dX8_row_91 rfl (⟨fun q => absurd q hni, fun q => absurd q hni, fun _ => ⟨rfl, hS0⟩, FrT.rf c⟩)
  have J55 : ∀ (_ : True), ((-1000 ≤ a ∧ a ≤ 1000) ∧ (wd < 2 ∨ (-1000 ≤ b ∧ b ≤ 1000)) ∧ (wd < 3 ∨ (-1000 ≤ e ∧ e ≤ 1000))) → qG (qYn X8_row 1 (pI (fun z c' => (inb wd a b e f → n < 30 → z = n ∧ TS c' (n + 1) wd (nw N n a b e f) (fun _ => none) 0 md none) ∧ (inb wd a b e f → ¬ n < 30 → z = -2000000004 ∧ TS c' n wd N S mm md T) ∧ (¬ inb wd a b e f → z = -2000000002 ∧ TS c' n wd N S mm md T) ∧ FrT c c'))) wN 55 [some (qP 39), some (qI a), some (qI b), some (qI e), some (qI f), none] [] c := by
    intro _ h1
    refine g_aload_n (i := 0) dX8_row_55 rfl rfl ?_
    refine g_getI (ji := 1) dX8_row_56 fl8_7 (by first | rfl | assumption) (by first | decide | (show _ < 62; omega)) (by first | rfl | assumption) (by decide) rfl (by first | assumption | rfl) ?_
    refine g_iconst dX8_row_59 ?_
    refine g_icmp_lt 77 dX8_row_60 (by decide) (fun b60 => ?_) (fun b60 => ?_)
    · skip
      refine g_iconst dX8_row_77 ?_
      refine g_goto 82 dX8_row_78 (by decide) ?_
      exact J82 _ (by unfold inb; omega)
    · skip
      refine g_iload dX8_row_63 rfl ?_
      refine g_sipush dX8_row_65 (by decide) ?_
      refine g_sipush dX8_row_68 (by decide) ?_
      refine n_callSi (k_X8_within _ _ _ _ (by omega) (by omega) (by omega)) dX8_row_71 lk8_85 sm_X8_within rfl rfl rfl (Nat.le_of_ble_eq_true rfl) (fun z c' hz => ?_)
      obtain ⟨hz2, hz⟩ := hz
      have hz2 := hz2.symm
      subst hz2
      refine g_if_eq 81 dX8_row_74 (by decide) (fun b74 => ?_) (fun b74 => ?_)
      · skip
        refine g_iconst dX8_row_81 ?_
        exact J82 _ (by unfold inb; omega)
      · skip
        refine g_iconst dX8_row_77 ?_
        refine g_goto 82 dX8_row_78 (by decide) ?_
        exact J82 _ (by unfold inb; omega)
  have J34 : ∀ (_ : True), ((-1000 ≤ a ∧ a ≤ 1000) ∧ (wd < 2 ∨ (-1000 ≤ b ∧ b ≤ 1000))) → qG (qYn X8_row 1 (pI (fun z c' => (inb wd a b e f → n < 30 → z = n ∧ TS c' (n + 1) wd (nw N n a b e f) (fun _ => none) 0 md none) ∧ (inb wd a b e f → ¬ n < 30 → z = -2000000004 ∧ TS c' n wd N S mm md T) ∧ (¬ inb wd a b e f → z = -2000000002 ∧ TS c' n wd N S mm md T) ∧ FrT c c'))) wN 34 [some (qP 39), some (qI a), some (qI b), some (qI e), some (qI f), none] [] c := by
    intro _ h1
    refine g_aload_n (i := 0) dX8_row_34 rfl rfl ?_
    refine g_getI (ji := 1) dX8_row_35 fl8_7 (by first | rfl | assumption) (by first | decide | (show _ < 62; omega)) (by first | rfl | assumption) (by decide) rfl (by first | assumption | rfl) ?_
    refine g_iconst dX8_row_38 ?_
    refine g_icmp_lt 55 dX8_row_39 (by decide) (fun b39 => ?_) (fun b39 => ?_)
    · skip
      exact J55 trivial (by omega)
    · skip
      refine g_iload_n (i := 3) dX8_row_42 rfl rfl ?_
      refine g_sipush dX8_row_43 (by decide) ?_
      refine g_sipush dX8_row_46 (by decide) ?_
      refine n_callSi (k_X8_within _ _ _ _ (by omega) (by omega) (by omega)) dX8_row_49 lk8_85 sm_X8_within rfl rfl rfl (Nat.le_of_ble_eq_true rfl) (fun z c' hz => ?_)
      obtain ⟨hz2, hz⟩ := hz
      have hz2 := hz2.symm
      subst hz2
      refine g_if_eq 81 dX8_row_52 (by decide) (fun b52 => ?_) (fun b52 => ?_)
      · skip
        refine g_iconst dX8_row_81 ?_
        exact J82 _ (by unfold inb; omega)
      · skip
        exact J55 trivial (by omega)
  refine g_iload_n (i := 1) dX8_row_0 rfl rfl ?_
  refine g_sipush dX8_row_1 (by decide) ?_
  refine g_sipush dX8_row_4 (by decide) ?_
  refine n_callSi (k_X8_within _ _ _ _ (by omega) (by omega) (by omega)) dX8_row_7 lk8_85 sm_X8_within rfl rfl rfl (Nat.le_of_ble_eq_true rfl) (fun z c' hz => ?_)
  obtain ⟨hz2, hz⟩ := hz
  have hz2 := hz2.symm
  subst hz2
  refine g_if_eq 81 dX8_row_10 (by decide) (fun b10 => ?_) (fun b10 => ?_)
  · skip
    refine g_iconst dX8_row_81 ?_
    exact J82 _ (by unfold inb; omega)
  · skip
    refine g_aload_n (i := 0) dX8_row_13 rfl rfl ?_
    refine g_getI (ji := 1) dX8_row_14 fl8_7 (by first | rfl | assumption) (by first | decide | (show _ < 62; omega)) (by first | rfl | assumption) (by decide) rfl (by first | assumption | rfl) ?_
    refine g_iconst dX8_row_17 ?_
    refine g_icmp_lt 34 dX8_row_18 (by decide) (fun b18 => ?_) (fun b18 => ?_)
    · skip
      exact J34 trivial (by omega)
    · skip
      refine g_iload_n (i := 2) dX8_row_21 rfl rfl ?_
      refine g_sipush dX8_row_22 (by decide) ?_
      refine g_sipush dX8_row_25 (by decide) ?_
      refine n_callSi (k_X8_within _ _ _ _ (by omega) (by omega) (by omega)) dX8_row_28 lk8_85 sm_X8_within rfl rfl rfl (Nat.le_of_ble_eq_true rfl) (fun z c' hz => ?_)
      obtain ⟨hz2, hz⟩ := hz
      have hz2 := hz2.symm
      subst hz2
      refine g_if_eq 81 dX8_row_31 (by decide) (fun b31 => ?_) (fun b31 => ?_)
      · skip
        refine g_iconst dX8_row_81 ?_
        exact J82 _ (by unfold inb; omega)
      · skip
        exact J34 trivial (by omega)
set_option maxHeartbeats 4000000 in
set_option maxRecDepth 100000 in
theorem k_X8_clear (c : qC) (n wd : Int) (N : Int → Int → Int) (S : Sl) (mm : Int) (md : Int → Int) (T : Tr) (hS : TS c n wd N S mm md T)  : qN X8_clear 1 [qP 39] c (pI (fun z c' => z = n ∧ TS c' 0 wd N (fun _ => none) 0 md none ∧ FrT c c')) := by
  have hS0 := hS
  obtain ⟨hM, hSl, hMd, hTr⟩ := hS
  have hM0 := hM
  obtain ⟨t1, t2, t3, t4, t5, t6⟩ := hM
  refine qN.of [some (qP 39), none] (by decide) rfl (fun _ => rfl) (fun _ => Nat.le_of_ble_eq_true rfl) ?_
  refine g_aload_n (i := 0) dX8_clear_0 rfl rfl ?_
  refine g_getI (ji := 0) dX8_clear_1 fl8_82 (by first | rfl | assumption) (by first | decide | (show _ < 62; omega)) (by first | rfl | assumption) (by decide) rfl (by first | assumption | rfl) ?_
  refine g_istore_n1 dX8_clear_4 rfl ?_
  refine g_aload_n (i := 0) dX8_clear_5 rfl rfl ?_
  refine g_iconst dX8_clear_6 ?_
  refine g_putI 0 dX8_clear_7 fl8_82 fw8_0 (by first | rfl | assumption) (by first | decide | (show _ < 62; omega)) (by first | rfl | assumption) (by decide) rfl ?_
  refine g_aload_n (i := 0) dX8_clear_10 rfl rfl ?_
  refine n_callVv (k_X8_forget _) dX8_clear_11 lk8_99 im_X8_forget (by first | rfl | assumption) (by first | decide | (show _ < 62; omega)) rfl rfl rfl rfl (Nat.le_of_ble_eq_true rfl) (fun c' hz => ?_)
  subst hz
  refine g_iload_n (i := 1) dX8_clear_14 rfl rfl ?_
  exact n_reti dX8_clear_15 rfl (⟨rfl, ⟨⟨rfl, t2, by omega, t4, fun i x i0 i1 => by omega, fun i i0 i1 => by omega⟩, fun s s0 s1 => by
      obtain rfl | rfl : s = 0 ∨ s = 1 := by omega
      · rfl
      · rfl, ⟨rfl, by omega, fun i i0 i1 => by omega⟩, rfl⟩, fun k hk => by
      unfold fg
      rw [qu_ne (by omega), qu_ne (by omega), qu_ne (by omega), qu_ne (by omega), qu_ne (by omega)]⟩)
set_option maxHeartbeats 4000000 in
set_option maxRecDepth 100000 in
theorem k_X8_count (c : qC) (n wd : Int) (N : Int → Int → Int) (S : Sl) (mm : Int) (md : Int → Int) (T : Tr) (hS : TS c n wd N S mm md T) (w : Int) (w0 : iR w) : qN X8_count 1 [qP 39, qI w] c (pI (fun z c' => z = a_cnt n wd S T w ∧ TS c' n wd N S mm md T ∧ FrT c c')) := by
  have hS0 := hS
  obtain ⟨hM, hSl, hMd, hTr⟩ := hS
  have hM0 := hM
  obtain ⟨t1, t2, t3, t4, t5, t6⟩ := hM
  refine qN.of [some (qP 39), some (qI w)] (by decide) rfl (fun _ => rfl) (fun _ => Nat.le_of_ble_eq_true rfl) ?_
  refine g_iload_n (i := 1) dX8_count_0 rfl rfl ?_
  rcases (show (w < 0 ∨ 3 < w) ∨ w = 0 ∨ w = 1 ∨ w = 2 ∨ w = 3 by omega) with hsw | rfl | rfl | rfl | rfl
  · refine g_tableOut 66 dX8_count_1 hsw (by decide) ?_
    refine g_iload_n (i := 1) dX8_count_66 rfl rfl ?_
    refine g_iconst dX8_count_67 ?_
    refine g_icmp_eq 76 dX8_count_68 (by decide) (fun b68 => ?_) (fun b68 => ?_)
    · skip
      refine g_aload_n (i := 0) dX8_count_76 rfl rfl ?_
      have hbt := hTr.b
      refine g_getI (ji := 8) dX8_count_77 fl8_92 (by first | rfl | assumption) (by first | decide | (show _ < 62; omega)) (by first | rfl | assumption) (by decide) rfl (by first | assumption | rfl) ?_
      refine g_if_eq 90 dX8_count_80 (by decide) (fun b80 => ?_) (fun b80 => ?_)
      · skip
        refine g_iconst dX8_count_90 ?_
        exact n_reti dX8_count_91 rfl (⟨by first
      | (unfold a_cnt; rw [if_neg (by omega), if_neg (by omega), if_neg (by omega), if_neg (by omega), if_neg (by omega)])
      | (have h := hTr.no b80; unfold a_cnt; rw [if_neg (by omega), if_neg (by omega), if_neg (by omega), if_neg (by omega), if_pos (by omega), h]; rfl)
      | (obtain ⟨jn, J, h, h2, -⟩ := hTr.yes b80; unfold a_cnt; rw [if_neg (by omega), if_neg (by omega), if_neg (by omega), if_neg (by omega), if_pos (by omega), h]; exact h2), hS0, FrT.rf c⟩)
      · skip
        refine g_aload_n (i := 0) dX8_count_83 rfl rfl ?_
        refine g_getI (ji := 9) dX8_count_84 fl8_102 (by first | rfl | assumption) (by first | decide | (show _ < 62; omega)) (by first | rfl | assumption) (by decide) rfl (by first | assumption | rfl) ?_
        refine g_goto 91 dX8_count_87 (by decide) ?_
        exact n_reti dX8_count_91 rfl (⟨by first
      | (unfold a_cnt; rw [if_neg (by omega), if_neg (by omega), if_neg (by omega), if_neg (by omega), if_neg (by omega)])
      | (have h := hTr.no b80; unfold a_cnt; rw [if_neg (by omega), if_neg (by omega), if_neg (by omega), if_neg (by omega), if_pos (by omega), h]; rfl)
      | (obtain ⟨jn, J, h, h2, -⟩ := hTr.yes b80; unfold a_cnt; rw [if_neg (by omega), if_neg (by omega), if_neg (by omega), if_neg (by omega), if_pos (by omega), h]; exact h2), hS0, FrT.rf c⟩)
    · skip
      refine g_ldc (z := -2000000002) dX8_count_71 cw8_96 ?_
      refine g_goto 91 dX8_count_73 (by decide) ?_
      exact n_reti dX8_count_91 rfl (⟨by first
      | (unfold a_cnt; rw [if_neg (by omega), if_neg (by omega), if_neg (by omega), if_neg (by omega), if_neg (by omega)])
      | (have h := hTr.no b80; unfold a_cnt; rw [if_neg (by omega), if_neg (by omega), if_neg (by omega), if_neg (by omega), if_pos (by omega), h]; rfl)
      | (obtain ⟨jn, J, h, h2, -⟩ := hTr.yes b80; unfold a_cnt; rw [if_neg (by omega), if_neg (by omega), if_neg (by omega), if_neg (by omega), if_pos (by omega), h]; exact h2), hS0, FrT.rf c⟩)
  · refine g_tableIn (off := 31) 32 dX8_count_1 (by decide) (by decide) rfl (by decide) ?_
    refine g_aload_n (i := 0) dX8_count_32 rfl rfl ?_
    refine g_getI (ji := 0) dX8_count_33 fl8_82 (by first | rfl | assumption) (by first | decide | (show _ < 62; omega)) (by first | rfl | assumption) (by decide) rfl (by first | assumption | rfl) ?_
    exact n_reti dX8_count_36 rfl (⟨rfl, hS0, FrT.rf c⟩)
  · refine g_tableIn (off := 36) 37 dX8_count_1 (by decide) (by decide) rfl (by decide) ?_
    refine g_aload_n (i := 0) dX8_count_37 rfl rfl ?_
    refine g_getI (ji := 1) dX8_count_38 fl8_7 (by first | rfl | assumption) (by first | decide | (show _ < 62; omega)) (by first | rfl | assumption) (by decide) rfl (by first | assumption | rfl) ?_
    exact n_reti dX8_count_41 rfl (⟨rfl, hS0, FrT.rf c⟩)
  · refine g_tableIn (off := 41) 42 dX8_count_1 (by decide) (by decide) rfl (by decide) ?_
    have hb0 := (hSl 0 (by omega) (by omega)).b
    have hb1 := (hSl 1 (by omega) (by omega)).b
    refine g_aload_n (i := 0) dX8_count_42 rfl rfl ?_
    refine g_getP dX8_count_43 fl8_17 (by first | rfl | assumption) (by first | decide | (show _ < 62; omega)) (by first | rfl | assumption) ?_
    refine g_iload_n (i := 1) dX8_count_46 rfl rfl ?_
    refine g_iconst dX8_count_47 ?_
    refine g_isub dX8_count_48 ?_
    refine g_baload dX8_count_49 rfl (by decide) ?_
    first | rw [show (2 : Int) - 2 = 0 from rfl] | rw [show (3 : Int) - 2 = 1 from rfl]
    skip -- ?_
    refine g_if_eq 64 dX8_count_50 (by decide) (fun b50 => ?_) (fun b50 => ?_)
    · skip
      refine g_iconst dX8_count_64 ?_
      exact n_reti dX8_count_65 rfl (⟨by first
      | (have h := (hSl 0 (by omega) (by omega)).no b50; unfold a_cnt; rw [h]; rfl)
      | (have h := (hSl 1 (by omega) (by omega)).no b50; unfold a_cnt; rw [h]; rfl)
      | (obtain ⟨g, m, h, h2, -⟩ := (hSl 0 (by omega) (by omega)).yes b50; unfold a_cnt; rw [h]; exact h2)
      | (obtain ⟨g, m, h, h2, -⟩ := (hSl 1 (by omega) (by omega)).yes b50; unfold a_cnt; rw [h]; exact h2), hS0, FrT.rf c⟩)
    · skip
      refine g_aload_n (i := 0) dX8_count_53 rfl rfl ?_
      refine g_getP dX8_count_54 fl8_21 (by first | rfl | assumption) (by first | decide | (show _ < 62; omega)) (by first | rfl | assumption) ?_
      refine g_iload_n (i := 1) dX8_count_57 rfl rfl ?_
      refine g_iconst dX8_count_58 ?_
      refine g_isub dX8_count_59 ?_
      refine g_iaload dX8_count_60 rfl (by decide) ?_
      first | rw [show (2 : Int) - 2 = 0 from rfl] | rw [show (3 : Int) - 2 = 1 from rfl]
      skip -- ?_
      refine g_goto 65 dX8_count_61 (by decide) ?_
      exact n_reti dX8_count_65 rfl (⟨by first
      | (have h := (hSl 0 (by omega) (by omega)).no b50; unfold a_cnt; rw [h]; rfl)
      | (have h := (hSl 1 (by omega) (by omega)).no b50; unfold a_cnt; rw [h]; rfl)
      | (obtain ⟨g, m, h, h2, -⟩ := (hSl 0 (by omega) (by omega)).yes b50; unfold a_cnt; rw [h]; exact h2)
      | (obtain ⟨g, m, h, h2, -⟩ := (hSl 1 (by omega) (by omega)).yes b50; unfold a_cnt; rw [h]; exact h2), hS0, FrT.rf c⟩)
  · refine g_tableIn (off := 41) 42 dX8_count_1 (by decide) (by decide) rfl (by decide) ?_
    have hb0 := (hSl 0 (by omega) (by omega)).b
    have hb1 := (hSl 1 (by omega) (by omega)).b
    refine g_aload_n (i := 0) dX8_count_42 rfl rfl ?_
    refine g_getP dX8_count_43 fl8_17 (by first | rfl | assumption) (by first | decide | (show _ < 62; omega)) (by first | rfl | assumption) ?_
    refine g_iload_n (i := 1) dX8_count_46 rfl rfl ?_
    refine g_iconst dX8_count_47 ?_
    refine g_isub dX8_count_48 ?_
    refine g_baload dX8_count_49 rfl (by decide) ?_
    first | rw [show (2 : Int) - 2 = 0 from rfl] | rw [show (3 : Int) - 2 = 1 from rfl]
    skip -- ?_
    refine g_if_eq 64 dX8_count_50 (by decide) (fun b50 => ?_) (fun b50 => ?_)
    · skip
      refine g_iconst dX8_count_64 ?_
      exact n_reti dX8_count_65 rfl (⟨by first
      | (have h := (hSl 0 (by omega) (by omega)).no b50; unfold a_cnt; rw [h]; rfl)
      | (have h := (hSl 1 (by omega) (by omega)).no b50; unfold a_cnt; rw [h]; rfl)
      | (obtain ⟨g, m, h, h2, -⟩ := (hSl 0 (by omega) (by omega)).yes b50; unfold a_cnt; rw [h]; exact h2)
      | (obtain ⟨g, m, h, h2, -⟩ := (hSl 1 (by omega) (by omega)).yes b50; unfold a_cnt; rw [h]; exact h2), hS0, FrT.rf c⟩)
    · skip
      refine g_aload_n (i := 0) dX8_count_53 rfl rfl ?_
      refine g_getP dX8_count_54 fl8_21 (by first | rfl | assumption) (by first | decide | (show _ < 62; omega)) (by first | rfl | assumption) ?_
      refine g_iload_n (i := 1) dX8_count_57 rfl rfl ?_
      refine g_iconst dX8_count_58 ?_
      refine g_isub dX8_count_59 ?_
      refine g_iaload dX8_count_60 rfl (by decide) ?_
      first | rw [show (2 : Int) - 2 = 0 from rfl] | rw [show (3 : Int) - 2 = 1 from rfl]
      skip -- ?_
      refine g_goto 65 dX8_count_61 (by decide) ?_
      exact n_reti dX8_count_65 rfl (⟨by first
      | (have h := (hSl 0 (by omega) (by omega)).no b50; unfold a_cnt; rw [h]; rfl)
      | (have h := (hSl 1 (by omega) (by omega)).no b50; unfold a_cnt; rw [h]; rfl)
      | (obtain ⟨g, m, h, h2, -⟩ := (hSl 0 (by omega) (by omega)).yes b50; unfold a_cnt; rw [h]; exact h2)
      | (obtain ⟨g, m, h, h2, -⟩ := (hSl 1 (by omega) (by omega)).yes b50; unfold a_cnt; rw [h]; exact h2), hS0, FrT.rf c⟩)
set_option maxHeartbeats 4000000 in
set_option maxRecDepth 100000 in
theorem k_X8_distance (c : qC) (n wd : Int) (N : Int → Int → Int) (S : Sl) (mm : Int) (md : Int → Int) (T : Tr) (hS : TS c n wd N S mm md T) (kd i j : Int) (d0 : iR kd) (i0 : iR i) (j0 : iR j) : qN X8_distance 2 [qP 39, qI kd, qI i, qI j] c (pI (fun z c' => z = a_dis n wd N kd i j ∧ TS c' n wd N S mm md T ∧ FrT c c')) := by
  have hS0 := hS
  obtain ⟨hM, hSl, hMd, hTr⟩ := hS
  have hM0 := hM
  obtain ⟨t1, t2, t3, t4, t5, t6⟩ := hM
  refine qN.of [some (qP 39), some (qI kd), some (qI i), some (qI j)] (by decide) rfl (fun _ => rfl) (fun _ => Nat.le_of_ble_eq_true rfl) ?_
  refine g_aload_n (i := 0) dX8_distance_0 rfl rfl ?_
  refine g_iload_n (i := 2) dX8_distance_1 rfl rfl ?_
  refine n_callVi (k_X8_isRow _ _ _ (by assumption) (by omega) (by omega)) dX8_distance_2 lk8_109 im_X8_isRow (by first | rfl | assumption) (by first | decide | (show _ < 62; omega)) rfl rfl rfl rfl (Nat.le_of_ble_eq_true rfl) (fun z c' hz => ?_)
  obtain ⟨hz2, hz⟩ := hz
  have hz2 := hz2.symm
  subst hz2
  refine g_if_eq 16 dX8_distance_5 (by decide) (fun b5 => ?_) (fun b5 => ?_)
  · skip
    refine g_ldc (z := -2000000001) dX8_distance_16 cw8_113 ?_
    exact n_reti dX8_distance_18 rfl (⟨by unfold a_dis; rw [if_neg (by omega)], hS0, FrT.rf c⟩)
  · skip
    refine g_aload_n (i := 0) dX8_distance_8 rfl rfl ?_
    refine g_iload_n (i := 3) dX8_distance_9 rfl rfl ?_
    refine n_callVi (k_X8_isRow _ _ _ (by assumption) (by omega) (by omega)) dX8_distance_10 lk8_109 im_X8_isRow (by first | rfl | assumption) (by first | decide | (show _ < 62; omega)) rfl rfl rfl rfl (Nat.le_of_ble_eq_true rfl) (fun z c' hz => ?_)
    obtain ⟨hz2, hz⟩ := hz
    have hz2 := hz2.symm
    subst hz2
    refine g_if_ne 19 dX8_distance_13 (by decide) (fun b13 => ?_) (fun b13 => ?_)
    · skip
      refine g_iload_n (i := 1) dX8_distance_19 rfl rfl ?_
      refine g_iconst dX8_distance_20 ?_
      refine g_iconst dX8_distance_21 ?_
      refine n_callSi (k_X8_within _ _ _ _ (by omega) (by omega) (by omega)) dX8_distance_22 lk8_85 sm_X8_within rfl rfl rfl (Nat.le_of_ble_eq_true rfl) (fun z c' hz => ?_)
      obtain ⟨hz2, hz⟩ := hz
      have hz2 := hz2.symm
      subst hz2
      refine g_if_eq 38 dX8_distance_25 (by decide) (fun b25 => ?_) (fun b25 => ?_)
      · skip
        refine g_ldc (z := -2000000002) dX8_distance_38 cw8_96 ?_
        exact n_reti dX8_distance_40 rfl (⟨by unfold a_dis; first | (rw [if_pos (by omega), if_pos (by omega)]) | (rw [if_pos (by omega), if_neg (by omega)]), hS0, FrT.rf c⟩)
      · skip
        refine g_aload_n (i := 0) dX8_distance_28 rfl rfl ?_
        refine g_iload_n (i := 1) dX8_distance_29 rfl rfl ?_
        refine g_iload_n (i := 2) dX8_distance_30 rfl rfl ?_
        refine g_iload_n (i := 3) dX8_distance_31 rfl rfl ?_
        refine n_callVi (k_X8_apart _ n wd _ _ _ N hM0 (by omega) (by omega) (by omega) (by omega) (by omega) (by omega)) dX8_distance_32 lk8_105 im_X8_apart (by first | rfl | assumption) (by first | decide | (show _ < 62; omega)) rfl rfl rfl rfl (Nat.le_of_ble_eq_true rfl) (fun z c' hz => ?_)
        obtain ⟨rfl, hz2⟩ := hz
        have hz2 := hz2.symm
        subst hz2
        refine g_goto 40 dX8_distance_35 (by decide) ?_
        exact n_reti dX8_distance_40 rfl (⟨by unfold a_dis; first | (rw [if_pos (by omega), if_pos (by omega)]) | (rw [if_pos (by omega), if_neg (by omega)]), hS0, FrT.rf c⟩)
    · skip
      refine g_ldc (z := -2000000001) dX8_distance_16 cw8_113 ?_
      exact n_reti dX8_distance_18 rfl (⟨by unfold a_dis; rw [if_neg (by omega)], hS0, FrT.rf c⟩)
set_option maxHeartbeats 4000000 in
set_option maxRecDepth 100000 in
theorem k_X8_near (c : qC) (n wd : Int) (N : Int → Int → Int) (S : Sl) (mm : Int) (md : Int → Int) (T : Tr) (hS : TS c n wd N S mm md T) (kd i k : Int) (d0 : iR kd) (i0 : iR i) (k0 : iR k) : qN X8_near 2 [qP 39, qI kd, qI i, qI k] c (pI (fun z c' => z = a_nea n wd N kd i k ∧ TS c' n wd N S mm md T ∧ FrT c c')) := by
  have hS0 := hS
  obtain ⟨hM, hSl, hMd, hTr⟩ := hS
  have hM0 := hM
  obtain ⟨t1, t2, t3, t4, t5, t6⟩ := hM
  refine qN.of [some (qP 39), some (qI kd), some (qI i), some (qI k), none, none, none, none] (by decide) rfl (fun _ => rfl) (fun _ => Nat.le_of_ble_eq_true rfl) ?_
  refine g_aload_n (i := 0) dX8_near_0 rfl rfl ?_
  refine g_iload_n (i := 2) dX8_near_1 rfl rfl ?_
  refine n_callVi (k_X8_isRow _ _ _ (by assumption) (by omega) (by omega)) dX8_near_2 lk8_109 im_X8_isRow (by first | rfl | assumption) (by first | decide | (show _ < 62; omega)) rfl rfl rfl rfl (Nat.le_of_ble_eq_true rfl) (fun z c' hz => ?_)
  obtain ⟨hz2, hz⟩ := hz
  have hz2 := hz2.symm
  subst hz2
  refine g_if_ne 11 dX8_near_5 (by decide) (fun b5 => ?_) (fun b5 => ?_)
  · skip
    refine g_iload_n (i := 1) dX8_near_11 rfl rfl ?_
    refine g_iconst dX8_near_12 ?_
    refine g_iconst dX8_near_13 ?_
    refine n_callSi (k_X8_within _ _ _ _ (by omega) (by omega) (by omega)) dX8_near_14 lk8_85 sm_X8_within rfl rfl rfl (Nat.le_of_ble_eq_true rfl) (fun z c' hz => ?_)
    obtain ⟨hz2, hz⟩ := hz
    have hz2 := hz2.symm
    subst hz2
    refine g_if_ne 23 dX8_near_17 (by decide) (fun b17 => ?_) (fun b17 => ?_)
    · skip
      refine g_aload_n (i := 0) dX8_near_23 rfl rfl ?_
      refine g_iload_n (i := 1) dX8_near_24 rfl rfl ?_
      refine n_callVv (k_X8_lay _ n wd _ N hM0 (by omega) (by omega)) dX8_near_25 lk8_114 im_X8_lay (by first | rfl | assumption) (by first | decide | (show _ < 62; omega)) rfl rfl rfl rfl (Nat.le_of_ble_eq_true rfl) (fun c1 hz => ?_)
      obtain ⟨hf, hl⟩ := hz
      have hS1 : TS c1 n wd N S mm md T := hS0.fr (fun q q0 q1 => hf q (by omega))
      have hF1 : FrT c c1 := fun q hq => hf q (by omega)
      have r1 : c1 39 0 = n := by rw [hf 39 (by decide)]; exact t1
      have hans : a_nea n wd N kd i k = nea (ds wd N kd i) n i k n.toNat 0 := by unfold a_nea; rw [if_pos (by omega), if_pos (by omega)]
      refine g_iconst dX8_near_28 ?_
      refine g_istore4 dX8_near_29 rfl ?_
      have L31 : ∀ (fu31 : Nat) (r : Int), (n - r).toNat < fu31 → (0 ≤ r) → (r ≤ n) → (a_nea n wd N kd i k = nea (ds wd N kd i) n i k (n - r).toNat r) → qG (qYn X8_near 2 (pI (fun z c' => z = a_nea n wd N kd i k ∧ TS c' n wd N S mm md T ∧ FrT c c'))) wN 31 [some (qP 39), some (qI kd), some (qI i), some (qI k), some (qI r), none, none, none] [] c1 := by
        intro fu31
        induction fu31 with
        | zero => intro r hm; exact absurd hm (Nat.not_lt_zero _)
        | succ fu31 ih31 =>
          intro r hm31 r0 r1b hr
          refine g_iload dX8_near_31 rfl ?_
          refine g_aload_n (i := 0) dX8_near_33 rfl rfl ?_
          refine g_getI (ji := 0) dX8_near_34 fl8_82 (by first | rfl | assumption) (by first | decide | (show _ < 62; omega)) (by first | rfl | assumption) (by decide) rfl (by first | assumption | rfl) ?_
          refine g_icmp_ge 142 dX8_near_37 (by decide) (fun b37 => ?_) (fun b37 => ?_)
          · skip
            refine g_iconst dX8_near_142 ?_
            exact n_reti dX8_near_143 rfl (⟨by rw [hr, show (n - r).toNat = 0 by omega]; rfl, hS1, hF1⟩)
          · skip
            refine g_iconst dX8_near_40 ?_
            refine g_istore5 dX8_near_41 rfl ?_
            refine g_iconst dX8_near_43 ?_
            refine g_istore6 dX8_near_44 rfl ?_
            have L46 : ∀ (fu46 : Nat) (q a : Int), (n - q).toNat < fu46 → (0 ≤ q) → (q ≤ n) → (a = sI (fun q => if q ≠ i ∧ (ds wd N kd i q < ds wd N kd i r ∨ (ds wd N kd i q = ds wd N kd i r ∧ q < r)) then 1 else 0) q) → qG (qYn X8_near 2 (pI (fun z c' => z = a_nea n wd N kd i k ∧ TS c' n wd N S mm md T ∧ FrT c c'))) wN 46 [some (qP 39), some (qI kd), some (qI i), some (qI k), some (qI r), some (qI a), some (qI q), none] [] c1 := by
              intro fu46
              induction fu46 with
              | zero => intro q a hm; exact absurd hm (Nat.not_lt_zero _)
              | succ fu46 ih46 =>
                intro q a hm46 q0 q1 ha
                refine g_iload dX8_near_46 rfl ?_
                refine g_aload_n (i := 0) dX8_near_48 rfl rfl ?_
                refine g_getI (ji := 0) dX8_near_49 fl8_82 (by first | rfl | assumption) (by first | decide | (show _ < 62; omega)) (by first | rfl | assumption) (by decide) rfl (by first | assumption | rfl) ?_
                refine g_icmp_ge 121 dX8_near_52 (by decide) (fun b52 => ?_) (fun b52 => ?_)
                · skip
                  have ha2 : a = nr (ds wd N kd i) n i r := by rw [ha, show q = n by omega]; rfl
                  have hab : 0 ≤ a ∧ a ≤ 30 := by
                    have := sI_bd (f := fun q => if q ≠ i ∧ (ds wd N kd i q < ds wd N kd i r ∨ (ds wd N kd i q = ds wd N kd i r ∧ q < r)) then 1 else 0) (lo := 0) (hi := 1) q0 (fun x _ _ => by split <;> omega)
                    rw [← ha] at this; omega
                  refine g_iload dX8_near_121 rfl ?_
                  refine g_iload_n (i := 2) dX8_near_123 rfl rfl ?_
                  refine g_icmp_eq 136 dX8_near_124 (by decide) (fun b124 => ?_) (fun b124 => ?_)
                  · skip
                    have hno : ¬ (¬ r = i ∧ nr (ds wd N kd i) n i r = k) := by rw [← ha2]; omega
                    refine g_iinc4 dX8_near_136 rfl ?_
                    refine g_goto 31 dX8_near_139 (by decide) ?_
                    refine g_fg5 ?_
                    refine g_fg6 ?_
                    exact ih31 _ (by omega) (by first | assumption | omega) (by first | assumption | omega) (by rw [hr, show (n - r).toNat = (n - (r + 1)).toNat + 1 by omega, nea, if_neg hno])
                  · skip
                    refine g_iload dX8_near_127 rfl ?_
                    refine g_iload_n (i := 3) dX8_near_129 rfl rfl ?_
                    refine g_icmp_ne 136 dX8_near_130 (by decide) (fun b130 => ?_) (fun b130 => ?_)
                    · skip
                      have hno : ¬ (¬ r = i ∧ nr (ds wd N kd i) n i r = k) := by rw [← ha2]; omega
                      refine g_iinc4 dX8_near_136 rfl ?_
                      refine g_goto 31 dX8_near_139 (by decide) ?_
                      refine g_fg5 ?_
                      refine g_fg6 ?_
                      exact ih31 _ (by omega) (by first | assumption | omega) (by first | assumption | omega) (by rw [hr, show (n - r).toNat = (n - (r + 1)).toNat + 1 by omega, nea, if_neg hno])
                    · skip
                      refine g_iload dX8_near_133 rfl ?_
                      exact n_reti dX8_near_135 rfl (⟨by rw [hr, show (n - r).toNat = (n - r - 1).toNat + 1 by omega, nea, if_pos ⟨b124, by rw [← ha2]; exact b130⟩], hS1, hF1⟩)
                · skip
                  refine g_aload_n (i := 0) dX8_near_55 rfl rfl ?_
                  refine g_getP dX8_near_56 fl8_46 (by first | rfl | assumption) (by first | decide | (show _ < 62; omega)) (by first | rfl | assumption) ?_
                  refine g_bipush dX8_near_59 (by decide) ?_
                  refine g_iload_n (i := 2) dX8_near_61 rfl rfl ?_
                  refine g_imul dX8_near_62 ?_
                  refine g_iload dX8_near_63 rfl ?_
                  refine g_iadd dX8_near_65 ?_
                  refine g_iaload dX8_near_66 rfl (by decide) ?_
                  rw [hl i q (by omega) (by omega) q0 (by omega)]
                  have hb1 := hM0.bd (kd := kd) (show 0 ≤ i by omega) (show i < n by omega) q0 (show q < n by omega)
                  skip -- ?_
                  refine g_aload_n (i := 0) dX8_near_67 rfl rfl ?_
                  refine g_getP dX8_near_68 fl8_46 (by first | rfl | assumption) (by first | decide | (show _ < 62; omega)) (by first | rfl | assumption) ?_
                  refine g_bipush dX8_near_71 (by decide) ?_
                  refine g_iload_n (i := 2) dX8_near_73 rfl rfl ?_
                  refine g_imul dX8_near_74 ?_
                  refine g_iload dX8_near_75 rfl ?_
                  refine g_iadd dX8_near_77 ?_
                  refine g_iaload dX8_near_78 rfl (by decide) ?_
                  rw [hl i r (by omega) (by omega) r0 (by omega)]
                  have hb2 := hM0.bd (kd := kd) (show 0 ≤ i by omega) (show i < n by omega) r0 (show r < n by omega)
                  skip -- ?_
                  refine g_isub dX8_near_79 ?_
                  refine g_istore7 dX8_near_80 rfl ?_
                  refine g_iload dX8_near_82 rfl ?_
                  refine g_iload dX8_near_84 rfl ?_
                  refine g_iload_n (i := 2) dX8_near_86 rfl rfl ?_
                  refine g_icmp_eq 111 dX8_near_87 (by decide) (fun b87 => ?_) (fun b87 => ?_)
                  · skip
                    refine g_iconst dX8_near_111 ?_
                    refine g_iadd dX8_near_112 ?_
                    refine g_istore5 dX8_near_113 rfl ?_
                    refine g_iinc6 dX8_near_115 rfl ?_
                    refine g_goto 46 dX8_near_118 (by decide) ?_
                    refine g_fg7 ?_
                    exact ih46 _ _ (by omega) (by first | assumption | omega) (by first | assumption | omega) (by rw [sI_s q0, ha]; first | (rw [if_pos (by omega)]) | (rw [if_neg (by omega)]))
                  · skip
                    refine g_iload dX8_near_90 rfl ?_
                    refine g_if_lt 107 dX8_near_92 (by decide) (fun b92 => ?_) (fun b92 => ?_)
                    · skip
                      refine g_iconst dX8_near_107 ?_
                      refine g_goto 112 dX8_near_108 (by decide) ?_
                      refine g_iadd dX8_near_112 ?_
                      refine g_istore5 dX8_near_113 rfl ?_
                      refine g_iinc6 dX8_near_115 rfl ?_
                      refine g_goto 46 dX8_near_118 (by decide) ?_
                      refine g_fg7 ?_
                      exact ih46 _ _ (by omega) (by first | assumption | omega) (by first | assumption | omega) (by rw [sI_s q0, ha]; first | (rw [if_pos (by omega)]) | (rw [if_neg (by omega)]))
                    · skip
                      refine g_iload dX8_near_95 rfl ?_
                      refine g_if_ne 111 dX8_near_97 (by decide) (fun b97 => ?_) (fun b97 => ?_)
                      · skip
                        refine g_iconst dX8_near_111 ?_
                        refine g_iadd dX8_near_112 ?_
                        refine g_istore5 dX8_near_113 rfl ?_
                        refine g_iinc6 dX8_near_115 rfl ?_
                        refine g_goto 46 dX8_near_118 (by decide) ?_
                        refine g_fg7 ?_
                        exact ih46 _ _ (by omega) (by first | assumption | omega) (by first | assumption | omega) (by rw [sI_s q0, ha]; first | (rw [if_pos (by omega)]) | (rw [if_neg (by omega)]))
                      · skip
                        refine g_iload dX8_near_100 rfl ?_
                        refine g_iload dX8_near_102 rfl ?_
                        refine g_icmp_ge 111 dX8_near_104 (by decide) (fun b104 => ?_) (fun b104 => ?_)
                        · skip
                          refine g_iconst dX8_near_111 ?_
                          refine g_iadd dX8_near_112 ?_
                          refine g_istore5 dX8_near_113 rfl ?_
                          refine g_iinc6 dX8_near_115 rfl ?_
                          refine g_goto 46 dX8_near_118 (by decide) ?_
                          refine g_fg7 ?_
                          exact ih46 _ _ (by omega) (by first | assumption | omega) (by first | assumption | omega) (by rw [sI_s q0, ha]; first | (rw [if_pos (by omega)]) | (rw [if_neg (by omega)]))
                        · skip
                          refine g_iconst dX8_near_107 ?_
                          refine g_goto 112 dX8_near_108 (by decide) ?_
                          refine g_iadd dX8_near_112 ?_
                          refine g_istore5 dX8_near_113 rfl ?_
                          refine g_iinc6 dX8_near_115 rfl ?_
                          refine g_goto 46 dX8_near_118 (by decide) ?_
                          refine g_fg7 ?_
                          exact ih46 _ _ (by omega) (by first | assumption | omega) (by first | assumption | omega) (by rw [sI_s q0, ha]; first | (rw [if_pos (by omega)]) | (rw [if_neg (by omega)]))
            exact L46 _ _ _ (Nat.lt_succ_self _) (by first | assumption | omega) (by first | assumption | omega) rfl
      exact L31 _ _ (Nat.lt_succ_self _) (by first | assumption | omega) (by first | assumption | omega) (by rw [hans, Int.sub_zero])
    · skip
      refine g_ldc (z := -2000000002) dX8_near_20 cw8_96 ?_
      exact n_reti dX8_near_22 rfl (⟨by unfold a_nea; rw [if_pos (by omega), if_neg (by omega)], hS0, FrT.rf c⟩)
  · skip
    refine g_ldc (z := -2000000001) dX8_near_8 cw8_113 ?_
    exact n_reti dX8_near_10 rfl (⟨by unfold a_nea; rw [if_neg (by omega)], hS0, FrT.rf c⟩)
set_option maxHeartbeats 4000000 in
set_option maxRecDepth 100000 in
theorem k_X8_medoid (c : qC) (n wd : Int) (N : Int → Int → Int) (S : Sl) (mm : Int) (md : Int → Int) (T : Tr) (hS : TS c n wd N S mm md T) (i : Int) (i0 : iR i) : qN X8_medoid 1 [qP 39, qI i] c (pI (fun z c' => z = a_med mm md i ∧ TS c' n wd N S mm md T ∧ FrT c c')) := by
  have hS0 := hS
  obtain ⟨hM, hSl, hMd, hTr⟩ := hS
  have hM0 := hM
  obtain ⟨t1, t2, t3, t4, t5, t6⟩ := hM
  have hMd0 := hMd
  obtain ⟨m1, m2, m3⟩ := hMd
  refine qN.of [some (qP 39), some (qI i)] (by decide) rfl (fun _ => rfl) (fun _ => Nat.le_of_ble_eq_true rfl) ?_
  refine g_iload_n (i := 1) dX8_medoid_0 rfl rfl ?_
  refine g_iconst dX8_medoid_1 ?_
  refine g_aload_n (i := 0) dX8_medoid_2 rfl rfl ?_
  refine g_getI (ji := 6) dX8_medoid_3 fl8_89 (by first | rfl | assumption) (by first | decide | (show _ < 62; omega)) (by first | rfl | assumption) (by decide) rfl (by first | assumption | rfl) ?_
  refine g_iconst dX8_medoid_6 ?_
  refine g_isub dX8_medoid_7 ?_
  refine n_callSi (k_X8_within _ _ _ _ (by omega) (by omega) (by omega)) dX8_medoid_8 lk8_85 sm_X8_within rfl rfl rfl (Nat.le_of_ble_eq_true rfl) (fun z c' hz => ?_)
  obtain ⟨hz2, hz⟩ := hz
  have hz2 := hz2.symm
  subst hz2
  refine g_if_eq 23 dX8_medoid_11 (by decide) (fun b11 => ?_) (fun b11 => ?_)
  · skip
    refine g_iconst dX8_medoid_23 ?_
    exact n_reti dX8_medoid_24 rfl (⟨by unfold a_med; first | (rw [if_pos (by omega)]; exact m3 i (by omega) (by omega)) | (rw [if_neg (by omega)]), hS0, FrT.rf c⟩)
  · skip
    refine g_aload_n (i := 0) dX8_medoid_14 rfl rfl ?_
    refine g_getP dX8_medoid_15 fl8_27 (by first | rfl | assumption) (by first | decide | (show _ < 62; omega)) (by first | rfl | assumption) ?_
    refine g_iload_n (i := 1) dX8_medoid_18 rfl rfl ?_
    refine g_iaload dX8_medoid_19 (by first | rfl | assumption) (by first | decide | (show _ < 62; omega)) ?_
    refine g_goto 24 dX8_medoid_20 (by decide) ?_
    exact n_reti dX8_medoid_24 rfl (⟨by unfold a_med; first | (rw [if_pos (by omega)]; exact m3 i (by omega) (by omega)) | (rw [if_neg (by omega)]), hS0, FrT.rf c⟩)
set_option maxHeartbeats 4000000 in
set_option maxRecDepth 100000 in
theorem k_X8_join (c : qC) (n wd : Int) (N : Int → Int → Int) (S : Sl) (mm : Int) (md : Int → Int) (T : Tr) (hS : TS c n wd N S mm md T) (i w : Int) (i0 : iR i) (w0 : iR w) : qN X8_join 1 [qP 39, qI i, qI w] c (pJ (fun z c' => z = a_joi T i w ∧ TS c' n wd N S mm md T ∧ FrT c c')) := by
  have hS0 := hS
  obtain ⟨hM, hSl, hMd, hTr⟩ := hS
  have hM0 := hM
  obtain ⟨t1, t2, t3, t4, t5, t6⟩ := hM
  have hbt := hTr.b
  refine qN.of [some (qP 39), some (qI i), some (qI w)] (by decide) rfl (fun _ => rfl) (fun _ => Nat.le_of_ble_eq_true rfl) ?_
  refine g_iload_n (i := 2) dX8_join_0 rfl rfl ?_
  refine g_iconst dX8_join_1 ?_
  refine g_iconst dX8_join_2 ?_
  refine n_callSi (k_X8_within _ _ _ _ (by omega) (by omega) (by omega)) dX8_join_3 lk8_85 sm_X8_within rfl rfl rfl (Nat.le_of_ble_eq_true rfl) (fun z c' hz => ?_)
  obtain ⟨hz2, hz⟩ := hz
  have hz2 := hz2.symm
  subst hz2
  refine g_if_ne 13 dX8_join_6 (by decide) (fun b6 => ?_) (fun b6 => ?_)
  · skip
    refine g_aload_n (i := 0) dX8_join_13 rfl rfl ?_
    refine g_getI (ji := 8) dX8_join_14 fl8_92 (by first | rfl | assumption) (by first | decide | (show _ < 62; omega)) (by first | rfl | assumption) (by decide) rfl (by first | assumption | rfl) ?_
    refine g_if_ne 24 dX8_join_17 (by decide) (fun b17 => ?_) (fun b17 => ?_)
    · skip
      obtain ⟨jn, J, hT, hj1, hj2, hj3, hj⟩ := hTr.yes b17
      refine g_iload_n (i := 1) dX8_join_24 rfl rfl ?_
      refine g_iconst dX8_join_25 ?_
      refine g_aload_n (i := 0) dX8_join_26 rfl rfl ?_
      refine g_getI (ji := 9) dX8_join_27 fl8_102 (by first | rfl | assumption) (by first | decide | (show _ < 62; omega)) (by first | rfl | assumption) (by decide) rfl (by first | assumption | rfl) ?_
      refine g_iconst dX8_join_30 ?_
      refine g_isub dX8_join_31 ?_
      refine n_callSi (k_X8_within _ _ _ _ (by omega) (by omega) (by omega)) dX8_join_32 lk8_85 sm_X8_within rfl rfl rfl (Nat.le_of_ble_eq_true rfl) (fun z c' hz => ?_)
      obtain ⟨hz2, hz⟩ := hz
      have hz2 := hz2.symm
      subst hz2
      refine g_if_ne 42 dX8_join_35 (by decide) (fun b35 => ?_) (fun b35 => ?_)
      · skip
        have hji := hj i (by omega) (by omega)
        obtain ⟨⟨v0, v1, v2, v3, v4⟩, hjb⟩ := hji
        refine g_iload_n (i := 2) dX8_join_42 rfl rfl ?_
        rcases (show (w < 0 ∨ 3 < w) ∨ w = 0 ∨ w = 1 ∨ w = 2 ∨ w = 3 by omega) with hsw | rfl | rfl | rfl | rfl
        · refine g_tableOut 103 dX8_join_43 hsw (by decide) ?_
          refine g_aload_n (i := 0) dX8_join_103 rfl rfl ?_
          refine g_getP dX8_join_104 fl8_43 (by first | rfl | assumption) (by first | decide | (show _ < 62; omega)) (by first | rfl | assumption) ?_
          refine g_iload_n (i := 1) dX8_join_107 rfl rfl ?_
          refine g_laload dX8_join_108 rfl (by decide) ?_
          rw [v4]
          skip -- ?_
          exact n_retj dX8_join_109 rfl (⟨by unfold a_joi; rw [if_pos (by omega), hT, show w = 4 by omega]; exact (if_pos (by omega)).symm, hS0, FrT.rf c⟩)
        · refine g_tableIn (off := 29) 72 dX8_join_43 (by decide) (by decide) rfl (by decide) ?_
          refine g_aload_n (i := 0) dX8_join_72 rfl rfl ?_
          refine g_getP dX8_join_73 fl8_30 (by first | rfl | assumption) (by first | decide | (show _ < 62; omega)) (by first | rfl | assumption) ?_
          refine g_iload_n (i := 1) dX8_join_76 rfl rfl ?_
          refine g_iaload dX8_join_77 rfl (by decide) ?_
          rw [v0]
          skip -- ?_
          refine g_i2lx dX8_join_78 ?_
          exact n_retj dX8_join_79 rfl (⟨by unfold a_joi; rw [if_pos (by omega), hT]; exact (if_pos (by omega)).symm, hS0, FrT.rf c⟩)
        · refine g_tableIn (off := 37) 80 dX8_join_43 (by decide) (by decide) rfl (by decide) ?_
          refine g_aload_n (i := 0) dX8_join_80 rfl rfl ?_
          refine g_getP dX8_join_81 fl8_33 (by first | rfl | assumption) (by first | decide | (show _ < 62; omega)) (by first | rfl | assumption) ?_
          refine g_iload_n (i := 1) dX8_join_84 rfl rfl ?_
          refine g_iaload dX8_join_85 rfl (by decide) ?_
          rw [v1]
          skip -- ?_
          refine g_i2lx dX8_join_86 ?_
          exact n_retj dX8_join_87 rfl (⟨by unfold a_joi; rw [if_pos (by omega), hT]; exact (if_pos (by omega)).symm, hS0, FrT.rf c⟩)
        · refine g_tableIn (off := 45) 88 dX8_join_43 (by decide) (by decide) rfl (by decide) ?_
          refine g_aload_n (i := 0) dX8_join_88 rfl rfl ?_
          refine g_getP dX8_join_89 fl8_36 (by first | rfl | assumption) (by first | decide | (show _ < 62; omega)) (by first | rfl | assumption) ?_
          refine g_iload_n (i := 1) dX8_join_92 rfl rfl ?_
          refine g_iaload dX8_join_93 rfl (by decide) ?_
          rw [v2]
          skip -- ?_
          refine g_i2lx dX8_join_94 ?_
          exact n_retj dX8_join_95 rfl (⟨by unfold a_joi; rw [if_pos (by omega), hT]; exact (if_pos (by omega)).symm, hS0, FrT.rf c⟩)
        · refine g_tableIn (off := 53) 96 dX8_join_43 (by decide) (by decide) rfl (by decide) ?_
          refine g_aload_n (i := 0) dX8_join_96 rfl rfl ?_
          refine g_getP dX8_join_97 fl8_39 (by first | rfl | assumption) (by first | decide | (show _ < 62; omega)) (by first | rfl | assumption) ?_
          refine g_iload_n (i := 1) dX8_join_100 rfl rfl ?_
          refine g_laload dX8_join_101 rfl (by decide) ?_
          rw [v3]
          skip -- ?_
          exact n_retj dX8_join_102 rfl (⟨by unfold a_joi; rw [if_pos (by omega), hT]; exact (if_pos (by omega)).symm, hS0, FrT.rf c⟩)
      · skip
        refine g_ldc2 (z := -1) dX8_join_38 cw8_156 ?_
        exact n_retj dX8_join_41 rfl (⟨by unfold a_joi; rw [if_pos (by omega), hT]; exact (if_neg (by omega)).symm, hS0, FrT.rf c⟩)
    · skip
      have hT := hTr.no b17
      refine g_ldc2 (z := -2000000003) dX8_join_20 cw8_180 ?_
      exact n_retj dX8_join_23 rfl (⟨by unfold a_joi; rw [if_pos (by omega), hT], hS0, FrT.rf c⟩)
  · skip
    refine g_ldc2 (z := -2000000002) dX8_join_9 cw8_178 ?_
    exact n_retj dX8_join_12 rfl (⟨by unfold a_joi; rw [if_neg (by omega)], hS0, FrT.rf c⟩)
set_option maxHeartbeats 4000000 in
set_option maxRecDepth 100000 in
theorem k_X8_of (c : qC) (n wd : Int) (N : Int → Int → Int) (S : Sl) (mm : Int) (md : Int → Int) (T : Tr) (hS : TS c n wd N S mm md T) (s i : Int) (s0 : iR s) (i0 : iR i) : qN X8_of 2 [qP 39, qI s, qI i] c (pI (fun z c' => z = a_of n S s i ∧ TS c' n wd N S mm md T ∧ FrT c c')) := by
  have hS0 := hS
  obtain ⟨hM, hSl, hMd, hTr⟩ := hS
  have hM0 := hM
  obtain ⟨t1, t2, t3, t4, t5, t6⟩ := hM
  refine qN.of [some (qP 39), some (qI s), some (qI i)] (by decide) rfl (fun _ => rfl) (fun _ => Nat.le_of_ble_eq_true rfl) ?_
  refine g_aload_n (i := 0) dX8_of_0 rfl rfl ?_
  refine g_iload_n (i := 2) dX8_of_1 rfl rfl ?_
  refine n_callVi (k_X8_isRow _ _ _ (by assumption) (by omega) (by omega)) dX8_of_2 lk8_109 im_X8_isRow (by first | rfl | assumption) (by first | decide | (show _ < 62; omega)) rfl rfl rfl rfl (Nat.le_of_ble_eq_true rfl) (fun z c' hz => ?_)
  obtain ⟨hz2, hz⟩ := hz
  have hz2 := hz2.symm
  subst hz2
  refine g_if_ne 11 dX8_of_5 (by decide) (fun b5 => ?_) (fun b5 => ?_)
  · skip
    refine g_iload_n (i := 1) dX8_of_11 rfl rfl ?_
    refine g_iconst dX8_of_12 ?_
    refine g_iconst dX8_of_13 ?_
    refine n_callSi (k_X8_within _ _ _ _ (by omega) (by omega) (by omega)) dX8_of_14 lk8_85 sm_X8_within rfl rfl rfl (Nat.le_of_ble_eq_true rfl) (fun z c' hz => ?_)
    obtain ⟨hz2, hz⟩ := hz
    have hz2 := hz2.symm
    subst hz2
    refine g_if_ne 23 dX8_of_17 (by decide) (fun b17 => ?_) (fun b17 => ?_)
    · skip
      have hst := hSl s (by omega) (by omega)
      have hsb := hst.b
      refine g_aload_n (i := 0) dX8_of_23 rfl rfl ?_
      refine g_getP dX8_of_24 fl8_17 (by first | rfl | assumption) (by first | decide | (show _ < 62; omega)) (by first | rfl | assumption) ?_
      refine g_iload_n (i := 1) dX8_of_27 rfl rfl ?_
      refine g_baload dX8_of_28 (by first | rfl | assumption) (by first | decide | (show _ < 62; omega)) ?_
      refine g_if_eq 41 dX8_of_29 (by decide) (fun b29 => ?_) (fun b29 => ?_)
      · skip
        have hg := hst.no b29
        refine g_ldc (z := -2000000003) dX8_of_41 cw8_97 ?_
        exact n_reti dX8_of_43 rfl (⟨by unfold a_of; rw [if_pos (by omega), if_pos (by omega), hg]; try exact (hg3 i (by omega) (by omega)).1, hS0, FrT.rf c⟩)
      · skip
        obtain ⟨g, m, hg, hg1, hg2, hg3⟩ := hst.yes b29
        refine g_aload_n (i := 0) dX8_of_32 rfl rfl ?_
        refine g_iload_n (i := 1) dX8_of_33 rfl rfl ?_
        refine g_iload_n (i := 2) dX8_of_34 rfl rfl ?_
        refine n_callVi (k_X8_of0 _ _ _ (by omega) (by omega) (by omega)) dX8_of_35 lk8_182 im_X8_of0 (by first | rfl | assumption) (by first | decide | (show _ < 62; omega)) rfl rfl rfl rfl (Nat.le_of_ble_eq_true rfl) (fun z c' hz => ?_)
        obtain ⟨rfl, hz2⟩ := hz
        have hz2 := hz2.symm
        subst hz2
        refine g_goto 43 dX8_of_38 (by decide) ?_
        exact n_reti dX8_of_43 rfl (⟨by unfold a_of; rw [if_pos (by omega), if_pos (by omega), hg]; try exact (hg3 i (by omega) (by omega)).1, hS0, FrT.rf c⟩)
    · skip
      refine g_ldc (z := -2000000002) dX8_of_20 cw8_96 ?_
      exact n_reti dX8_of_22 rfl (⟨by unfold a_of; rw [if_pos (by omega), if_neg (by omega)], hS0, FrT.rf c⟩)
  · skip
    refine g_ldc (z := -2000000001) dX8_of_8 cw8_113 ?_
    exact n_reti dX8_of_10 rfl (⟨by unfold a_of; rw [if_neg (by omega)], hS0, FrT.rf c⟩)
set_option maxHeartbeats 4000000 in
set_option maxRecDepth 100000 in
theorem k_X8_refused (c : qC) (n wd : Int) (N : Int → Int → Int) (S : Sl) (mm : Int) (md : Int → Int) (T : Tr) (hS : TS c n wd N S mm md T) (s k : Int) (s0 : iR s) (k0 : iR k) : qN X8_refused 1 [qP 39, qI s, qI k] c (pI (fun z c' => z = rfS S s k ∧ c' = c)) := by
  have hS0 := hS
  obtain ⟨hM, hSl, hMd, hTr⟩ := hS
  have hM0 := hM
  obtain ⟨t1, t2, t3, t4, t5, t6⟩ := hM
  refine qN.of [some (qP 39), some (qI s), some (qI k)] (by decide) rfl (fun _ => rfl) (fun _ => Nat.le_of_ble_eq_true rfl) ?_
  refine g_iload_n (i := 1) dX8_refused_0 rfl rfl ?_
  refine g_iconst dX8_refused_1 ?_
  refine g_iconst dX8_refused_2 ?_
  refine n_callSi (k_X8_within _ _ _ _ (by omega) (by omega) (by omega)) dX8_refused_3 lk8_85 sm_X8_within rfl rfl rfl (Nat.le_of_ble_eq_true rfl) (fun z c' hz => ?_)
  obtain ⟨hz2, hz⟩ := hz
  have hz2 := hz2.symm
  subst hz2
  refine g_if_ne 12 dX8_refused_6 (by decide) (fun b6 => ?_) (fun b6 => ?_)
  · skip
    have hst := hSl s (by omega) (by omega)
    have hsb := hst.b
    refine g_aload_n (i := 0) dX8_refused_12 rfl rfl ?_
    refine g_getP dX8_refused_13 fl8_17 (by first | rfl | assumption) (by first | decide | (show _ < 62; omega)) (by first | rfl | assumption) ?_
    refine g_iload_n (i := 1) dX8_refused_16 rfl rfl ?_
    refine g_baload dX8_refused_17 (by first | rfl | assumption) (by first | decide | (show _ < 62; omega)) ?_
    refine g_if_ne 24 dX8_refused_18 (by decide) (fun b18 => ?_) (fun b18 => ?_)
    · skip
      obtain ⟨g, m, hg, hg1, hg2, hg3⟩ := hst.yes b18
      refine g_iload_n (i := 2) dX8_refused_24 rfl rfl ?_
      refine g_iconst dX8_refused_25 ?_
      refine g_aload_n (i := 0) dX8_refused_26 rfl rfl ?_
      refine g_getP dX8_refused_27 fl8_21 (by first | rfl | assumption) (by first | decide | (show _ < 62; omega)) (by first | rfl | assumption) ?_
      refine g_iload_n (i := 1) dX8_refused_30 rfl rfl ?_
      refine g_iaload dX8_refused_31 rfl (by decide) ?_
      rw [hg1]
      skip -- ?_
      refine g_iconst dX8_refused_32 ?_
      refine g_isub dX8_refused_33 ?_
      refine n_callSi (k_X8_within _ _ _ _ (by omega) (by omega) (by omega)) dX8_refused_34 lk8_85 sm_X8_within rfl rfl rfl (Nat.le_of_ble_eq_true rfl) (fun z c' hz => ?_)
      obtain ⟨hz2, hz⟩ := hz
      have hz2 := hz2.symm
      subst hz2
      refine g_if_eq 44 dX8_refused_37 (by decide) (fun b37 => ?_) (fun b37 => ?_)
      · skip
        refine g_ldc (z := -2000000001) dX8_refused_44 cw8_113 ?_
        exact n_reti dX8_refused_46 rfl (⟨by unfold rfS; rw [if_pos (by omega), hg]; first | exact (if_pos (by omega)).symm | exact (if_neg (by omega)).symm, rfl⟩)
      · skip
        refine g_iconst dX8_refused_40 ?_
        refine g_goto 46 dX8_refused_41 (by decide) ?_
        exact n_reti dX8_refused_46 rfl (⟨by unfold rfS; rw [if_pos (by omega), hg]; first | exact (if_pos (by omega)).symm | exact (if_neg (by omega)).symm, rfl⟩)
    · skip
      have hg := hst.no b18
      refine g_ldc (z := -2000000003) dX8_refused_21 cw8_97 ?_
      exact n_reti dX8_refused_23 rfl (⟨by unfold rfS; rw [if_pos (by omega), hg], rfl⟩)
  · skip
    refine g_ldc (z := -2000000002) dX8_refused_9 cw8_96 ?_
    exact n_reti dX8_refused_11 rfl (⟨by unfold rfS; rw [if_neg (by omega)], rfl⟩)
theorem rfS_r (S : Sl) (s k : Int) : rfS S s k = 0 ∨ rfS S s k = -2000000001 ∨ rfS S s k = -2000000002 ∨ rfS S s k = -2000000003 := by
  unfold rfS
  split
  · cases S s with
    | none => right; right; right; rfl
    | some p =>
      by_cases h : 0 ≤ k ∧ k < p.2
      · left; exact if_pos h
      · right; left; exact if_neg h
  · right; right; left; rfl
theorem rfS_0 {S : Sl} {s k : Int} (h : rfS S s k = 0) : (0 ≤ s ∧ s ≤ 1) ∧ ∃ g m, S s = some (g, m) ∧ 0 ≤ k ∧ k < m := by
  unfold rfS at h
  split at h
  · rename_i h1
    refine ⟨h1, ?_⟩
    cases hs : S s with
    | none => rw [hs] at h; cases h
    | some p =>
      rw [hs] at h
      have h2 : (if 0 ≤ k ∧ k < p.2 then (0 : Int) else -2000000001) = 0 := h
      split at h2
      · rename_i h3; exact ⟨p.1, p.2, rfl, h3⟩
      · omega
  · omega
theorem TSl.at {c : qC} {s n m : Int} {g : Int → Int} {o : Option ((Int → Int) × Int)} (h : TSl c s n o) (ho : o = some (g, m)) : c 42 s = m ∧ (0 ≤ m ∧ m ≤ 30) ∧ ∀ r, 0 ≤ r → r < n → c 43 (30 * s + r) = g r ∧ -1 ≤ g r ∧ g r < m := by
  subst ho; exact h.2
set_option maxHeartbeats 4000000 in
set_option maxRecDepth 100000 in
theorem k_X8_size (c : qC) (n wd : Int) (N : Int → Int → Int) (S : Sl) (mm : Int) (md : Int → Int) (T : Tr) (hS : TS c n wd N S mm md T) (s k : Int) (s0 : iR s) (k0 : iR k) : qN X8_size 2 [qP 39, qI s, qI k] c (pI (fun z c' => z = a_siz n S s k ∧ TS c' n wd N S mm md T ∧ FrT c c')) := by
  have hS0 := hS
  obtain ⟨hM, hSl, hMd, hTr⟩ := hS
  have hM0 := hM
  obtain ⟨t1, t2, t3, t4, t5, t6⟩ := hM
  have hrr := rfS_r S s k
  refine qN.of [some (qP 39), some (qI s), some (qI k), none] (by decide) rfl (fun _ => rfl) (fun _ => Nat.le_of_ble_eq_true rfl) ?_
  refine g_aload_n (i := 0) dX8_size_0 rfl rfl ?_
  refine g_iload_n (i := 1) dX8_size_1 rfl rfl ?_
  refine g_iload_n (i := 2) dX8_size_2 rfl rfl ?_
  refine n_callVi (k_X8_refused _ n wd N S mm md T hS0 _ _ (by omega) (by omega)) dX8_size_3 lk8_186 im_X8_refused (by first | rfl | assumption) (by first | decide | (show _ < 62; omega)) rfl rfl rfl rfl (Nat.le_of_ble_eq_true rfl) (fun z c' hz => ?_)
  obtain ⟨rfl, hz2⟩ := hz
  have hz2 := hz2.symm
  subst hz2
  refine g_istore_n3 dX8_size_6 rfl ?_
  refine g_iload_n (i := 3) dX8_size_7 rfl rfl ?_
  refine g_if_eq 15 dX8_size_8 (by decide) (fun b8 => ?_) (fun b8 => ?_)
  · skip
    obtain ⟨hs01, g, m, hg, hk0, hk1⟩ := rfS_0 b8
    obtain ⟨hg1, hg2, hg3⟩ := (hSl s hs01.1 hs01.2).at hg
    have hg4 : ∀ r, 0 ≤ r → r < n → c 43 (30 * s + r) = g r ∧ -1 ≤ g r ∧ g r < 30 := fun r r0 r1 => ⟨(hg3 r r0 r1).1, (hg3 r r0 r1).2.1, by have := (hg3 r r0 r1).2.2; omega⟩
    refine g_aload_n (i := 0) dX8_size_15 rfl rfl ?_
    refine g_iload_n (i := 1) dX8_size_16 rfl rfl ?_
    refine g_iload_n (i := 2) dX8_size_17 rfl rfl ?_
    refine n_callVi (k_X8_sizeIn _ n wd _ _ N g hM0 hs01 hg4 (by omega)) dX8_size_18 lk8_189 im_X8_sizeIn (by first | rfl | assumption) (by first | decide | (show _ < 62; omega)) rfl rfl rfl rfl (Nat.le_of_ble_eq_true rfl) (fun z c' hz => ?_)
    obtain ⟨rfl, hz2⟩ := hz
    have hz2 := hz2.symm
    subst hz2
    exact n_reti dX8_size_21 rfl (⟨by unfold a_siz; first | (rw [if_neg (by omega)]) | (rw [if_pos b8, hg]; rfl), hS0, FrT.rf c⟩)
  · skip
    refine g_iload_n (i := 3) dX8_size_11 rfl rfl ?_
    refine g_goto 21 dX8_size_12 (by decide) ?_
    exact n_reti dX8_size_21 rfl (⟨by unfold a_siz; first | (rw [if_neg (by omega)]) | (rw [if_pos b8, hg]; rfl), hS0, FrT.rf c⟩)
set_option maxHeartbeats 4000000 in
set_option maxRecDepth 100000 in
theorem k_X8_mean (c : qC) (n wd : Int) (N : Int → Int → Int) (S : Sl) (mm : Int) (md : Int → Int) (T : Tr) (hS : TS c n wd N S mm md T) (s k x e : Int) (s0 : iR s) (k0 : iR k) (x0 : iR x) (e0 : iR e) : qN X8_mean 2 [qP 39, qI s, qI k, qI x, qI e] c (pI (fun z c' => z = a_mea n wd N S s k x e ∧ TS c' n wd N S mm md T ∧ FrT c c')) := by
  have hS0 := hS
  obtain ⟨hM, hSl, hMd, hTr⟩ := hS
  have hM0 := hM
  obtain ⟨t1, t2, t3, t4, t5, t6⟩ := hM
  have hrr := rfS_r S s k
  refine qN.of [some (qP 39), some (qI s), some (qI k), some (qI x), some (qI e), none, none, none, none, none, none, none] (by decide) rfl (fun _ => rfl) (fun _ => Nat.le_of_ble_eq_true rfl) ?_
  refine g_aload_n (i := 0) dX8_mean_0 rfl rfl ?_
  refine g_iload_n (i := 1) dX8_mean_1 rfl rfl ?_
  refine g_iload_n (i := 2) dX8_mean_2 rfl rfl ?_
  refine n_callVi (k_X8_refused _ n wd N S mm md T hS0 _ _ (by omega) (by omega)) dX8_mean_3 lk8_186 im_X8_refused (by first | rfl | assumption) (by first | decide | (show _ < 62; omega)) rfl rfl rfl rfl (Nat.le_of_ble_eq_true rfl) (fun z c' hz => ?_)
  obtain ⟨rfl, hz2⟩ := hz
  have hz2 := hz2.symm
  subst hz2
  refine g_istore5 dX8_mean_6 rfl ?_
  refine g_iload dX8_mean_8 rfl ?_
  refine g_if_eq 16 dX8_mean_10 (by decide) (fun b10 => ?_) (fun b10 => ?_)
  · skip
    obtain ⟨hs01, g, m, hg, hk0, hk1⟩ := rfS_0 b10
    obtain ⟨hg1, hg2, hg3⟩ := (hSl s hs01.1 hs01.2).at hg
    have hg4 : ∀ r, 0 ≤ r → r < n → c 43 (30 * s + r) = g r ∧ -1 ≤ g r ∧ g r < 30 := fun r r0 r1 => ⟨(hg3 r r0 r1).1, (hg3 r r0 r1).2.1, by have := (hg3 r r0 r1).2.2; omega⟩
    refine g_iload_n (i := 3) dX8_mean_16 rfl rfl ?_
    refine g_iconst dX8_mean_17 ?_
    refine g_aload_n (i := 0) dX8_mean_18 rfl rfl ?_
    refine g_getI (ji := 1) dX8_mean_19 fl8_7 (by first | rfl | assumption) (by first | decide | (show _ < 62; omega)) (by first | rfl | assumption) (by decide) rfl (by first | assumption | rfl) ?_
    refine g_iconst dX8_mean_22 ?_
    refine g_isub dX8_mean_23 ?_
    refine n_callSi (k_X8_within _ _ _ _ (by omega) (by omega) (by omega)) dX8_mean_24 lk8_85 sm_X8_within rfl rfl rfl (Nat.le_of_ble_eq_true rfl) (fun z c' hz => ?_)
    obtain ⟨hz2, hz⟩ := hz
    have hz2 := hz2.symm
    subst hz2
    refine g_if_eq 40 dX8_mean_27 (by decide) (fun b27 => ?_) (fun b27 => ?_)
    · skip
      refine g_ldc (z := -2000000002) dX8_mean_40 cw8_96 ?_
      exact n_reti dX8_mean_42 rfl (⟨by unfold a_mea; rw [if_pos b10, if_neg (by omega)], hS0, FrT.rf c⟩)
    · skip
      refine g_iload dX8_mean_30 rfl ?_
      refine g_iconst dX8_mean_32 ?_
      refine g_iconst dX8_mean_33 ?_
      refine n_callSi (k_X8_within _ _ _ _ (by omega) (by omega) (by omega)) dX8_mean_34 lk8_85 sm_X8_within rfl rfl rfl (Nat.le_of_ble_eq_true rfl) (fun z c' hz => ?_)
      obtain ⟨hz2, hz⟩ := hz
      have hz2 := hz2.symm
      subst hz2
      refine g_if_ne 43 dX8_mean_37 (by decide) (fun b37 => ?_) (fun b37 => ?_)
      · skip
        refine g_aload_n (i := 0) dX8_mean_43 rfl rfl ?_
        refine g_iload_n (i := 1) dX8_mean_44 rfl rfl ?_
        refine g_iload_n (i := 2) dX8_mean_45 rfl rfl ?_
        refine n_callVi (k_X8_sizeIn _ n wd _ _ N g hM0 hs01 hg4 (by omega)) dX8_mean_46 lk8_189 im_X8_sizeIn (by first | rfl | assumption) (by first | decide | (show _ < 62; omega)) rfl rfl rfl rfl (Nat.le_of_ble_eq_true rfl) (fun z c' hz => ?_)
        obtain ⟨rfl, hz2⟩ := hz
        have hz2 := hz2.symm
        subst hz2
        have hcb := cn_bd (g := g) (k := k) t3.1
        refine g_i2lx dX8_mean_49 ?_
        refine g_lstore6 dX8_mean_50 rfl ?_
        refine g_lload dX8_mean_52 rfl ?_
        refine g_lconst (z := 0) dX8_mean_54 (by decide) ?_
        refine g_lif_ne 62 dX8_mean_55 dX8_mean_56 (by decide) (fun b55 => ?_) (fun b55 => ?_)
        · skip
          refine g_aload_n (i := 0) dX8_mean_62 rfl rfl ?_
          refine g_iload_n (i := 1) dX8_mean_63 rfl rfl ?_
          refine g_iload_n (i := 2) dX8_mean_64 rfl rfl ?_
          refine g_iload_n (i := 3) dX8_mean_65 rfl rfl ?_
          refine n_callVj (k_X8_sumIn _ n wd _ _ N g hM0 hs01 hg4 (by omega) _ (by omega) (by omega)) dX8_mean_66 lk8_192 im_X8_sumIn (by first | rfl | assumption) (by first | decide | (show _ < 62; omega)) rfl rfl rfl rfl (Nat.le_of_ble_eq_true rfl) (fun z c' hz => ?_)
          obtain ⟨rfl, hz2⟩ := hz
          have hz2 := hz2.symm
          subst hz2
          have hsb := sg_bd (g := g) (k := k) (v := fun r => N r x) (m := 1000) t3.1 (by omega) (fun r r0 r1 => t6 r r0 r1 x (by omega) (by omega))
          refine g_lstore8 dX8_mean_69 rfl ?_
          refine g_lload dX8_mean_71 rfl ?_
          refine g_lload dX8_mean_73 rfl ?_
          refine n_callSj (k_X8_common _ _ _ (by omega) (by omega)) dX8_mean_75 lk8_174 sm_X8_common rfl rfl rfl (Nat.le_of_ble_eq_true rfl) (fun z c' hz => ?_)
          obtain ⟨rfl, hz2⟩ := hz
          have hz2 := hz2.symm
          subst hz2
          have hgp := gc_pos (x := sg g n k (fun r => N r x)) (y := cn g n k) (by omega)
          refine g_lstore10 dX8_mean_78 rfl ?_
          refine g_iload dX8_mean_80 rfl ?_
          refine g_if_ne 93 dX8_mean_82 (by decide) (fun b82 => ?_) (fun b82 => ?_)
          · skip
            refine g_lload dX8_mean_93 rfl ?_
            refine g_lload dX8_mean_95 rfl ?_
            refine g_ldiv dX8_mean_97 (by omega) (by omega) (by omega) ?_
            refine g_l2i dX8_mean_98 ?_
            exact n_reti dX8_mean_99 rfl (⟨by unfold a_mea; rw [if_pos b10, if_pos (by omega), hg, if_neg (show ¬ cn (gof (some (g, m))) n k = 0 from b55)]; first | (rw [if_pos b82]; rfl) | (rw [if_neg b82]; rfl), hS0, FrT.rf c⟩)
          · skip
            refine g_lload dX8_mean_85 rfl ?_
            refine g_lload dX8_mean_87 rfl ?_
            refine g_ldiv dX8_mean_89 (by omega) (by omega) (by omega) ?_
            refine g_goto 98 dX8_mean_90 (by decide) ?_
            refine g_l2i dX8_mean_98 ?_
            exact n_reti dX8_mean_99 rfl (⟨by unfold a_mea; rw [if_pos b10, if_pos (by omega), hg, if_neg (show ¬ cn (gof (some (g, m))) n k = 0 from b55)]; first | (rw [if_pos b82]; rfl) | (rw [if_neg b82]; rfl), hS0, FrT.rf c⟩)
        · skip
          refine g_iload dX8_mean_59 rfl ?_
          exact n_reti dX8_mean_61 rfl (⟨by unfold a_mea; rw [if_pos b10, if_pos (by omega), hg, if_pos]; exact b55, hS0, FrT.rf c⟩)
      · skip
        refine g_ldc (z := -2000000002) dX8_mean_40 cw8_96 ?_
        exact n_reti dX8_mean_42 rfl (⟨by unfold a_mea; rw [if_pos b10, if_neg (by omega)], hS0, FrT.rf c⟩)
  · skip
    refine g_iload dX8_mean_13 rfl ?_
    exact n_reti dX8_mean_15 rfl (⟨by unfold a_mea; rw [if_neg b10], hS0, FrT.rf c⟩)
