set_option maxHeartbeats 4000000 in
set_option maxRecDepth 100000 in
theorem k_X6_placeOf (c : qC) (kd i : Int) : qN X6_placeOf 0 [qP 1, qI kd, qI i] c (pI (fun z c' => z = (kd * 30 + i) * 30 ∧ c' = c)) := by
  refine qN.of [some (qP 1), some (qI kd), some (qI i)] (by decide) rfl (fun _ => rfl) (fun _ => Nat.le_of_ble_eq_true rfl) ?_
  refine g_iload_n (i := 1) dX6_placeOf_0 rfl rfl ?_
  refine g_bipush dX6_placeOf_1 (by decide) ?_
  refine g_imul dX6_placeOf_3 ?_
  refine g_iload_n (i := 2) dX6_placeOf_4 rfl rfl ?_
  refine g_iadd dX6_placeOf_5 ?_
  refine g_bipush dX6_placeOf_6 (by decide) ?_
  refine g_imul dX6_placeOf_8 ?_
  exact n_reti dX6_placeOf_9 rfl (⟨rfl, rfl⟩)
set_option maxHeartbeats 4000000 in
set_option maxRecDepth 100000 in
theorem k_X6_cell (c : qC) (i x : Int) (h0 : 0 ≤ i) (h1 : i < 30) (h2 : 0 ≤ x) (h3 : x < 4) : qN X6_cell 0 [qP 1, qI i, qI x] c (pI (fun z c' => z = c 2 (i * 4 + x) ∧ c' = c)) := by
  refine qN.of [some (qP 1), some (qI i), some (qI x)] (by decide) rfl (fun _ => rfl) (fun _ => Nat.le_of_ble_eq_true rfl) ?_
  refine g_aload_n (i := 0) dX6_cell_0 rfl rfl ?_
  refine g_getP dX6_cell_1 fl6_9 (by first | rfl | assumption) (by first | decide | (show _ < 62; omega)) (by first | rfl | assumption) ?_
  refine g_iload_n (i := 1) dX6_cell_4 rfl rfl ?_
  refine g_iconst dX6_cell_5 ?_
  refine g_imul dX6_cell_6 ?_
  refine g_iload_n (i := 2) dX6_cell_7 rfl rfl ?_
  refine g_iadd dX6_cell_8 ?_
  refine g_iaload dX6_cell_9 (by first | rfl | assumption) (by first | decide | (show _ < 62; omega)) ?_
  exact n_reti dX6_cell_10 rfl (⟨rfl, rfl⟩)
set_option maxHeartbeats 4000000 in
set_option maxRecDepth 100000 in
theorem k_X6_apart (c : qC) (kd i j : Int) (h0 : 0 ≤ kd) (h1 : kd < 3) (h2 : 0 ≤ i) (h3 : i < 30) (h4 : 0 ≤ j) (h5 : j < 30) : qN X6_apart 1 [qP 1, qI kd, qI i, qI j] c (pI (fun z c' => z = c 3 ((kd * 30 + i) * 30 + j) ∧ c' = c)) := by
  refine qN.of [some (qP 1), some (qI kd), some (qI i), some (qI j)] (by decide) rfl (fun _ => rfl) (fun _ => Nat.le_of_ble_eq_true rfl) ?_
  refine g_aload_n (i := 0) dX6_apart_0 rfl rfl ?_
  refine g_getP dX6_apart_1 fl6_15 (by first | rfl | assumption) (by first | decide | (show _ < 62; omega)) (by first | rfl | assumption) ?_
  refine g_aload_n (i := 0) dX6_apart_4 rfl rfl ?_
  refine g_iload_n (i := 1) dX6_apart_5 rfl rfl ?_
  refine g_iload_n (i := 2) dX6_apart_6 rfl rfl ?_
  refine n_callVi (k_X6_placeOf _ _ _) dX6_apart_7 lk6_29 im_X6_placeOf (by first | rfl | assumption) (by first | decide | (show _ < 62; omega)) rfl rfl rfl rfl (Nat.le_of_ble_eq_true rfl) (fun z c' hz => ?_)
  obtain ⟨rfl, hz2⟩ := hz
  have hz2 := hz2.symm
  subst hz2
  refine g_iload_n (i := 3) dX6_apart_10 rfl rfl ?_
  refine g_iadd dX6_apart_11 ?_
  refine g_iaload dX6_apart_12 (by first | rfl | assumption) (by first | decide | (show _ < 62; omega)) ?_
  exact n_reti dX6_apart_13 rfl (⟨rfl, rfl⟩)
def nt (c : qC) (kd i j x : Int) : qC := qu (qu c 3 ((kd * 30 + i) * 30 + j) x) 3 ((kd * 30 + j) * 30 + i) x
set_option maxHeartbeats 4000000 in
set_option maxRecDepth 100000 in
theorem k_X6_note (c : qC) (kd i j x : Int) (h0 : 0 ≤ kd) (h1 : kd < 3) (h2 : 0 ≤ i) (h3 : i < 30) (h4 : 0 ≤ j) (h5 : j < 30) : qN X6_note 1 [qP 1, qI kd, qI i, qI j, qI x] c (pV (fun c' => c' = nt c kd i j x)) := by
  refine qN.of [some (qP 1), some (qI kd), some (qI i), some (qI j), some (qI x)] (by decide) rfl (fun _ => rfl) (fun _ => Nat.le_of_ble_eq_true rfl) ?_
  refine g_aload_n (i := 0) dX6_note_0 rfl rfl ?_
  refine g_getP dX6_note_1 fl6_15 (by first | rfl | assumption) (by first | decide | (show _ < 62; omega)) (by first | rfl | assumption) ?_
  refine g_aload_n (i := 0) dX6_note_4 rfl rfl ?_
  refine g_iload_n (i := 1) dX6_note_5 rfl rfl ?_
  refine g_iload_n (i := 2) dX6_note_6 rfl rfl ?_
  refine n_callVi (k_X6_placeOf _ _ _) dX6_note_7 lk6_29 im_X6_placeOf (by first | rfl | assumption) (by first | decide | (show _ < 62; omega)) rfl rfl rfl rfl (Nat.le_of_ble_eq_true rfl) (fun z c' hz => ?_)
  obtain ⟨rfl, hz2⟩ := hz
  have hz2 := hz2.symm
  subst hz2
  refine g_iload_n (i := 3) dX6_note_10 rfl rfl ?_
  refine g_iadd dX6_note_11 ?_
  refine g_iload dX6_note_12 rfl ?_
  refine g_iastore dX6_note_14 (by first | rfl | assumption) (by first | decide | (show _ < 62; omega)) ?_
  refine g_aload_n (i := 0) dX6_note_15 rfl rfl ?_
  refine g_getP dX6_note_16 fl6_15 (by first | rfl | assumption) (by first | decide | (show _ < 62; omega)) (by first | rfl | assumption) ?_
  refine g_aload_n (i := 0) dX6_note_19 rfl rfl ?_
  refine g_iload_n (i := 1) dX6_note_20 rfl rfl ?_
  refine g_iload_n (i := 3) dX6_note_21 rfl rfl ?_
  refine n_callVi (k_X6_placeOf _ _ _) dX6_note_22 lk6_29 im_X6_placeOf (by first | rfl | assumption) (by first | decide | (show _ < 62; omega)) rfl rfl rfl rfl (Nat.le_of_ble_eq_true rfl) (fun z c' hz => ?_)
  obtain ⟨rfl, hz2⟩ := hz
  have hz2 := hz2.symm
  subst hz2
  refine g_iload_n (i := 2) dX6_note_25 rfl rfl ?_
  refine g_iadd dX6_note_26 ?_
  refine g_iload dX6_note_27 rfl ?_
  refine g_iastore dX6_note_29 (by first | rfl | assumption) (by first | decide | (show _ < 62; omega)) ?_
  exact n_retv dX6_note_30 rfl (rfl)
set_option maxHeartbeats 4000000 in
set_option maxRecDepth 100000 in
theorem k_X6_takes (c : qC) (wd x v : Int) (hw : c 1 2 = wd) (h1 : iR wd) (h2 : iR x) (h3 : iR v) : qN X6_takes 0 [qP 1, qI x, qI v] c (pI (fun z c' => c' = c ∧ ((z = 1 ∧ (wd ≤ x ∨ (-1000 ≤ v ∧ v ≤ 1000))) ∨ (z = 0 ∧ ¬ (wd ≤ x ∨ (-1000 ≤ v ∧ v ≤ 1000)))))) := by
  refine qN.of [some (qP 1), some (qI x), some (qI v)] (by decide) rfl (fun _ => rfl) (fun _ => Nat.le_of_ble_eq_true rfl) ?_
  refine g_iload_n (i := 1) dX6_takes_0 rfl rfl ?_
  refine g_aload_n (i := 0) dX6_takes_1 rfl rfl ?_
  refine g_getI (ji := 2) dX6_takes_2 fl6_18 (by first | rfl | assumption) (by first | decide | (show _ < 62; omega)) (by first | rfl | assumption) (by decide) rfl (by first | assumption | rfl) ?_
  refine g_icmp_ge 22 dX6_takes_5 (by decide) (fun b5 => ?_) (fun b5 => ?_)
  · skip
    refine g_iconst dX6_takes_22 ?_
    refine g_goto 27 dX6_takes_23 (by decide) ?_
    exact n_retz dX6_takes_27 rfl (by first | exact Or.inl rfl | exact Or.inr rfl | assumption | omega) (⟨rfl, by omega⟩)
  · skip
    refine g_iload_n (i := 2) dX6_takes_8 rfl rfl ?_
    refine g_sipush dX6_takes_9 (by decide) ?_
    refine g_icmp_lt 26 dX6_takes_12 (by decide) (fun b12 => ?_) (fun b12 => ?_)
    · skip
      refine g_iconst dX6_takes_26 ?_
      exact n_retz dX6_takes_27 rfl (by first | exact Or.inl rfl | exact Or.inr rfl | assumption | omega) (⟨rfl, by omega⟩)
    · skip
      refine g_iload_n (i := 2) dX6_takes_15 rfl rfl ?_
      refine g_sipush dX6_takes_16 (by decide) ?_
      refine g_icmp_gt 26 dX6_takes_19 (by decide) (fun b19 => ?_) (fun b19 => ?_)
      · skip
        refine g_iconst dX6_takes_26 ?_
        exact n_retz dX6_takes_27 rfl (by first | exact Or.inl rfl | exact Or.inr rfl | assumption | omega) (⟨rfl, by omega⟩)
      · skip
        refine g_iconst dX6_takes_22 ?_
        refine g_goto 27 dX6_takes_23 (by decide) ?_
        exact n_retz dX6_takes_27 rfl (by first | exact Or.inl rfl | exact Or.inr rfl | assumption | omega) (⟨rfl, by omega⟩)
/-- how many ROWS are nearer to ROW i than ROW o is: D their distances from i -/
def nr (D : Int → Int) (n i o : Int) : Int := sI (fun q => if q ≠ i ∧ (D q < D o ∨ (D q = D o ∧ q < o)) then 1 else 0) n
set_option maxHeartbeats 4000000 in
set_option maxRecDepth 100000 in
theorem k_X6_nearerThan (c : qC) (n kd i o : Int) (D : Int → Int) (hn : c 1 3 = n) (h0 : 0 ≤ kd) (h1 : kd < 3) (h2 : 0 ≤ i) (h3 : i < n) (h4 : 0 ≤ o) (h5 : o < n) (h6 : n ≤ 30) (hD : ∀ j, 0 ≤ j → j < n → c 3 ((kd * 30 + i) * 30 + j) = D j ∧ iR (D j)) : qN X6_nearerThan 2 [qP 1, qI kd, qI i, qI o] c (pI (fun z c' => z = nr D n i o ∧ c' = c)) := by
  refine qN.of [some (qP 1), some (qI kd), some (qI i), some (qI o), none, none, none, none] (by decide) rfl (fun _ => rfl) (fun _ => Nat.le_of_ble_eq_true rfl) ?_
  refine g_aload_n (i := 0) dX6_nearerThan_0 rfl rfl ?_
  refine g_iload_n (i := 1) dX6_nearerThan_1 rfl rfl ?_
  refine g_iload_n (i := 2) dX6_nearerThan_2 rfl rfl ?_
  refine g_iload_n (i := 3) dX6_nearerThan_3 rfl rfl ?_
  refine n_callVi (k_X6_apart _ _ _ _ (by omega) (by omega) (by omega) (by omega) (by omega) (by omega)) dX6_nearerThan_4 lk6_33 im_X6_apart (by first | rfl | assumption) (by first | decide | (show _ < 62; omega)) rfl rfl rfl rfl (Nat.le_of_ble_eq_true rfl) (fun z c' hz => ?_)
  obtain ⟨rfl, hz2⟩ := hz
  have hz2 := hz2.symm
  subst hz2
  rw [(hD o h4 h5).1]
  have ho := (hD o h4 h5).2
  refine g_istore4 dX6_nearerThan_7 rfl ?_
  refine g_iconst dX6_nearerThan_9 ?_
  refine g_istore5 dX6_nearerThan_10 rfl ?_
  refine g_iconst dX6_nearerThan_12 ?_
  refine g_istore6 dX6_nearerThan_13 rfl ?_
  have L15 : ∀ (fu15 : Nat) (r a : Int), (n - r).toNat < fu15 → (0 ≤ r) → (r ≤ n) → (a = sI (fun q => if q ≠ i ∧ (D q < D o ∨ (D q = D o ∧ q < o)) then 1 else 0) r) → qG (qYn X6_nearerThan 2 (pI (fun z c' => z = nr D n i o ∧ c' = c))) wN 15 [some (qP 1), some (qI kd), some (qI i), some (qI o), some (qI (D o)), some (qI a), some (qI r), none] [] c := by
    intro fu15
    induction fu15 with
    | zero => intro r a hm; exact absurd hm (Nat.not_lt_zero _)
    | succ fu15 ih15 =>
      intro r a hm15 r0 r1 ha
      refine g_iload dX6_nearerThan_15 rfl ?_
      refine g_aload_n (i := 0) dX6_nearerThan_17 rfl rfl ?_
      refine g_getI (ji := 3) dX6_nearerThan_18 fl6_22 (by first | rfl | assumption) (by first | decide | (show _ < 62; omega)) (by first | rfl | assumption) (by decide) rfl (by first | assumption | rfl) ?_
      refine g_icmp_ge 69 dX6_nearerThan_21 (by decide) (fun b21 => ?_) (fun b21 => ?_)
      · skip
        refine g_iload dX6_nearerThan_69 rfl ?_
        exact n_reti dX6_nearerThan_71 rfl (⟨by rw [ha, show r = n by omega]; rfl, rfl⟩)
      · skip
        refine g_aload_n (i := 0) dX6_nearerThan_24 rfl rfl ?_
        refine g_iload_n (i := 1) dX6_nearerThan_25 rfl rfl ?_
        refine g_iload_n (i := 2) dX6_nearerThan_26 rfl rfl ?_
        refine g_iload dX6_nearerThan_27 rfl ?_
        refine n_callVi (k_X6_apart _ _ _ _ (by omega) (by omega) (by omega) (by omega) (by omega) (by omega)) dX6_nearerThan_29 lk6_33 im_X6_apart (by first | rfl | assumption) (by first | decide | (show _ < 62; omega)) rfl rfl rfl rfl (Nat.le_of_ble_eq_true rfl) (fun z c' hz => ?_)
        obtain ⟨rfl, hz2⟩ := hz
        have hz2 := hz2.symm
        subst hz2
        rw [(hD r r0 (by omega)).1]
        have hr := (hD r r0 (by omega)).2
        refine g_istore7 dX6_nearerThan_32 rfl ?_
        refine g_iload dX6_nearerThan_34 rfl ?_
        refine g_iload_n (i := 2) dX6_nearerThan_36 rfl rfl ?_
        refine g_icmp_eq 63 dX6_nearerThan_37 (by decide) (fun b37 => ?_) (fun b37 => ?_)
        · skip
          refine g_iinc6 dX6_nearerThan_63 rfl ?_
          refine g_goto 15 dX6_nearerThan_66 (by decide) ?_
          refine g_fg7 ?_
          exact ih15 _ _ (by omega) (by first | assumption | omega) (by first | assumption | omega) (by rw [sI_s r0, ha]; first | (rw [if_pos (by omega)]) | (rw [if_neg (by omega)]; omega))
        · skip
          refine g_iload dX6_nearerThan_40 rfl ?_
          refine g_iload dX6_nearerThan_42 rfl ?_
          refine g_icmp_lt 60 dX6_nearerThan_44 (by decide) (fun b44 => ?_) (fun b44 => ?_)
          · skip
            refine g_iinc5 dX6_nearerThan_60 rfl ?_
            refine g_iinc6 dX6_nearerThan_63 rfl ?_
            refine g_goto 15 dX6_nearerThan_66 (by decide) ?_
            refine g_fg7 ?_
            exact ih15 _ _ (by omega) (by first | assumption | omega) (by first | assumption | omega) (by rw [sI_s r0, ha]; first | (rw [if_pos (by omega)]) | (rw [if_neg (by omega)]; omega))
          · skip
            refine g_iload dX6_nearerThan_47 rfl ?_
            refine g_iload dX6_nearerThan_49 rfl ?_
            refine g_icmp_ne 63 dX6_nearerThan_51 (by decide) (fun b51 => ?_) (fun b51 => ?_)
            · skip
              refine g_iinc6 dX6_nearerThan_63 rfl ?_
              refine g_goto 15 dX6_nearerThan_66 (by decide) ?_
              refine g_fg7 ?_
              exact ih15 _ _ (by omega) (by first | assumption | omega) (by first | assumption | omega) (by rw [sI_s r0, ha]; first | (rw [if_pos (by omega)]) | (rw [if_neg (by omega)]; omega))
            · skip
              refine g_iload dX6_nearerThan_54 rfl ?_
              refine g_iload_n (i := 3) dX6_nearerThan_56 rfl rfl ?_
              refine g_icmp_ge 63 dX6_nearerThan_57 (by decide) (fun b57 => ?_) (fun b57 => ?_)
              · skip
                refine g_iinc6 dX6_nearerThan_63 rfl ?_
                refine g_goto 15 dX6_nearerThan_66 (by decide) ?_
                refine g_fg7 ?_
                exact ih15 _ _ (by omega) (by first | assumption | omega) (by first | assumption | omega) (by rw [sI_s r0, ha]; first | (rw [if_pos (by omega)]) | (rw [if_neg (by omega)]; omega))
              · skip
                refine g_iinc5 dX6_nearerThan_60 rfl ?_
                refine g_iinc6 dX6_nearerThan_63 rfl ?_
                refine g_goto 15 dX6_nearerThan_66 (by decide) ?_
                refine g_fg7 ?_
                exact ih15 _ _ (by omega) (by first | assumption | omega) (by first | assumption | omega) (by rw [sI_s r0, ha]; first | (rw [if_pos (by omega)]) | (rw [if_neg (by omega)]; omega))
  exact L15 _ _ _ (Nat.lt_succ_self _) (by first | assumption | omega) (by first | assumption | omega) rfl
theorem ds_0 (wd : Int) (N : Int → Int → Int) (i j : Int) : ds wd N 0 i j = sI (fun x => ab (N i x - N j x) * ab (N i x - N j x)) wd := if_pos rfl
theorem ds_1 (wd : Int) (N : Int → Int → Int) (i j : Int) : ds wd N 1 i j = sI (fun x => ab (N i x - N j x)) wd := by unfold ds; rw [if_neg (by decide), if_pos rfl]
theorem ds_2 (wd : Int) (N : Int → Int → Int) (i j : Int) : ds wd N 2 i j = gI (fun x => ab (N i x - N j x)) wd := by unfold ds; rw [if_neg (by decide), if_neg (by decide)]
def ms (c : qC) (wd : Int) (N : Int → Int → Int) (i j : Int) : qC := nt (nt (nt c 0 i j (ds wd N 0 i j)) 1 i j (ds wd N 1 i j)) 2 i j (ds wd N 2 i j)
theorem ms_ne {c : qC} {wd : Int} {N : Int → Int → Int} {i j : Int} {k : Nat} (h : k ≠ 3) : ms c wd N i j k = c k := by
  unfold ms nt
  rw [qu_ne h, qu_ne h, qu_ne h, qu_ne h, qu_ne h, qu_ne h]
theorem nt_at {c : qC} {kd i j x kd' p q : Int} (h0 : 0 ≤ p) (h1 : p < 30) (h2 : 0 ≤ q) (h3 : q < 30) (g0 : 0 ≤ i) (g1 : i < 30) (g2 : 0 ≤ j) (g3 : j < 30) : nt c kd i j x 3 ((kd' * 30 + p) * 30 + q) = if kd' = kd ∧ ((p = i ∧ q = j) ∨ (p = j ∧ q = i)) then x else c 3 ((kd' * 30 + p) * 30 + q) := by
  unfold nt
  rw [qu_at, qu_at]
  by_cases e1 : (kd' * 30 + p) * 30 + q = (kd * 30 + j) * 30 + i
  · rw [if_pos e1, if_pos (by omega)]
  · rw [if_neg e1]
    by_cases e2 : (kd' * 30 + p) * 30 + q = (kd * 30 + i) * 30 + j
    · rw [if_pos e2, if_pos (by omega)]
    · rw [if_neg e2, if_neg (by omega)]
theorem ms_at {c : qC} {wd : Int} {N : Int → Int → Int} {kd i j p q : Int} (hk0 : 0 ≤ kd) (hk1 : kd < 3) (h0 : 0 ≤ p) (h1 : p < 30) (h2 : 0 ≤ q) (h3 : q < 30) (g0 : 0 ≤ i) (g1 : i < 30) (g2 : 0 ≤ j) (g3 : j < 30) : ms c wd N i j 3 ((kd * 30 + p) * 30 + q) = if (p = i ∧ q = j) ∨ (p = j ∧ q = i) then ds wd N kd i j else c 3 ((kd * 30 + p) * 30 + q) := by
  unfold ms
  rw [nt_at h0 h1 h2 h3 g0 g1 g2 g3, nt_at h0 h1 h2 h3 g0 g1 g2 g3, nt_at h0 h1 h2 h3 g0 g1 g2 g3]
  by_cases e : (p = i ∧ q = j) ∨ (p = j ∧ q = i)
  · rw [if_pos e]
    obtain rfl | rfl | rfl : kd = 0 ∨ kd = 1 ∨ kd = 2 := by omega
    · rw [if_neg (by omega), if_neg (by omega), if_pos ⟨rfl, e⟩]
    · rw [if_neg (by omega), if_pos ⟨rfl, e⟩]
    · rw [if_pos ⟨rfl, e⟩]
  · rw [if_neg e, if_neg (fun h => e h.2), if_neg (fun h => e h.2), if_neg (fun h => e h.2)]
/-- the Table holds n ROWS of wd COLUMNS with the numbers N -/
def Tb (c : qC) (n wd : Int) (N : Int → Int → Int) : Prop := c 1 3 = n ∧ c 1 2 = wd ∧ (0 ≤ n ∧ n ≤ 30) ∧ (1 ≤ wd ∧ wd ≤ 4) ∧ (∀ i x, 0 ≤ i → i < n → 0 ≤ x → x < wd → c 2 (i * 4 + x) = N i x) ∧ (∀ i, 0 ≤ i → i < n → Nb wd N i) ∧ (∀ kd i j, 0 ≤ kd → kd < 3 → 0 ≤ i → i < n → 0 ≤ j → j < n → c 3 ((kd * 30 + i) * 30 + j) = ds wd N kd i j)
theorem Tb.fr {c c' : qC} {n wd : Int} {N : Int → Int → Int} (h : Tb c n wd N) (h1 : c' 1 = c 1) (h2 : c' 2 = c 2) (h3 : c' 3 = c 3) : Tb c' n wd N := by
  unfold Tb at h ⊢
  rw [h1, h2, h3]
  exact h
theorem Tb.bd {c : qC} {n wd : Int} {N : Int → Int → Int} (h : Tb c n wd N) {kd i j : Int} (i0 : 0 ≤ i) (i1 : i < n) (j0 : 0 ≤ j) (j1 : j < n) : 0 ≤ ds wd N kd i j ∧ ds wd N kd i j ≤ 16000000 := ds_bd (by have := h.2.2.2.1; omega) (by have := h.2.2.2.1; omega) (h.2.2.2.2.2.1 i i0 i1) (h.2.2.2.2.2.1 j j0 j1)
/-- a ROW more -/
def nw (N : Int → Int → Int) (n a b e f : Int) : Int → Int → Int := fun i x => if i = n then (if x = 0 then a else if x = 1 then b else if x = 2 then e else f) else N i x
theorem nw_ne {N : Int → Int → Int} {n a b e f i x : Int} (h : i ≠ n) : nw N n a b e f i x = N i x := if_neg h
theorem nw_ds {wd : Int} {N : Int → Int → Int} {n a b e f kd i j : Int} (hi : i ≠ n) (hj : j ≠ n) : ds wd (nw N n a b e f) kd i j = ds wd N kd i j := by
  unfold ds
  simp only [nw_ne hi, nw_ne hj]
set_option maxHeartbeats 4000000 in
set_option maxRecDepth 100000 in
theorem k_X6_measure (c : qC) (wd i j : Int) (N : Int → Int → Int) (hw : c 1 2 = wd) (w0 : 0 ≤ wd) (w4 : wd ≤ 4) (i0 : 0 ≤ i) (i1 : i < 30) (j0 : 0 ≤ j) (j1 : j < 30) (hi : ∀ x, 0 ≤ x → x < wd → c 2 (i * 4 + x) = N i x) (hj : ∀ x, 0 ≤ x → x < wd → c 2 (j * 4 + x) = N j x) (bi : Nb wd N i) (bj : Nb wd N j) : qN X6_measure 2 [qP 1, qI i, qI j] c (pV (fun c' => c' = ms c wd N i j)) := by
  refine qN.of [some (qP 1), some (qI i), some (qI j), none, none, none, none, none] (by decide) rfl (fun _ => rfl) (fun _ => Nat.le_of_ble_eq_true rfl) ?_
  refine g_iconst dX6_measure_0 ?_
  refine g_istore_n3 dX6_measure_1 rfl ?_
  refine g_iconst dX6_measure_2 ?_
  refine g_istore4 dX6_measure_3 rfl ?_
  refine g_iconst dX6_measure_5 ?_
  refine g_istore5 dX6_measure_6 rfl ?_
  refine g_iconst dX6_measure_8 ?_
  refine g_istore6 dX6_measure_9 rfl ?_
  have L11 : ∀ (fu11 : Nat) (x s t g : Int), (wd - x).toNat < fu11 → (0 ≤ x) → (x ≤ wd) → (s = sI (fun q => ab (N i q - N j q) * ab (N i q - N j q)) x) → (t = sI (fun q => ab (N i q - N j q)) x) → (g = gI (fun q => ab (N i q - N j q)) x) → qG (qYn X6_measure 2 (pV (fun c' => c' = ms c wd N i j))) wN 11 [some (qP 1), some (qI i), some (qI j), some (qI s), some (qI t), some (qI g), some (qI x), none] [] c := by
    intro fu11
    induction fu11 with
    | zero => intro x s t g hm; exact absurd hm (Nat.not_lt_zero _)
    | succ fu11 ih11 =>
      intro x s t g hm11 x0 x1 hs ht hg
      have hgb := gI_bd (f := fun q => ab (N i q - N j q)) (hi := 2000) (n := x) (by omega) (fun q q0 q1 => ab_le (by have := bi q q0 (by omega); have := bj q q0 (by omega); omega) (by have := bi q q0 (by omega); have := bj q q0 (by omega); omega))
      rw [← hg] at hgb
      refine g_iload dX6_measure_11 rfl ?_
      refine g_aload_n (i := 0) dX6_measure_13 rfl rfl ?_
      refine g_getI (ji := 2) dX6_measure_14 fl6_18 (by first | rfl | assumption) (by first | decide | (show _ < 62; omega)) (by first | rfl | assumption) (by decide) rfl (by first | assumption | rfl) ?_
      refine g_icmp_ge 70 dX6_measure_17 (by decide) (fun b17 => ?_) (fun b17 => ?_)
      · skip
        refine g_aload_n (i := 0) dX6_measure_70 rfl rfl ?_
        refine g_iconst dX6_measure_71 ?_
        refine g_iload_n (i := 1) dX6_measure_72 rfl rfl ?_
        refine g_iload_n (i := 2) dX6_measure_73 rfl rfl ?_
        refine g_iload_n (i := 3) dX6_measure_74 rfl rfl ?_
        refine n_callVv (k_X6_note _ _ _ _ _ (by omega) (by omega) (by omega) (by omega) (by omega) (by omega)) dX6_measure_75 lk6_49 im_X6_note (by first | rfl | assumption) (by first | decide | (show _ < 62; omega)) rfl rfl rfl rfl (Nat.le_of_ble_eq_true rfl) (fun c' hz => ?_)
        subst hz
        refine g_aload_n (i := 0) dX6_measure_78 rfl rfl ?_
        refine g_iconst dX6_measure_79 ?_
        refine g_iload_n (i := 1) dX6_measure_80 rfl rfl ?_
        refine g_iload_n (i := 2) dX6_measure_81 rfl rfl ?_
        refine g_iload dX6_measure_82 rfl ?_
        refine n_callVv (k_X6_note _ _ _ _ _ (by omega) (by omega) (by omega) (by omega) (by omega) (by omega)) dX6_measure_84 lk6_49 im_X6_note (by first | rfl | assumption) (by first | decide | (show _ < 62; omega)) rfl rfl rfl rfl (Nat.le_of_ble_eq_true rfl) (fun c' hz => ?_)
        subst hz
        refine g_aload_n (i := 0) dX6_measure_87 rfl rfl ?_
        refine g_iconst dX6_measure_88 ?_
        refine g_iload_n (i := 1) dX6_measure_89 rfl rfl ?_
        refine g_iload_n (i := 2) dX6_measure_90 rfl rfl ?_
        refine g_iload dX6_measure_91 rfl ?_
        refine n_callVv (k_X6_note _ _ _ _ _ (by omega) (by omega) (by omega) (by omega) (by omega) (by omega)) dX6_measure_93 lk6_49 im_X6_note (by first | rfl | assumption) (by first | decide | (show _ < 62; omega)) rfl rfl rfl rfl (Nat.le_of_ble_eq_true rfl) (fun c' hz => ?_)
        subst hz
        exact n_retv dX6_measure_96 rfl (by rw [hs, ht, hg, show x = wd by omega, ← ds_0, ← ds_1, ← ds_2]; rfl)
      · skip
        refine g_aload_n (i := 0) dX6_measure_20 rfl rfl ?_
        refine g_iload_n (i := 1) dX6_measure_21 rfl rfl ?_
        refine g_iload dX6_measure_22 rfl ?_
        refine n_callVi (k_X6_cell _ _ _ (by omega) (by omega) (by omega) (by omega)) dX6_measure_24 lk6_37 im_X6_cell (by first | rfl | assumption) (by first | decide | (show _ < 62; omega)) rfl rfl rfl rfl (Nat.le_of_ble_eq_true rfl) (fun z c' hz => ?_)
        obtain ⟨rfl, hz2⟩ := hz
        have hz2 := hz2.symm
        subst hz2
        rw [hi x x0 (by omega)]
        have bx := bi x x0 (by omega)
        refine g_aload_n (i := 0) dX6_measure_27 rfl rfl ?_
        refine g_iload_n (i := 2) dX6_measure_28 rfl rfl ?_
        refine g_iload dX6_measure_29 rfl ?_
        refine n_callVi (k_X6_cell _ _ _ (by omega) (by omega) (by omega) (by omega)) dX6_measure_31 lk6_37 im_X6_cell (by first | rfl | assumption) (by first | decide | (show _ < 62; omega)) rfl rfl rfl rfl (Nat.le_of_ble_eq_true rfl) (fun z c' hz => ?_)
        obtain ⟨rfl, hz2⟩ := hz
        have hz2 := hz2.symm
        subst hz2
        rw [hj x x0 (by omega)]
        have by0 := bj x x0 (by omega)
        have ba := ab_0 (N i x - N j x)
        have bb := ab_le (x := N i x - N j x) (m := 2000) (by omega) (by omega)
        refine g_isub dX6_measure_34 ?_
        refine g_mabs dX6_measure_35 mw6_40 ?_ (Nat.le_refl 0) (Nat.le_refl 0) rfl (Nat.le_of_ble_eq_true rfl)
        refine g_istore7 dX6_measure_38 rfl ?_
        refine g_iload_n (i := 3) dX6_measure_40 rfl rfl ?_
        refine g_iload dX6_measure_41 rfl ?_
        refine g_iload dX6_measure_43 rfl ?_
        refine g_imul dX6_measure_45 ?_
        refine g_iadd dX6_measure_46 ?_
        refine g_istore_n3 dX6_measure_47 rfl ?_
        refine g_iload dX6_measure_48 rfl ?_
        refine g_iload dX6_measure_50 rfl ?_
        refine g_iadd dX6_measure_52 ?_
        refine g_istore4 dX6_measure_53 rfl ?_
        refine g_iload dX6_measure_55 rfl ?_
        refine g_iload dX6_measure_57 rfl ?_
        refine g_mmax dX6_measure_59 mw6_46 ?_ (Nat.le_refl 0) (Nat.le_refl 0) rfl (Nat.le_of_ble_eq_true rfl)
        refine g_istore5 dX6_measure_62 rfl ?_
        refine g_iinc6 dX6_measure_64 rfl ?_
        refine g_goto 11 dX6_measure_67 (by decide) ?_
        refine g_fg7 ?_
        exact ih11 _ _ _ _ (by omega) (by first | assumption | omega) (by first | assumption | omega) (by rw [sI_s x0, hs]) (by rw [sI_s x0, ht]) (by rw [gI_s x0, hg])
  exact L11 _ _ _ _ _ (Nat.lt_succ_self _) (by first | assumption | omega) (by first | assumption | omega) rfl rfl rfl
set_option maxHeartbeats 4000000 in
set_option maxRecDepth 100000 in
theorem k_X6_append (c : qC) (n wd a b e f : Int) (N : Int → Int → Int) (hT : Tb c n wd N) (hn : n < 30) (hb : Nb wd (nw N n a b e f) n) : qN X6_append 3 [qP 1, qI a, qI b, qI e, qI f] c (pI (fun z c' => z = n ∧ Tb c' (n + 1) wd (nw N n a b e f) ∧ (∀ k, k ≠ 1 → k ≠ 2 → k ≠ 3 → c' k = c k))) := by
  have hT0 := hT
  obtain ⟨t1, t2, t3, t4, t5, t6, t7⟩ := hT
  refine qN.of [some (qP 1), some (qI a), some (qI b), some (qI e), some (qI f), none, none, none] (by decide) rfl (fun _ => rfl) (fun _ => Nat.le_of_ble_eq_true rfl) ?_
  refine g_aload_n (i := 0) dX6_append_0 rfl rfl ?_
  refine g_getI (ji := 3) dX6_append_1 fl6_22 (by first | rfl | assumption) (by first | decide | (show _ < 62; omega)) (by first | rfl | assumption) (by decide) rfl (by first | assumption | rfl) ?_
  refine g_istore5 dX6_append_4 rfl ?_
  refine g_iload dX6_append_6 rfl ?_
  refine g_iconst dX6_append_8 ?_
  refine g_imul dX6_append_9 ?_
  refine g_istore6 dX6_append_10 rfl ?_
  refine g_aload_n (i := 0) dX6_append_12 rfl rfl ?_
  refine g_getP dX6_append_13 fl6_9 (by first | rfl | assumption) (by first | decide | (show _ < 62; omega)) (by first | rfl | assumption) ?_
  refine g_iload dX6_append_16 rfl ?_
  refine g_iload_n (i := 1) dX6_append_18 rfl rfl ?_
  refine g_iastore dX6_append_19 (by first | rfl | assumption) (by first | decide | (show _ < 62; omega)) ?_
  refine g_aload_n (i := 0) dX6_append_20 rfl rfl ?_
  refine g_getP dX6_append_21 fl6_9 (by first | rfl | assumption) (by first | decide | (show _ < 62; omega)) (by first | rfl | assumption) ?_
  refine g_iload dX6_append_24 rfl ?_
  refine g_iconst dX6_append_26 ?_
  refine g_iadd dX6_append_27 ?_
  refine g_iload_n (i := 2) dX6_append_28 rfl rfl ?_
  refine g_iastore dX6_append_29 (by first | rfl | assumption) (by first | decide | (show _ < 62; omega)) ?_
  refine g_aload_n (i := 0) dX6_append_30 rfl rfl ?_
  refine g_getP dX6_append_31 fl6_9 (by first | rfl | assumption) (by first | decide | (show _ < 62; omega)) (by first | rfl | assumption) ?_
  refine g_iload dX6_append_34 rfl ?_
  refine g_iconst dX6_append_36 ?_
  refine g_iadd dX6_append_37 ?_
  refine g_iload_n (i := 3) dX6_append_38 rfl rfl ?_
  refine g_iastore dX6_append_39 (by first | rfl | assumption) (by first | decide | (show _ < 62; omega)) ?_
  refine g_aload_n (i := 0) dX6_append_40 rfl rfl ?_
  refine g_getP dX6_append_41 fl6_9 (by first | rfl | assumption) (by first | decide | (show _ < 62; omega)) (by first | rfl | assumption) ?_
  refine g_iload dX6_append_44 rfl ?_
  refine g_iconst dX6_append_46 ?_
  refine g_iadd dX6_append_47 ?_
  refine g_iload dX6_append_48 rfl ?_
  refine g_iastore dX6_append_50 (by first | rfl | assumption) (by first | decide | (show _ < 62; omega)) ?_
  refine g_iconst dX6_append_51 ?_
  refine g_istore7 dX6_append_52 rfl ?_
  have L54 : ∀ (fu54 : Nat) (o : Int) (c1 : qC), (n + 1 - o).toNat < fu54 → (0 ≤ o) → (o ≤ n + 1) → (c1 1 = c 1) → (∀ k, k ≠ 1 → k ≠ 2 → k ≠ 3 → c1 k = c k) → (∀ i x, 0 ≤ i → i ≤ n → 0 ≤ x → x < wd → c1 2 (i * 4 + x) = nw N n a b e f i x) → (∀ kd i j, 0 ≤ kd → kd < 3 → 0 ≤ i → i < n → 0 ≤ j → j < n → c1 3 ((kd * 30 + i) * 30 + j) = ds wd N kd i j) → (∀ kd j, 0 ≤ kd → kd < 3 → 0 ≤ j → j < o → c1 3 ((kd * 30 + n) * 30 + j) = ds wd (nw N n a b e f) kd n j ∧ c1 3 ((kd * 30 + j) * 30 + n) = ds wd (nw N n a b e f) kd j n) → qG (qYn X6_append 3 (pI (fun z c' => z = n ∧ Tb c' (n + 1) wd (nw N n a b e f) ∧ (∀ k, k ≠ 1 → k ≠ 2 → k ≠ 3 → c' k = c k)))) wN 54 [some (qP 1), some (qI a), some (qI b), some (qI e), some (qI f), some (qI n), some (qI (n * 4)), some (qI o)] [] c1 := by
    intro fu54
    induction fu54 with
    | zero => intro o c1 hm; exact absurd hm (Nat.not_lt_zero _)
    | succ fu54 ih54 =>
      intro o c1 hm54 o0 o1 q1 qk qn qd qo
      have w1 : c1 1 2 = wd := by rw [q1]; exact t2
      have hbo : ∀ i, 0 ≤ i → i ≤ n → Nb wd (nw N n a b e f) i := by
        intro i h0 h1
        by_cases hi : i = n
        · rw [hi]; exact hb
        · intro x x0 x1; rw [nw_ne hi]; exact t6 i h0 (by omega) x x0 x1
      refine g_iload dX6_append_54 rfl ?_
      refine g_iload dX6_append_56 rfl ?_
      refine g_icmp_gt 75 dX6_append_58 (by decide) (fun b58 => ?_) (fun b58 => ?_)
      · skip
        refine g_aload_n (i := 0) dX6_append_75 rfl rfl ?_
        refine g_iload dX6_append_76 rfl ?_
        refine g_iconst dX6_append_78 ?_
        refine g_iadd dX6_append_79 ?_
        refine g_putI 3 dX6_append_80 fl6_22 fw6_3 (by first | rfl | assumption) (by first | decide | (show _ < 62; omega)) (by first | rfl | assumption) (by decide) rfl ?_
        refine g_iload dX6_append_83 rfl ?_
        exact n_reti dX6_append_85 rfl (⟨rfl, ⟨rfl, w1, by omega, t4, fun i x i0 i1 x0 x1 => qn i x i0 (by omega) x0 x1, fun i i0 i1 => hbo i i0 (by omega), fun kd i j k0 k1 i0 i1 j0 j1 => by
      show c1 3 _ = _
      by_cases hi : i = n
      · subst hi; exact (qo kd j k0 k1 j0 (by omega)).1
      · by_cases hj : j = n
        · subst hj; exact (qo kd i k0 k1 i0 (by omega)).2
        · rw [nw_ds hi hj]; exact qd kd i j k0 k1 i0 (by omega) j0 (by omega)⟩, fun k k1 k2 k3 => by rw [qu_ne k1]; exact qk k k1 k2 k3⟩)
      · skip
        refine g_aload_n (i := 0) dX6_append_61 rfl rfl ?_
        refine g_iload dX6_append_62 rfl ?_
        refine g_iload dX6_append_64 rfl ?_
        refine n_callVv (k_X6_measure _ wd _ _ (nw N n a b e f) w1 (by omega) (by omega) (by omega) (by omega) (by omega) (by omega) (fun x x0 x1 => qn n x (by omega) (by omega) x0 x1) (fun x x0 x1 => qn o x (by omega) (by omega) x0 x1) hb (hbo o o0 (by omega))) dX6_append_66 lk6_25 im_X6_measure (by first | rfl | assumption) (by first | decide | (show _ < 62; omega)) rfl rfl rfl rfl (Nat.le_of_ble_eq_true rfl) (fun c' hz => ?_)
        subst hz
        refine g_iinc7 dX6_append_69 rfl ?_
        refine g_goto 54 dX6_append_72 (by decide) ?_
        exact ih54 _ _ (by omega) (by first | assumption | omega) (by first | assumption | omega) (by rw [ms_ne (by decide)]; exact q1) (fun k k1 k2 k3 => by rw [ms_ne k3]; exact qk k k1 k2 k3) (fun i x i0 i1 x0 x1 => by rw [ms_ne (by decide)]; exact qn i x i0 i1 x0 x1) (fun kd i j k0 k1 i0 i1 j0 j1 => by rw [ms_at k0 k1 i0 (by omega) j0 (by omega) (by omega) (by omega) (by omega) (by omega), if_neg (by omega)]; exact qd kd i j k0 k1 i0 i1 j0 j1) (fun kd j k0 k1 j0 j1 => by
      rw [ms_at k0 k1 (by omega) (by omega) j0 (by omega) (by omega) (by omega) (by omega) (by omega), ms_at k0 k1 j0 (by omega) (by omega) (by omega) (by omega) (by omega) (by omega) (by omega)]
      by_cases hj : j = o
      · subst hj
        rw [if_pos (Or.inl ⟨rfl, rfl⟩), if_pos (Or.inr ⟨rfl, rfl⟩), ds_comm wd _ kd j n]
        exact ⟨rfl, rfl⟩
      · rw [if_neg (by omega), if_neg (by omega)]
        exact qo kd j k0 k1 j0 (by omega))
  exact L54 _ _ _ (Nat.lt_succ_self _) (by first | assumption | omega) (by first | assumption | omega) rfl (fun k k1 k2 k3 => by rw [qu_ne k2, qu_ne k2, qu_ne k2, qu_ne k2]) (fun i x i0 i1 x0 x1 => by
      by_cases hi : i = n
      · subst hi
        rw [qu_at, qu_at, qu_at, qu_at]
        unfold nw
        rw [if_pos rfl]
        obtain rfl | rfl | rfl | rfl : x = 0 ∨ x = 1 ∨ x = 2 ∨ x = 3 := by omega
        · rw [if_neg (by omega), if_neg (by omega), if_neg (by omega), if_pos (by omega), if_pos rfl]
        · rw [if_neg (by omega), if_neg (by omega), if_pos (by omega), if_neg (by omega), if_pos rfl]
        · rw [if_neg (by omega), if_pos (by omega), if_neg (by omega), if_neg (by omega), if_pos rfl]
        · rw [if_pos (by omega), if_neg (by omega), if_neg (by omega), if_neg (by omega)]
      · rw [nw_ne hi, qu_off (by omega), qu_off (by omega), qu_off (by omega), qu_off (by omega)]
        exact t5 i x i0 (by omega) x0 x1) t7 (fun kd j _ _ h0 h1 => by omega)
