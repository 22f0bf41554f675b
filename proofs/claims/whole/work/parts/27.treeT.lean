def Qs (n i j : Int) : Int → Int → Prop := fun p q => ((0 ≤ p ∧ p < n) ∧ 0 ≤ q ∧ q < n) ∧ (p < i ∨ (p = i ∧ q < j))
theorem EE.congr {r : Int → Int → Prop} {D : Int → Int → Int} {L : Int → Int} {Q Q2 : Int → Int → Prop} {a b v : Int} (hq : ∀ p q, Q p q ↔ Q2 p q) (h : EE r D L Q a b v) : EE r D L Q2 a b v := by
  rcases h with ⟨h1, h2⟩ | ⟨⟨i, j, k1, k2⟩, h2⟩
  · exact Or.inl ⟨h1, fun p q g => h2 p q ((hq p q).mpr g)⟩
  · exact Or.inr ⟨⟨i, j, (hq i j).mp k1, k2⟩, fun p q g => h2 p q ((hq p q).mpr g)⟩
theorem EE.bd {r : Int → Int → Prop} {D : Int → Int → Int} {L : Int → Int} {n i j a b v : Int} (hD : Db D n) (h : EE r D L (Qs n i j) a b v) : -1 ≤ v ∧ v ≤ 16000000 := by
  rcases h with ⟨h1, h2⟩ | ⟨⟨p, q, k1, k2, k3, k4⟩, h2⟩
  · omega
  · have := hD p q k1.1.1.1 k1.1.1.2 k1.1.2.1 k1.1.2.2
    omega
theorem EE.nw {r : Int → Int → Prop} {D : Int → Int → Int} {L : Int → Int} {n i j v : Int} (hD : Db D n) (rf : ∀ x, r x x) (tr : ∀ x y z, r x y → r y z → r x z) (h : EE r D L (Qs n i j) (L i) (L j) v) (i0 : 0 ≤ i ∧ i < n) (j0 : 0 ≤ j ∧ j < n) (hv : v = -1 ∨ r (D i j) v) : EE r D L (Qs n i (j + 1)) (L i) (L j) (D i j) := by
  refine Or.inr ⟨⟨i, j, ⟨⟨i0, j0⟩, Or.inr ⟨rfl, by omega⟩⟩, rfl, rfl, rfl⟩, fun p q g e1 e2 => ?_⟩
  by_cases e : p = i ∧ q = j
  · rw [e.1, e.2]; exact rf _
  · have g2 : Qs n i j p q := ⟨g.1, by have := g.2; omega⟩
    rcases h with ⟨h1, h2⟩ | h2
    · exact absurd e2 (h2 p q g2 e1)
    · rcases hv with hv | hv
      · obtain ⟨⟨x, y, k1, k2, k3, k4⟩, -⟩ := h2
        have := hD x y k1.1.1.1 k1.1.1.2 k1.1.2.1 k1.1.2.2
        omega
      · exact tr _ _ _ hv (h2.2 p q g2 e1 e2)
theorem EE.od {r : Int → Int → Prop} {D : Int → Int → Int} {L : Int → Int} {n i j v : Int} (h : EE r D L (Qs n i j) (L i) (L j) v) (hv : ¬ v = -1) (hr : r v (D i j)) : EE r D L (Qs n i (j + 1)) (L i) (L j) v := by
  rcases h with ⟨h1, h2⟩ | ⟨⟨x, y, k1, k2⟩, h2⟩
  · exact absurd h1 hv
  · refine Or.inr ⟨⟨x, y, ⟨k1.1, by have := k1.2; omega⟩, k2⟩, fun p q g e1 e2 => ?_⟩
    by_cases e : p = i ∧ q = j
    · rw [e.1, e.2]; exact hr
    · exact h2 p q ⟨g.1, by have := g.2; omega⟩ e1 e2
theorem EE.ot {r : Int → Int → Prop} {D : Int → Int → Int} {L : Int → Int} {n i j a b v : Int} (h : EE r D L (Qs n i j) a b v) (hv : ¬ (L i = a ∧ L j = b)) : EE r D L (Qs n i (j + 1)) a b v := by
  rcases h with ⟨h1, h2⟩ | ⟨⟨x, y, k1, k2⟩, h2⟩
  · refine Or.inl ⟨h1, fun p q g e1 e2 => ?_⟩
    by_cases e : p = i ∧ q = j
    · rw [e.1] at e1; rw [e.2] at e2; exact hv ⟨e1, e2⟩
    · exact h2 p q ⟨g.1, by have := g.2; omega⟩ e1 e2
  · refine Or.inr ⟨⟨x, y, ⟨k1.1, by have := k1.2; omega⟩, k2⟩, fun p q g e1 e2 => ?_⟩
    by_cases e : p = i ∧ q = j
    · rw [e.1] at e1; rw [e.2] at e2; exact absurd ⟨e1, e2⟩ hv
    · exact h2 p q ⟨g.1, by have := g.2; omega⟩ e1 e2
/-- the CLUSTERS as the reference has gathered them -/
def GT (c : qC) (n wd : Int) (N D : Int → Int → Int) (L : Int → Int) : Prop := (∀ a, 0 ≤ a → a < n → c 57 a = cn L n a) ∧ (∀ a x, 0 ≤ a → a < n → 0 ≤ x → x < wd → c 58 (4 * a + x) = sg L n a (fun r => N r x)) ∧ (∀ a b, 0 ≤ a → a < n → 0 ≤ b → b < n → EE rle D L (Rg n) a b (c 59 (30 * a + b)) ∧ EE rge D L (Rg n) a b (c 60 (30 * a + b)) ∧ c 61 (30 * a + b) = SS D L n a b)
theorem GT.fr {c c' : qC} {n wd : Int} {N D : Int → Int → Int} {L : Int → Int} (h : GT c n wd N D L) (hf : ∀ q, 57 ≤ q → q ≤ 61 → c' q = c q) : GT c' n wd N D L := by
  unfold GT at h ⊢
  rw [hf 57 (by decide) (by decide), hf 58 (by decide) (by decide), hf 59 (by decide) (by decide), hf 60 (by decide) (by decide), hf 61 (by decide) (by decide)]
  exact h
theorem EE.liv {r : Int → Int → Prop} {D : Int → Int → Int} {L : Int → Int} {n a b v : Int} (h : EE r D L (Rg n) a b v) (a0 : 0 ≤ a) (a1 : a < n) (b0 : 0 ≤ b) (b1 : b < n) (la : L a = a) (lb : L b = b) : Ext r D L (Rg n) a b v := by
  rcases h with ⟨h1, h2⟩ | h
  · exact absurd lb (h2 a b ⟨⟨a0, a1⟩, b0, b1⟩ la)
  · exact h
theorem rle_t : ∀ x y z, rle x y → rle y z → rle x z := fun x y z h1 h2 => by unfold rle at *; omega
theorem rge_t : ∀ x y z, rge x y → rge y z → rge x z := fun x y z h1 h2 => by unfold rge at *; omega
set_option maxHeartbeats 4000000 in
set_option maxRecDepth 100000 in
theorem k_X8_gather (c : qC) (n wd kd : Int) (N : Int → Int → Int) (hM : Md c n wd N) (d0 : 0 ≤ kd) (d1 : kd < 3) (L : Int → Int) (hL : ∀ r, 0 ≤ r → r < n → c 56 r = L r ∧ 0 ≤ L r ∧ L r < n) (hl : ∀ i j, 0 ≤ i → i < n → 0 ≤ j → j < n → c 50 (30 * i + j) = (ds wd N kd) i j) : qN X8_gather 0 [qP 39] c (pV (fun c' => (∀ q, (q < 57 ∨ 61 < q) → c' q = c q) ∧ GT c' n wd N (ds wd N kd) L)) := by
  have hM0 := hM
  obtain ⟨t1, t2, t3, t4, t5, t6⟩ := hM
  have hD : Db (ds wd N kd) n := fun i j i0 i1 j0 j1 => hM0.bd (kd := kd) i0 i1 j0 j1
  refine qN.of [some (qP 39), none, none, none, none, none, none] (by decide) rfl (fun _ => rfl) (fun _ => Nat.le_of_ble_eq_true rfl) ?_
  refine g_iconst dX8_gather_0 ?_
  refine g_istore_n1 dX8_gather_1 rfl ?_
  have L2 : ∀ (fu2 : Nat) (k : Int) (c1 : qC), (900 - k).toNat < fu2 → (0 ≤ k) → (k ≤ 900) → (∀ q, (q < 57 ∨ 61 < q) → c1 q = c q) → (∀ x, 0 ≤ x → x < k → c1 59 x = -1 ∧ c1 60 x = -1 ∧ c1 61 x = 0) → qG (qYn X8_gather 0 (pV (fun c' => (∀ q, (q < 57 ∨ 61 < q) → c' q = c q) ∧ GT c' n wd N (ds wd N kd) L))) wN 2 [some (qP 39), some (qI k), none, none, none, none, none] [] c1 := by
    intro fu2
    induction fu2 with
    | zero => intro k c1 hm; exact absurd hm (Nat.not_lt_zero _)
    | succ fu2 ih2 =>
      intro k c1 hm2 k0 k1 ff h1
      refine g_iload_n (i := 1) dX8_gather_2 rfl rfl ?_
      refine g_sipush dX8_gather_3 (by decide) ?_
      refine g_icmp_ge 40 dX8_gather_6 (by decide) (fun b6 => ?_) (fun b6 => ?_)
      · skip
        refine g_iconst dX8_gather_40 ?_
        refine g_istore_n1 dX8_gather_41 rfl ?_
        have L42 : ∀ (fu42 : Nat) (i : Int) (c1 : qC), (n - i).toNat < fu42 → (0 ≤ i) → (i ≤ n) → (∀ q, (q < 57 ∨ 61 < q) → c1 q = c q) → (∀ x, 0 ≤ x → x < 900 → c1 59 x = -1 ∧ c1 60 x = -1 ∧ c1 61 x = 0) → (∀ a, 0 ≤ a → a < i → c1 57 a = 0) → (∀ a x, 0 ≤ a → a < i → 0 ≤ x → x < wd → c1 58 (4 * a + x) = 0) → qG (qYn X8_gather 0 (pV (fun c' => (∀ q, (q < 57 ∨ 61 < q) → c' q = c q) ∧ GT c' n wd N (ds wd N kd) L))) wN 42 [some (qP 39), some (qI i), none, none, none, none, none] [] c1 := by
          intro fu42
          induction fu42 with
          | zero => intro i c1 hm; exact absurd hm (Nat.not_lt_zero _)
          | succ fu42 ih42 =>
            intro i c1 hm42 i0 i1 ff h1 h2 h3
            have e1 : c1 39 0 = n := by rw [ff 39 (by decide)]; exact t1
            refine g_iload_n (i := 1) dX8_gather_42 rfl rfl ?_
            refine g_aload_n (i := 0) dX8_gather_43 rfl rfl ?_
            refine g_getI (ji := 0) dX8_gather_44 fl8_82 (by first | rfl | assumption) (by first | decide | (show _ < 62; omega)) (by first | rfl | assumption) (by decide) rfl (by first | assumption | rfl) ?_
            refine g_icmp_ge 90 dX8_gather_47 (by decide) (fun b47 => ?_) (fun b47 => ?_)
            · skip
              refine g_iconst dX8_gather_90 ?_
              refine g_istore_n1 dX8_gather_91 rfl ?_
              have L92 : ∀ (fu92 : Nat) (i : Int) (c1 : qC), (n - i).toNat < fu92 → (0 ≤ i) → (i ≤ n) → (∀ q, (q < 57 ∨ 61 < q) → c1 q = c q) → (∀ a, 0 ≤ a → a < n → c1 57 a = cn L i a) → (∀ a x, 0 ≤ a → a < n → 0 ≤ x → x < wd → c1 58 (4 * a + x) = sg L i a (fun r => N r x)) → (∀ a b, 0 ≤ a → a < n → 0 ≤ b → b < n → EE rle (ds wd N kd) L (Qs n i 0) a b (c1 59 (30 * a + b)) ∧ EE rge (ds wd N kd) L (Qs n i 0) a b (c1 60 (30 * a + b)) ∧ c1 61 (30 * a + b) = sg L i a (fun p => sg L n b (fun q => (ds wd N kd) p q))) → qG (qYn X8_gather 0 (pV (fun c' => (∀ q, (q < 57 ∨ 61 < q) → c' q = c q) ∧ GT c' n wd N (ds wd N kd) L))) wN 92 [some (qP 39), some (qI i), none, none, none, none, none] [] c1 := by
                intro fu92
                induction fu92 with
                | zero => intro i c1 hm; exact absurd hm (Nat.not_lt_zero _)
                | succ fu92 ih92 =>
                  intro i c1 hm92 i0 i1 ff h2 h3 hg
                  have e1 : c1 39 0 = n := by rw [ff 39 (by decide)]; exact t1
                  refine g_iload_n (i := 1) dX8_gather_92 rfl rfl ?_
                  refine g_aload_n (i := 0) dX8_gather_93 rfl rfl ?_
                  refine g_getI (ji := 0) dX8_gather_94 fl8_82 (by first | rfl | assumption) (by first | decide | (show _ < 62; omega)) (by first | rfl | assumption) (by decide) rfl (by first | assumption | rfl) ?_
                  refine g_icmp_ge 296 dX8_gather_97 (by decide) (fun b97 => ?_) (fun b97 => ?_)
                  · skip
                    exact n_retv dX8_gather_296 rfl (⟨ff, fun a q0 q1 => by rw [h2 a q0 q1, show i = n by omega], fun a x q0 q1 x0 x1 => by rw [h3 a x q0 q1 x0 x1, show i = n by omega], fun a b q0 q1 b0 b1 => by
                            have h5 := hg a b q0 q1 b0 b1
                            rw [show i = n by omega] at h5
                            exact ⟨h5.1.congr (fun p q => by unfold Qs Rg; omega), h5.2.1.congr (fun p q => by unfold Qs Rg; omega), h5.2.2⟩⟩)
                  · skip
                    have hLi := hL i i0 (by omega)
                    have hLic : c1 56 i = L i := by rw [ff 56 (by decide)]; exact hLi.1
                    refine g_aload_n (i := 0) dX8_gather_100 rfl rfl ?_
                    refine g_getP dX8_gather_101 fl8_64 (by first | rfl | assumption) (by first | decide | (show _ < 62; omega)) (by first | rfl | assumption) ?_
                    refine g_iload_n (i := 1) dX8_gather_104 rfl rfl ?_
                    refine g_iaload dX8_gather_105 rfl (by decide) ?_
                    rw [hLic]
                    skip -- ?_
                    refine g_istore_n2 dX8_gather_106 rfl ?_
                    refine g_aload_n (i := 0) dX8_gather_107 rfl rfl ?_
                    refine g_getP dX8_gather_108 fl8_67 (by first | rfl | assumption) (by first | decide | (show _ < 62; omega)) (by first | rfl | assumption) ?_
                    refine g_iload_n (i := 2) dX8_gather_111 rfl rfl ?_
                    first | refine g_dup2 dX8_gather_112 rfl rfl ?_ | refine g_dup2l dX8_gather_112 rfl ?_
                    refine g_laload dX8_gather_113 (by first | rfl | assumption) (by first | decide | (show _ < 62; omega)) ?_
                    refine g_lconst (z := 1) dX8_gather_114 (by decide) ?_
                    refine g_ladd dX8_gather_115 ?_
                    refine g_lastore dX8_gather_116 (by first | rfl | assumption) (by first | decide | (show _ < 62; omega)) ?_
                    refine g_iconst dX8_gather_117 ?_
                    refine g_istore_n3 dX8_gather_118 rfl ?_
                    have L119 : ∀ (fu119 : Nat) (x : Int) (c2 : qC), (wd - x).toNat < fu119 → (0 ≤ x) → (x ≤ wd) → (∀ q, (q < 57 ∨ 61 < q) → c2 q = c q) → (∀ a, 0 ≤ a → a < n → c2 57 a = cn L (i + 1) a) → (∀ a y, 0 ≤ a → a < n → 0 ≤ y → y < wd → c2 58 (4 * a + y) = if y < x then sg L (i + 1) a (fun r => N r y) else sg L i a (fun r => N r y)) → (∀ a b, 0 ≤ a → a < n → 0 ≤ b → b < n → EE rle (ds wd N kd) L (Qs n i 0) a b (c2 59 (30 * a + b)) ∧ EE rge (ds wd N kd) L (Qs n i 0) a b (c2 60 (30 * a + b)) ∧ c2 61 (30 * a + b) = sg L i a (fun p => sg L n b (fun q => (ds wd N kd) p q))) → qG (qYn X8_gather 0 (pV (fun c' => (∀ q, (q < 57 ∨ 61 < q) → c' q = c q) ∧ GT c' n wd N (ds wd N kd) L))) wN 119 [some (qP 39), some (qI i), some (qI (L i)), some (qI x), none, none, none] [] c2 := by
                      intro fu119
                      induction fu119 with
                      | zero => intro x c2 hm; exact absurd hm (Nat.not_lt_zero _)
                      | succ fu119 ih119 =>
                        intro x c2 hm119 x0 x1 ff2 h22 h32 hg2
                        have e2 : c2 39 1 = wd := by rw [ff2 39 (by decide)]; exact t2
                        refine g_iload_n (i := 3) dX8_gather_119 rfl rfl ?_
                        refine g_aload_n (i := 0) dX8_gather_120 rfl rfl ?_
                        refine g_getI (ji := 1) dX8_gather_121 fl8_7 (by first | rfl | assumption) (by first | decide | (show _ < 62; omega)) (by first | rfl | assumption) (by decide) rfl (by first | assumption | rfl) ?_
                        refine g_icmp_ge 157 dX8_gather_124 (by decide) (fun b124 => ?_) (fun b124 => ?_)
                        · skip
                          refine g_iconst dX8_gather_157 ?_
                          refine g_istore_n3 dX8_gather_158 rfl ?_
                          have L159 : ∀ (fu159 : Nat) (j : Int) (c3 : qC), (n - j).toNat < fu159 → (0 ≤ j) → (j ≤ n) → (∀ q, (q < 57 ∨ 61 < q) → c3 q = c q) → (∀ a, 0 ≤ a → a < n → c3 57 a = cn L (i + 1) a) → (∀ a x, 0 ≤ a → a < n → 0 ≤ x → x < wd → c3 58 (4 * a + x) = sg L (i + 1) a (fun r => N r x)) → (∀ a b, 0 ≤ a → a < n → 0 ≤ b → b < n → EE rle (ds wd N kd) L (Qs n i j) a b (c3 59 (30 * a + b)) ∧ EE rge (ds wd N kd) L (Qs n i j) a b (c3 60 (30 * a + b)) ∧ c3 61 (30 * a + b) = sg L i a (fun p => sg L n b (fun q => (ds wd N kd) p q)) + (if L i = a then sg L j b (fun q => (ds wd N kd) i q) else 0)) → qG (qYn X8_gather 0 (pV (fun c' => (∀ q, (q < 57 ∨ 61 < q) → c' q = c q) ∧ GT c' n wd N (ds wd N kd) L))) wN 159 [some (qP 39), some (qI i), some (qI (L i)), some (qI j), none, none, none] [] c3 := by
                            intro fu159
                            induction fu159 with
                            | zero => intro j c3 hm; exact absurd hm (Nat.not_lt_zero _)
                            | succ fu159 ih159 =>
                              intro j c3 hm159 j0 j1 ff3 h23 h33 hg3
                              have e3 : c3 39 0 = n := by rw [ff3 39 (by decide)]; exact t1
                              refine g_iload_n (i := 3) dX8_gather_159 rfl rfl ?_
                              refine g_aload_n (i := 0) dX8_gather_160 rfl rfl ?_
                              refine g_getI (ji := 0) dX8_gather_161 fl8_82 (by first | rfl | assumption) (by first | decide | (show _ < 62; omega)) (by first | rfl | assumption) (by decide) rfl (by first | assumption | rfl) ?_
                              refine g_icmp_ge 290 dX8_gather_164 (by decide) (fun b164 => ?_) (fun b164 => ?_)
                              · skip
                                refine g_iinc1 dX8_gather_290 rfl ?_
                                refine g_goto 92 dX8_gather_293 (by decide) ?_
                                refine g_fg2 ?_
                                refine g_fg3 ?_
                                exact ih92 _ _ (by omega) (by first | assumption | omega) (by first | assumption | omega) ff3 h23 h33 (fun a b q0 q1 b0 b1 => by
                                        have h5 := hg3 a b q0 q1 b0 b1
                                        rw [show j = n by omega] at h5
                                        exact ⟨h5.1.congr (fun p q => by unfold Qs; omega), h5.2.1.congr (fun p q => by unfold Qs; omega), by rw [h5.2.2, sg_s i0]⟩)
                              · skip
                                have hLj := hL j j0 (by omega)
                                have hLjc : c3 56 j = L j := by rw [ff3 56 (by decide)]; exact hLj.1
                                have hdij := hD i j i0 (by omega) j0 (by omega)
                                have hgg := hg3 (L i) (L j) hLi.2.1 hLi.2.2 hLj.2.1 hLj.2.2
                                have hg59 := hgg.1
                                have hg60 := hgg.2.1
                                have hb59 := hg59.bd hD
                                have hb60 := hg60.bd hD
                                refine g_bipush dX8_gather_167 (by decide) ?_
                                refine g_iload_n (i := 2) dX8_gather_169 rfl rfl ?_
                                refine g_imul dX8_gather_170 ?_
                                refine g_aload_n (i := 0) dX8_gather_171 rfl rfl ?_
                                refine g_getP dX8_gather_172 fl8_64 (by first | rfl | assumption) (by first | decide | (show _ < 62; omega)) (by first | rfl | assumption) ?_
                                refine g_iload_n (i := 3) dX8_gather_175 rfl rfl ?_
                                refine g_iaload dX8_gather_176 rfl (by decide) ?_
                                rw [hLjc]
                                skip -- ?_
                                refine g_iadd dX8_gather_177 ?_
                                refine g_istore4 dX8_gather_178 rfl ?_
                                refine g_aload_n (i := 0) dX8_gather_180 rfl rfl ?_
                                refine g_getP dX8_gather_181 fl8_46 (by first | rfl | assumption) (by first | decide | (show _ < 62; omega)) (by first | rfl | assumption) ?_
                                refine g_bipush dX8_gather_184 (by decide) ?_
                                refine g_iload_n (i := 1) dX8_gather_186 rfl rfl ?_
                                refine g_imul dX8_gather_187 ?_
                                refine g_iload_n (i := 3) dX8_gather_188 rfl rfl ?_
                                refine g_iadd dX8_gather_189 ?_
                                refine g_iaload dX8_gather_190 rfl (by decide) ?_
                                rw [show c3 50 (30 * i + j) = (ds wd N kd) i j by rw [ff3 50 (by decide)]; exact hl i j i0 (by omega) j0 (by omega)]
                                skip -- ?_
                                refine g_i2lx dX8_gather_191 ?_
                                refine g_lstore5 dX8_gather_192 rfl ?_
                                refine g_aload_n (i := 0) dX8_gather_194 rfl rfl ?_
                                refine g_getP dX8_gather_195 fl8_73 (by first | rfl | assumption) (by first | decide | (show _ < 62; omega)) (by first | rfl | assumption) ?_
                                refine g_iload dX8_gather_198 rfl ?_
                                refine g_aload_n (i := 0) dX8_gather_200 rfl rfl ?_
                                refine g_getP dX8_gather_201 fl8_73 (by first | rfl | assumption) (by first | decide | (show _ < 62; omega)) (by first | rfl | assumption) ?_
                                refine g_iload dX8_gather_204 rfl ?_
                                refine g_laload dX8_gather_206 (by first | rfl | assumption) (by first | decide | (show _ < 62; omega)) ?_
                                have J239 : ∀ (v1 : Int), (EE rle (ds wd N kd) L (Qs n i (j + 1)) (L i) (L j) v1) → qG (qYn X8_gather 0 (pV (fun c' => (∀ q, (q < 57 ∨ 61 < q) → c' q = c q) ∧ GT c' n wd N (ds wd N kd) L))) wN 239 [some (qP 39), some (qI i), some (qI (L i)), some (qI j), some (qI (30 * L i + L j)), some (qJ ((ds wd N kd) i j)), none] [qJ v1, qI (30 * L i + L j), qP 59] c3 := by
                                  intro v1 hv1
                                  refine g_lastore dX8_gather_239 (by first | rfl | assumption) (by first | decide | (show _ < 62; omega)) ?_
                                  refine g_aload_n (i := 0) dX8_gather_240 rfl rfl ?_
                                  refine g_getP dX8_gather_241 fl8_76 (by first | rfl | assumption) (by first | decide | (show _ < 62; omega)) (by first | rfl | assumption) ?_
                                  refine g_iload dX8_gather_244 rfl ?_
                                  refine g_lload dX8_gather_246 rfl ?_
                                  refine g_aload_n (i := 0) dX8_gather_248 rfl rfl ?_
                                  refine g_getP dX8_gather_249 fl8_76 (by first | rfl | assumption) (by first | decide | (show _ < 62; omega)) (by first | rfl | assumption) ?_
                                  refine g_iload dX8_gather_252 rfl ?_
                                  refine g_laload dX8_gather_254 rfl (by decide) ?_
                                  rw [show qu c3 59 (30 * L i + L j) v1 60 (30 * L i + L j) = c3 60 (30 * L i + L j) from rfl]
                                  skip -- ?_
                                  have J271 : ∀ (v2 : Int), (EE rge (ds wd N kd) L (Qs n i (j + 1)) (L i) (L j) v2) → qG (qYn X8_gather 0 (pV (fun c' => (∀ q, (q < 57 ∨ 61 < q) → c' q = c q) ∧ GT c' n wd N (ds wd N kd) L))) wN 271 [some (qP 39), some (qI i), some (qI (L i)), some (qI j), some (qI (30 * L i + L j)), some (qJ ((ds wd N kd) i j)), none] [qJ v2, qI (30 * L i + L j), qP 60] (qu c3 59 (30 * L i + L j) v1) := by
                                    intro v2 hv2
                                    refine g_lastore dX8_gather_271 (by first | rfl | assumption) (by first | decide | (show _ < 62; omega)) ?_
                                    refine g_aload_n (i := 0) dX8_gather_272 rfl rfl ?_
                                    refine g_getP dX8_gather_273 fl8_79 (by first | rfl | assumption) (by first | decide | (show _ < 62; omega)) (by first | rfl | assumption) ?_
                                    refine g_iload dX8_gather_276 rfl ?_
                                    first | refine g_dup2 dX8_gather_278 rfl rfl ?_ | refine g_dup2l dX8_gather_278 rfl ?_
                                    refine g_laload dX8_gather_279 (by first | rfl | assumption) (by first | decide | (show _ < 62; omega)) ?_
                                    refine g_lload dX8_gather_280 rfl ?_
                                    refine g_ladd dX8_gather_282 ?_
                                    refine g_lastore dX8_gather_283 (by first | rfl | assumption) (by first | decide | (show _ < 62; omega)) ?_
                                    refine g_iinc3 dX8_gather_284 rfl ?_
                                    refine g_goto 159 dX8_gather_287 (by decide) ?_
                                    refine g_fg4 ?_
                                    refine g_fg5 ?_
                                    exact ih159 _ _ (by omega) (by first | assumption | omega) (by first | assumption | omega) (fun q hq => by rw [qu_ne (by omega), qu_ne (by omega), qu_ne (by omega)]; exact ff3 q hq) h23 h33 (fun a b q0 q1 b0 b1 => by
                                            have h5 := hg3 a b q0 q1 b0 b1
                                            show EE rle (ds wd N kd) L _ a b (if 30 * a + b = (30 * L i + L j) then v1 else c3 59 (30 * a + b)) ∧ EE rge (ds wd N kd) L _ a b (if 30 * a + b = (30 * L i + L j) then v2 else c3 60 (30 * a + b)) ∧ (if 30 * a + b = (30 * L i + L j) then c3 61 (30 * L i + L j) + (ds wd N kd) i j else c3 61 (30 * a + b)) = _
                                            by_cases e : 30 * a + b = (30 * L i + L j)
                                            · have ea : a = L i := by omega
                                              have eb : b = L j := by omega
                                              subst ea
                                              subst eb
                                              rw [if_pos rfl, if_pos rfl, if_pos rfl]
                                              refine ⟨hv1, hv2, ?_⟩
                                              rw [h5.2.2, if_pos rfl, if_pos rfl, sg_s j0, if_pos rfl]; omega
                                            · rw [if_neg e, if_neg e, if_neg e]
                                              have hne : ¬ (L i = a ∧ L j = b) := fun h => e (by rw [h.1, h.2])
                                              refine ⟨h5.1.ot hne, h5.2.1.ot hne, ?_⟩
                                              rw [h5.2.2]
                                              by_cases ea : L i = a
                                              · rw [if_pos ea, if_pos ea, sg_s j0, if_neg (fun h => hne ⟨ea, h⟩)]; omega
                                              · rw [if_neg ea, if_neg ea])
                                  refine g_lif_le 264 dX8_gather_255 dX8_gather_256 (by decide) (fun b255 => ?_) (fun b255 => ?_)
                                  · skip
                                    refine g_aload_n (i := 0) dX8_gather_264 rfl rfl ?_
                                    refine g_getP dX8_gather_265 fl8_76 (by first | rfl | assumption) (by first | decide | (show _ < 62; omega)) (by first | rfl | assumption) ?_
                                    refine g_iload dX8_gather_268 rfl ?_
                                    refine g_laload dX8_gather_270 (by first | rfl | assumption) (by first | decide | (show _ < 62; omega)) ?_
                                    exact J271 _ (by first | exact hg60.nw hD (fun x => Int.le_refl x) rge_t ⟨i0, by omega⟩ ⟨j0, by omega⟩ (by unfold rge; omega) | exact hg60.od (by omega) (by unfold rge; omega))
                                  · skip
                                    refine g_lload dX8_gather_259 rfl ?_
                                    refine g_goto 271 dX8_gather_261 (by decide) ?_
                                    exact J271 _ (by first | exact hg60.nw hD (fun x => Int.le_refl x) rge_t ⟨i0, by omega⟩ ⟨j0, by omega⟩ (by unfold rge; omega) | exact hg60.od (by omega) (by unfold rge; omega))
                                refine g_ldc2 (z := -1) dX8_gather_207 cw8_156 ?_
                                refine g_lif_eq 227 dX8_gather_210 dX8_gather_211 (by decide) (fun b210 => ?_) (fun b210 => ?_)
                                · skip
                                  refine g_lload dX8_gather_227 rfl ?_
                                  refine g_goto 239 dX8_gather_229 (by decide) ?_
                                  exact J239 _ (by first | exact hg59.nw hD (fun x => Int.le_refl x) rle_t ⟨i0, by omega⟩ ⟨j0, by omega⟩ (by unfold rle; omega) | exact hg59.od (by omega) (by unfold rle; omega))
                                · skip
                                  refine g_lload dX8_gather_214 rfl ?_
                                  refine g_aload_n (i := 0) dX8_gather_216 rfl rfl ?_
                                  refine g_getP dX8_gather_217 fl8_73 (by first | rfl | assumption) (by first | decide | (show _ < 62; omega)) (by first | rfl | assumption) ?_
                                  refine g_iload dX8_gather_220 rfl ?_
                                  refine g_laload dX8_gather_222 (by first | rfl | assumption) (by first | decide | (show _ < 62; omega)) ?_
                                  refine g_lif_ge 232 dX8_gather_223 dX8_gather_224 (by decide) (fun b223 => ?_) (fun b223 => ?_)
                                  · skip
                                    refine g_aload_n (i := 0) dX8_gather_232 rfl rfl ?_
                                    refine g_getP dX8_gather_233 fl8_73 (by first | rfl | assumption) (by first | decide | (show _ < 62; omega)) (by first | rfl | assumption) ?_
                                    refine g_iload dX8_gather_236 rfl ?_
                                    refine g_laload dX8_gather_238 (by first | rfl | assumption) (by first | decide | (show _ < 62; omega)) ?_
                                    exact J239 _ (by first | exact hg59.nw hD (fun x => Int.le_refl x) rle_t ⟨i0, by omega⟩ ⟨j0, by omega⟩ (by unfold rle; omega) | exact hg59.od (by omega) (by unfold rle; omega))
                                  · skip
                                    refine g_lload dX8_gather_227 rfl ?_
                                    refine g_goto 239 dX8_gather_229 (by decide) ?_
                                    exact J239 _ (by first | exact hg59.nw hD (fun x => Int.le_refl x) rle_t ⟨i0, by omega⟩ ⟨j0, by omega⟩ (by unfold rle; omega) | exact hg59.od (by omega) (by unfold rle; omega))
                          exact L159 _ _ _ (Nat.lt_succ_self _) (by first | assumption | omega) (by first | assumption | omega) ff2 h22 (fun a y q0 q1 y0 y1 => by rw [h32 a y q0 q1 y0 y1, if_pos (by omega)]) (fun a b q0 q1 b0 b1 => by
                                  have h5 := hg2 a b q0 q1 b0 b1
                                  refine ⟨h5.1, h5.2.1, ?_⟩
                                  rw [h5.2.2]
                                  show _ = _ + (if L i = a then (0 : Int) else 0)
                                  split <;> omega)
                        · skip
                          have hNx := t6 i i0 (by omega) x x0 (by omega)
                          refine g_aload_n (i := 0) dX8_gather_127 rfl rfl ?_
                          refine g_getP dX8_gather_128 fl8_70 (by first | rfl | assumption) (by first | decide | (show _ < 62; omega)) (by first | rfl | assumption) ?_
                          refine g_iconst dX8_gather_131 ?_
                          refine g_iload_n (i := 2) dX8_gather_132 rfl rfl ?_
                          refine g_imul dX8_gather_133 ?_
                          refine g_iload_n (i := 3) dX8_gather_134 rfl rfl ?_
                          refine g_iadd dX8_gather_135 ?_
                          first | refine g_dup2 dX8_gather_136 rfl rfl ?_ | refine g_dup2l dX8_gather_136 rfl ?_
                          refine g_laload dX8_gather_137 (by first | rfl | assumption) (by first | decide | (show _ < 62; omega)) ?_
                          refine g_aload_n (i := 0) dX8_gather_138 rfl rfl ?_
                          refine g_getP dX8_gather_139 fl8_13 (by first | rfl | assumption) (by first | decide | (show _ < 62; omega)) (by first | rfl | assumption) ?_
                          refine g_iconst dX8_gather_142 ?_
                          refine g_iload_n (i := 1) dX8_gather_143 rfl rfl ?_
                          refine g_imul dX8_gather_144 ?_
                          refine g_iload_n (i := 3) dX8_gather_145 rfl rfl ?_
                          refine g_iadd dX8_gather_146 ?_
                          refine g_iaload dX8_gather_147 rfl (by decide) ?_
                          rw [show c2 40 (4 * i + x) = N i x by rw [ff2 40 (by decide)]; exact t5 i x i0 (by omega) x0 (by omega)]
                          skip -- ?_
                          refine g_i2lx dX8_gather_148 ?_
                          refine g_ladd dX8_gather_149 ?_
                          refine g_lastore dX8_gather_150 (by first | rfl | assumption) (by first | decide | (show _ < 62; omega)) ?_
                          refine g_iinc3 dX8_gather_151 rfl ?_
                          refine g_goto 119 dX8_gather_154 (by decide) ?_
                          exact ih119 _ _ (by omega) (by first | assumption | omega) (by first | assumption | omega) (fun q hq => by rw [qu_ne (by omega)]; exact ff2 q hq) h22 (fun a y q0 q1 y0 y1 => by
                                  rw [qu_at]
                                  by_cases e : 4 * a + y = 4 * L i + x
                                  · have e3 : a = L i := by omega
                                    have e4 : y = x := by omega
                                    rw [if_pos e, if_pos (by omega), e3, e4, sg_s i0, if_pos rfl]
                                    have h5 := h32 (L i) x hLi.2.1 hLi.2.2 x0 (by omega)
                                    rw [if_neg (by omega)] at h5
                                    rw [h5]
                                  · rw [if_neg e, h32 a y q0 q1 y0 y1]
                                    by_cases e2 : y < x
                                    · rw [if_pos e2, if_pos (by omega)]
                                    · rw [if_neg e2]
                                      by_cases e3 : y = x
                                      · rw [if_pos (by omega), sg_s i0, if_neg (fun h => by rw [h] at e; omega)]; omega
                                      · rw [if_neg (by omega)]) hg2
                    exact L119 _ _ _ (Nat.lt_succ_self _) (by first | assumption | omega) (by first | assumption | omega) (fun q hq => by rw [qu_ne (by omega)]; exact ff q hq) (fun a q0 q1 => by
                            rw [cn_s i0, qu_at]
                            by_cases e : a = L i
                            · rw [if_pos e, if_pos e.symm, e, h2 (L i) hLi.2.1 hLi.2.2]
                            · rw [if_neg e, if_neg (fun h => e h.symm), h2 a q0 q1]; omega) (fun a y q0 q1 y0 y1 => by rw [if_neg (by omega)]; exact h3 a y q0 q1 y0 y1) hg
              exact L92 _ _ _ (Nat.lt_succ_self _) (by first | assumption | omega) (by first | assumption | omega) ff (fun a q0 q1 => by rw [h2 a q0 (by omega)]; rfl) (fun a x q0 q1 x0 x1 => by rw [h3 a x q0 (by omega) x0 x1]; rfl) (fun a b q0 q1 b0 b1 => by
                      have h5 := h1 (30 * a + b) (by omega) (by omega)
                      exact ⟨Or.inl ⟨h5.1, fun p q g => by have := g.2; have := g.1; omega⟩, Or.inl ⟨h5.2.1, fun p q g => by have := g.2; have := g.1; omega⟩, by rw [h5.2.2]; rfl⟩)
            · skip
              refine g_aload_n (i := 0) dX8_gather_50 rfl rfl ?_
              refine g_getP dX8_gather_51 fl8_67 (by first | rfl | assumption) (by first | decide | (show _ < 62; omega)) (by first | rfl | assumption) ?_
              refine g_iload_n (i := 1) dX8_gather_54 rfl rfl ?_
              refine g_lconst (z := 0) dX8_gather_55 (by decide) ?_
              refine g_lastore dX8_gather_56 (by first | rfl | assumption) (by first | decide | (show _ < 62; omega)) ?_
              refine g_iconst dX8_gather_57 ?_
              refine g_istore_n2 dX8_gather_58 rfl ?_
              have L59 : ∀ (fu59 : Nat) (x : Int) (c2 : qC), (wd - x).toNat < fu59 → (0 ≤ x) → (x ≤ wd) → (∀ q, (q < 57 ∨ 61 < q) → c2 q = c q) → (∀ x, 0 ≤ x → x < 900 → c2 59 x = -1 ∧ c2 60 x = -1 ∧ c2 61 x = 0) → (∀ a, 0 ≤ a → a < i + 1 → c2 57 a = 0) → (∀ a y, 0 ≤ a → a < i + 1 → 0 ≤ y → y < wd → (a < i ∨ y < x) → c2 58 (4 * a + y) = 0) → qG (qYn X8_gather 0 (pV (fun c' => (∀ q, (q < 57 ∨ 61 < q) → c' q = c q) ∧ GT c' n wd N (ds wd N kd) L))) wN 59 [some (qP 39), some (qI i), some (qI x), none, none, none, none] [] c2 := by
                intro fu59
                induction fu59 with
                | zero => intro x c2 hm; exact absurd hm (Nat.not_lt_zero _)
                | succ fu59 ih59 =>
                  intro x c2 hm59 x0 x1 ff2 h12 h22 h32
                  have e2 : c2 39 1 = wd := by rw [ff2 39 (by decide)]; exact t2
                  refine g_iload_n (i := 2) dX8_gather_59 rfl rfl ?_
                  refine g_aload_n (i := 0) dX8_gather_60 rfl rfl ?_
                  refine g_getI (ji := 1) dX8_gather_61 fl8_7 (by first | rfl | assumption) (by first | decide | (show _ < 62; omega)) (by first | rfl | assumption) (by decide) rfl (by first | assumption | rfl) ?_
                  refine g_icmp_ge 84 dX8_gather_64 (by decide) (fun b64 => ?_) (fun b64 => ?_)
                  · skip
                    refine g_iinc1 dX8_gather_84 rfl ?_
                    refine g_goto 42 dX8_gather_87 (by decide) ?_
                    refine g_fg2 ?_
                    exact ih42 _ _ (by omega) (by first | assumption | omega) (by first | assumption | omega) ff2 h12 h22 (fun a y q0 q1 y0 y1 => h32 a y q0 q1 y0 y1 (by omega))
                  · skip
                    refine g_aload_n (i := 0) dX8_gather_67 rfl rfl ?_
                    refine g_getP dX8_gather_68 fl8_70 (by first | rfl | assumption) (by first | decide | (show _ < 62; omega)) (by first | rfl | assumption) ?_
                    refine g_iconst dX8_gather_71 ?_
                    refine g_iload_n (i := 1) dX8_gather_72 rfl rfl ?_
                    refine g_imul dX8_gather_73 ?_
                    refine g_iload_n (i := 2) dX8_gather_74 rfl rfl ?_
                    refine g_iadd dX8_gather_75 ?_
                    refine g_lconst (z := 0) dX8_gather_76 (by decide) ?_
                    refine g_lastore dX8_gather_77 (by first | rfl | assumption) (by first | decide | (show _ < 62; omega)) ?_
                    refine g_iinc2 dX8_gather_78 rfl ?_
                    refine g_goto 59 dX8_gather_81 (by decide) ?_
                    exact ih59 _ _ (by omega) (by first | assumption | omega) (by first | assumption | omega) (fun q hq => by rw [qu_ne (by omega)]; exact ff2 q hq) h12 h22 (fun a y q0 q1 y0 y1 h => by
                            rw [qu_at]; split
                            · rfl
                            · exact h32 a y q0 q1 y0 y1 (by omega))
              exact L59 _ _ _ (Nat.lt_succ_self _) (by first | assumption | omega) (by first | assumption | omega) (fun q hq => by rw [qu_ne (by omega)]; exact ff q hq) h1 (fun a q0 q1 => by
                      rw [qu_at]; split
                      · rfl
                      · exact h2 a q0 (by omega)) (fun a y q0 q1 y0 y1 h => h3 a y q0 (by omega) y0 y1)
        exact L42 _ _ _ (Nat.lt_succ_self _) (by first | assumption | omega) (by first | assumption | omega) ff (fun x x0 x1 => h1 x x0 (by omega)) (fun a q0 q1 => by omega) (fun a x q0 q1 => by omega)
      · skip
        refine g_aload_n (i := 0) dX8_gather_9 rfl rfl ?_
        refine g_getP dX8_gather_10 fl8_73 (by first | rfl | assumption) (by first | decide | (show _ < 62; omega)) (by first | rfl | assumption) ?_
        refine g_iload_n (i := 1) dX8_gather_13 rfl rfl ?_
        refine g_ldc2 (z := -1) dX8_gather_14 cw8_156 ?_
        refine g_lastore dX8_gather_17 (by first | rfl | assumption) (by first | decide | (show _ < 62; omega)) ?_
        refine g_aload_n (i := 0) dX8_gather_18 rfl rfl ?_
        refine g_getP dX8_gather_19 fl8_76 (by first | rfl | assumption) (by first | decide | (show _ < 62; omega)) (by first | rfl | assumption) ?_
        refine g_iload_n (i := 1) dX8_gather_22 rfl rfl ?_
        refine g_ldc2 (z := -1) dX8_gather_23 cw8_156 ?_
        refine g_lastore dX8_gather_26 (by first | rfl | assumption) (by first | decide | (show _ < 62; omega)) ?_
        refine g_aload_n (i := 0) dX8_gather_27 rfl rfl ?_
        refine g_getP dX8_gather_28 fl8_79 (by first | rfl | assumption) (by first | decide | (show _ < 62; omega)) (by first | rfl | assumption) ?_
        refine g_iload_n (i := 1) dX8_gather_31 rfl rfl ?_
        refine g_lconst (z := 0) dX8_gather_32 (by decide) ?_
        refine g_lastore dX8_gather_33 (by first | rfl | assumption) (by first | decide | (show _ < 62; omega)) ?_
        refine g_iinc1 dX8_gather_34 rfl ?_
        refine g_goto 2 dX8_gather_37 (by decide) ?_
        exact ih2 _ _ (by omega) (by first | assumption | omega) (by first | assumption | omega) (fun q hq => by rw [qu_ne (by omega), qu_ne (by omega), qu_ne (by omega)]; exact ff q hq) (fun x x0 x1 => by
                show (if x = k then (-1 : Int) else c1 59 x) = -1 ∧ (if x = k then (-1 : Int) else c1 60 x) = -1 ∧ (if x = k then (0 : Int) else c1 61 x) = 0
                by_cases e : x = k
                · rw [if_pos e, if_pos e, if_pos e]; exact ⟨rfl, rfl, rfl⟩
                · rw [if_neg e, if_neg e, if_neg e]; exact h1 x x0 (by omega))
  exact L2 _ _ _ (Nat.lt_succ_self _) (by first | assumption | omega) (by first | assumption | omega) (fun q _ => rfl) (fun x x0 x1 => by omega)
theorem GT.g {c : qC} {w n wd : Int} {N D : Int → Int → Int} {L : Int → Int} {a b : Int} (h : GT c n wd N D L) (w0 : 0 ≤ w ∧ w ≤ 3) (a0 : 0 ≤ a) (a1 : a < n) (b0 : 0 ≤ b) (b1 : b < n) (la : L a = a) (lb : L b = b) : IsG w n D L a b (if w = 0 then c 59 (30 * a + b) else if w = 1 then c 60 (30 * a + b) else c 61 (30 * a + b)) := by
  have h5 := h.2.2 a b a0 a1 b0 b1
  obtain e | e | e : w = 0 ∨ w = 1 ∨ 2 ≤ w := by omega
  · rw [if_pos e]; exact Or.inl ⟨e, h5.1.liv a0 a1 b0 b1 la lb⟩
  · rw [if_neg (by omega), if_pos e]; exact Or.inr (Or.inl ⟨e, h5.2.1.liv a0 a1 b0 b1 la lb⟩)
  · rw [if_neg (by omega), if_neg (by omega)]; exact Or.inr (Or.inr ⟨⟨e, w0.2⟩, h5.2.2⟩)
set_option maxHeartbeats 4000000 in
set_option maxRecDepth 100000 in
theorem k_X8_apartOf (c : qC) (n wd kd : Int) (N : Int → Int → Int) (hM : Md c n wd N) (d0 : 0 ≤ kd) (d1 : kd < 3) (w : Int) (w0 : 0 ≤ w ∧ w ≤ 3) (L : Int → Int) (hG : GT c n wd N (ds wd N kd) L) (a b : Int) (a0 : 0 ≤ a) (a1 : a < n) (b0 : 0 ≤ b) (b1 : b < n) (la : L a = a) (lb : L b = b) : qN X8_apartOf 0 [qP 39, qI w, qI a, qI b] c (pV (fun c' => (∀ q, q ≠ 39 → c' q = c q) ∧ (∀ i, i < 22 → c' 39 i = c 39 i) ∧ c' 39 22 = (VA w n wd N (ds wd N kd) L a b) ∧ c' 39 23 = VB w n L a b)) := by
  have hM0 := hM
  obtain ⟨t1, t2, t3, t4, t5, t6⟩ := hM
  have hD : Db (ds wd N kd) n := fun i j i0 i1 j0 j1 => hM0.bd (kd := kd) i0 i1 j0 j1
  have hca := hG.1 a a0 a1
  have hcb := hG.1 b b0 b1
  have hgg := hG.g w0 a0 a1 b0 b1 la lb
  have hgv := GV_eq hgg
  refine qN.of [some (qP 39), some (qI w), some (qI a), some (qI b), none, none, none, none] (by decide) rfl (fun _ => rfl) (fun _ => Nat.le_of_ble_eq_true rfl) ?_
  refine g_bipush dX8_apartOf_0 (by decide) ?_
  refine g_iload_n (i := 2) dX8_apartOf_2 rfl rfl ?_
  refine g_imul dX8_apartOf_3 ?_
  refine g_iload_n (i := 3) dX8_apartOf_4 rfl rfl ?_
  refine g_iadd dX8_apartOf_5 ?_
  refine g_istore4 dX8_apartOf_6 rfl ?_
  have J45 : ∀ (v : Int), (¬ w = 3 → v = GV w n (ds wd N kd) L a b) → qG (qYn X8_apartOf 0 (pV (fun c' => (∀ q, q ≠ 39 → c' q = c q) ∧ (∀ i, i < 22 → c' 39 i = c 39 i) ∧ c' 39 22 = (VA w n wd N (ds wd N kd) L a b) ∧ c' 39 23 = VB w n L a b))) wN 45 [some (qP 39), some (qI w), some (qI a), some (qI b), some (qI (30 * a + b)), none, none, none] [qJ v, qP 39] c := by
    intro v hv
    refine g_putJ 22 dX8_apartOf_45 fl8_158 fw8_22 (by first | rfl | assumption) (by first | decide | (show _ < 62; omega)) (by first | rfl | assumption) rfl ?_
    have J71 : ∀ (u : Int), (¬ w = 3 → u = VB w n L a b) → qG (qYn X8_apartOf 0 (pV (fun c' => (∀ q, q ≠ 39 → c' q = c q) ∧ (∀ i, i < 22 → c' 39 i = c 39 i) ∧ c' 39 22 = (VA w n wd N (ds wd N kd) L a b) ∧ c' 39 23 = VB w n L a b))) wN 71 [some (qP 39), some (qI w), some (qI a), some (qI b), none, none, none, none] [qJ u, qP 39] (qu c 39 22 v) := by
      intro u hu
      refine g_putJ 23 dX8_apartOf_71 fl8_162 fw8_23 (by first | rfl | assumption) (by first | decide | (show _ < 62; omega)) (by first | rfl | assumption) rfl ?_
      refine g_iload_n (i := 1) dX8_apartOf_74 rfl rfl ?_
      refine g_iconst dX8_apartOf_75 ?_
      refine g_icmp_ge 80 dX8_apartOf_76 (by decide) (fun b76 => ?_) (fun b76 => ?_)
      · skip
        refine g_aload_n (i := 0) dX8_apartOf_80 rfl rfl ?_
        refine g_lconst (z := 0) dX8_apartOf_81 (by decide) ?_
        refine g_putJ 22 dX8_apartOf_82 fl8_158 fw8_22 (by first | rfl | assumption) (by first | decide | (show _ < 62; omega)) (by first | rfl | assumption) rfl ?_
        refine g_iconst dX8_apartOf_85 ?_
        refine g_istore5 dX8_apartOf_86 rfl ?_
        have L88 : ∀ (fu88 : Nat) (x : Int) (c1 : qC), (wd - x).toNat < fu88 → (0 ≤ x) → (x ≤ wd) → (∀ q, q ≠ 39 → c1 q = c q) → (∀ i, i < 22 → c1 39 i = c 39 i) → (c1 39 22 = sI (fun x => (sg L n a (fun r => N r x) * cn L n b - sg L n b (fun r => N r x) * cn L n a) * (sg L n a (fun r => N r x) * cn L n b - sg L n b (fun r => N r x) * cn L n a)) x) → qG (qYn X8_apartOf 0 (pV (fun c' => (∀ q, q ≠ 39 → c' q = c q) ∧ (∀ i, i < 22 → c' 39 i = c 39 i) ∧ c' 39 22 = (VA w n wd N (ds wd N kd) L a b) ∧ c' 39 23 = VB w n L a b))) wN 88 [some (qP 39), some (qI w), some (qI a), some (qI b), none, some (qI x), none, none] [] c1 := by
          intro fu88
          induction fu88 with
          | zero => intro x c1 hm; exact absurd hm (Nat.not_lt_zero _)
          | succ fu88 ih88 =>
            intro x c1 hm88 x0 x1 ff h0 ha
            have e1 : c1 39 1 = wd := by rw [h0 1 (by decide)]; exact t2
            refine g_iload dX8_apartOf_88 rfl ?_
            refine g_aload_n (i := 0) dX8_apartOf_90 rfl rfl ?_
            refine g_getI (ji := 1) dX8_apartOf_91 fl8_7 (by first | rfl | assumption) (by first | decide | (show _ < 62; omega)) (by first | rfl | assumption) (by decide) rfl (by first | assumption | rfl) ?_
            refine g_icmp_ge 156 dX8_apartOf_94 (by decide) (fun b94 => ?_) (fun b94 => ?_)
            · skip
              have hca1 : c1 57 a = cn L n a := by rw [ff 57 (by decide)]; exact hca
              have hcb1 : c1 57 b = cn L n b := by rw [ff 57 (by decide)]; exact hcb
              refine g_aload_n (i := 0) dX8_apartOf_156 rfl rfl ?_
              refine g_aload_n (i := 0) dX8_apartOf_157 rfl rfl ?_
              refine g_getP dX8_apartOf_158 fl8_67 (by first | rfl | assumption) (by first | decide | (show _ < 62; omega)) (by first | rfl | assumption) ?_
              refine g_iload_n (i := 2) dX8_apartOf_161 rfl rfl ?_
              refine g_laload dX8_apartOf_162 rfl (by decide) ?_
              rw [hca1]
              skip -- ?_
              refine g_aload_n (i := 0) dX8_apartOf_163 rfl rfl ?_
              refine g_getP dX8_apartOf_164 fl8_67 (by first | rfl | assumption) (by first | decide | (show _ < 62; omega)) (by first | rfl | assumption) ?_
              refine g_iload_n (i := 3) dX8_apartOf_167 rfl rfl ?_
              refine g_laload dX8_apartOf_168 rfl (by decide) ?_
              rw [hcb1]
              skip -- ?_
              refine g_lmul dX8_apartOf_169 ?_
              refine g_aload_n (i := 0) dX8_apartOf_170 rfl rfl ?_
              refine g_getP dX8_apartOf_171 fl8_67 (by first | rfl | assumption) (by first | decide | (show _ < 62; omega)) (by first | rfl | assumption) ?_
              refine g_iload_n (i := 2) dX8_apartOf_174 rfl rfl ?_
              refine g_laload dX8_apartOf_175 rfl (by decide) ?_
              rw [hca1]
              skip -- ?_
              refine g_aload_n (i := 0) dX8_apartOf_176 rfl rfl ?_
              refine g_getP dX8_apartOf_177 fl8_67 (by first | rfl | assumption) (by first | decide | (show _ < 62; omega)) (by first | rfl | assumption) ?_
              refine g_iload_n (i := 3) dX8_apartOf_180 rfl rfl ?_
              refine g_laload dX8_apartOf_181 rfl (by decide) ?_
              rw [hcb1]
              skip -- ?_
              refine g_ladd dX8_apartOf_182 ?_
              refine g_lmul dX8_apartOf_183 ?_
              refine g_putJ 23 dX8_apartOf_184 fl8_162 fw8_23 (by first | rfl | assumption) (by first | decide | (show _ < 62; omega)) (by first | rfl | assumption) rfl ?_
              exact n_retv dX8_apartOf_187 rfl (⟨fun q hq => by rw [qu_ne hq]; exact ff q hq, fun i hi => by rw [qu_off (by omega)]; exact h0 i hi, by rw [qu_off (by decide), ha, show x = wd by omega]; unfold VA; rw [if_pos (by omega)], by rw [qu_eq]; unfold VB; rw [if_neg (by omega), if_pos (by omega)]⟩)
            · skip
              have hca1 : c1 57 a = cn L n a := by rw [ff 57 (by decide)]; exact hca
              have hcb1 : c1 57 b = cn L n b := by rw [ff 57 (by decide)]; exact hcb
              have hta : c1 58 (4 * a + x) = sg L n a (fun r => N r x) := by rw [ff 58 (by decide)]; exact hG.2.1 a x a0 a1 x0 (by omega)
              have htb : c1 58 (4 * b + x) = sg L n b (fun r => N r x) := by rw [ff 58 (by decide)]; exact hG.2.1 b x b0 b1 x0 (by omega)
              refine g_aload_n (i := 0) dX8_apartOf_97 rfl rfl ?_
              refine g_getP dX8_apartOf_98 fl8_67 (by first | rfl | assumption) (by first | decide | (show _ < 62; omega)) (by first | rfl | assumption) ?_
              refine g_iload_n (i := 3) dX8_apartOf_101 rfl rfl ?_
              refine g_laload dX8_apartOf_102 rfl (by decide) ?_
              rw [hcb1]
              skip -- ?_
              refine g_aload_n (i := 0) dX8_apartOf_103 rfl rfl ?_
              refine g_getP dX8_apartOf_104 fl8_70 (by first | rfl | assumption) (by first | decide | (show _ < 62; omega)) (by first | rfl | assumption) ?_
              refine g_iconst dX8_apartOf_107 ?_
              refine g_iload_n (i := 2) dX8_apartOf_108 rfl rfl ?_
              refine g_imul dX8_apartOf_109 ?_
              refine g_iload dX8_apartOf_110 rfl ?_
              refine g_iadd dX8_apartOf_112 ?_
              refine g_laload dX8_apartOf_113 rfl (by decide) ?_
              rw [hta]
              skip -- ?_
              refine g_lmul dX8_apartOf_114 ?_
              refine g_aload_n (i := 0) dX8_apartOf_115 rfl rfl ?_
              refine g_getP dX8_apartOf_116 fl8_67 (by first | rfl | assumption) (by first | decide | (show _ < 62; omega)) (by first | rfl | assumption) ?_
              refine g_iload_n (i := 2) dX8_apartOf_119 rfl rfl ?_
              refine g_laload dX8_apartOf_120 rfl (by decide) ?_
              rw [hca1]
              skip -- ?_
              refine g_aload_n (i := 0) dX8_apartOf_121 rfl rfl ?_
              refine g_getP dX8_apartOf_122 fl8_70 (by first | rfl | assumption) (by first | decide | (show _ < 62; omega)) (by first | rfl | assumption) ?_
              refine g_iconst dX8_apartOf_125 ?_
              refine g_iload_n (i := 3) dX8_apartOf_126 rfl rfl ?_
              refine g_imul dX8_apartOf_127 ?_
              refine g_iload dX8_apartOf_128 rfl ?_
              refine g_iadd dX8_apartOf_130 ?_
              refine g_laload dX8_apartOf_131 rfl (by decide) ?_
              rw [htb]
              skip -- ?_
              refine g_lmul dX8_apartOf_132 ?_
              refine g_lsub dX8_apartOf_133 ?_
              refine g_lstore6 dX8_apartOf_134 rfl ?_
              refine g_aload_n (i := 0) dX8_apartOf_136 rfl rfl ?_
              refine g_dup dX8_apartOf_137 rfl ?_
              refine g_getJ (ji := 22) dX8_apartOf_138 fl8_158 (by first | rfl | assumption) (by first | decide | (show _ < 62; omega)) (by first | rfl | assumption) rfl (by first | assumption | rfl) ?_
              refine g_lload dX8_apartOf_141 rfl ?_
              refine g_lload dX8_apartOf_143 rfl ?_
              refine g_lmul dX8_apartOf_145 ?_
              refine g_ladd dX8_apartOf_146 ?_
              refine g_putJ 22 dX8_apartOf_147 fl8_158 fw8_22 (by first | rfl | assumption) (by first | decide | (show _ < 62; omega)) (by first | rfl | assumption) rfl ?_
              refine g_iinc5 dX8_apartOf_150 rfl ?_
              refine g_goto 88 dX8_apartOf_153 (by decide) ?_
              refine g_fg6 ?_
              exact ih88 _ _ (by omega) (by first | assumption | omega) (by first | assumption | omega) (fun q hq => by rw [qu_ne hq]; exact ff q hq) (fun i hi => by rw [qu_off (by omega)]; exact h0 i hi) (by rw [qu_eq, sI_s x0, Int.mul_comm (cn L n b), Int.mul_comm (cn L n a)])
        exact L88 _ _ _ (Nat.lt_succ_self _) (by first | assumption | omega) (by first | assumption | omega) (fun q hq => by rw [qu_ne hq, qu_ne hq, qu_ne hq]) (fun i hi => by rw [qu_off (by omega), qu_off (by omega), qu_off (by omega)]) (by rw [qu_eq]; rfl)
      · skip
        exact n_retv dX8_apartOf_79 rfl (⟨fun q hq => by rw [qu_ne hq, qu_ne hq], fun i hi => by rw [qu_off (by omega), qu_off (by omega)], by rw [qu_off (by decide), qu_eq, hv (by omega)]; unfold VA; rw [if_neg (by omega)], by rw [qu_eq]; exact hu (by omega)⟩)
    refine g_aload_n (i := 0) dX8_apartOf_48 rfl rfl ?_
    refine g_iload_n (i := 1) dX8_apartOf_49 rfl rfl ?_
    refine g_iconst dX8_apartOf_50 ?_
    refine g_icmp_ne 70 dX8_apartOf_51 (by decide) (fun b51 => ?_) (fun b51 => ?_)
    · skip
      refine g_lconst (z := 1) dX8_apartOf_70 (by decide) ?_
      refine g_fg4 ?_
      exact J71 _ (fun h3 => by unfold VB; first | (rw [if_pos (by omega)]) | (rw [if_neg (by omega), if_neg h3]))
    · skip
      refine g_aload_n (i := 0) dX8_apartOf_54 rfl rfl ?_
      refine g_getP dX8_apartOf_55 fl8_67 (by first | rfl | assumption) (by first | decide | (show _ < 62; omega)) (by first | rfl | assumption) ?_
      refine g_iload_n (i := 2) dX8_apartOf_58 rfl rfl ?_
      refine g_laload dX8_apartOf_59 rfl (by decide) ?_
      rw [show qu c 39 22 v 57 a = cn L n a from hca]
      skip -- ?_
      refine g_aload_n (i := 0) dX8_apartOf_60 rfl rfl ?_
      refine g_getP dX8_apartOf_61 fl8_67 (by first | rfl | assumption) (by first | decide | (show _ < 62; omega)) (by first | rfl | assumption) ?_
      refine g_iload_n (i := 3) dX8_apartOf_64 rfl rfl ?_
      refine g_laload dX8_apartOf_65 rfl (by decide) ?_
      rw [show qu c 39 22 v 57 b = cn L n b from hcb]
      skip -- ?_
      refine g_lmul dX8_apartOf_66 ?_
      refine g_goto 71 dX8_apartOf_67 (by decide) ?_
      refine g_fg4 ?_
      exact J71 _ (fun h3 => by unfold VB; first | (rw [if_pos (by omega)]) | (rw [if_neg (by omega), if_neg h3]))
  refine g_aload_n (i := 0) dX8_apartOf_8 rfl rfl ?_
  refine g_iload_n (i := 1) dX8_apartOf_9 rfl rfl ?_
  refine g_if_ne 23 dX8_apartOf_10 (by decide) (fun b10 => ?_) (fun b10 => ?_)
  · skip
    refine g_iload_n (i := 1) dX8_apartOf_23 rfl rfl ?_
    refine g_iconst dX8_apartOf_24 ?_
    refine g_icmp_ne 38 dX8_apartOf_25 (by decide) (fun b25 => ?_) (fun b25 => ?_)
    · skip
      refine g_aload_n (i := 0) dX8_apartOf_38 rfl rfl ?_
      refine g_getP dX8_apartOf_39 fl8_79 (by first | rfl | assumption) (by first | decide | (show _ < 62; omega)) (by first | rfl | assumption) ?_
      refine g_iload dX8_apartOf_42 rfl ?_
      refine g_laload dX8_apartOf_44 (by first | rfl | assumption) (by first | decide | (show _ < 62; omega)) ?_
      exact J45 _ (fun _ => by rw [hgv]; first | (rw [if_pos (by omega)]) | (rw [if_neg (by omega), if_pos (by omega)]) | (rw [if_neg (by omega), if_neg (by omega)]))
    · skip
      refine g_aload_n (i := 0) dX8_apartOf_28 rfl rfl ?_
      refine g_getP dX8_apartOf_29 fl8_76 (by first | rfl | assumption) (by first | decide | (show _ < 62; omega)) (by first | rfl | assumption) ?_
      refine g_iload dX8_apartOf_32 rfl ?_
      refine g_laload dX8_apartOf_34 (by first | rfl | assumption) (by first | decide | (show _ < 62; omega)) ?_
      refine g_goto 45 dX8_apartOf_35 (by decide) ?_
      exact J45 _ (fun _ => by rw [hgv]; first | (rw [if_pos (by omega)]) | (rw [if_neg (by omega), if_pos (by omega)]) | (rw [if_neg (by omega), if_neg (by omega)]))
  · skip
    refine g_aload_n (i := 0) dX8_apartOf_13 rfl rfl ?_
    refine g_getP dX8_apartOf_14 fl8_73 (by first | rfl | assumption) (by first | decide | (show _ < 62; omega)) (by first | rfl | assumption) ?_
    refine g_iload dX8_apartOf_17 rfl ?_
    refine g_laload dX8_apartOf_19 (by first | rfl | assumption) (by first | decide | (show _ < 62; omega)) ?_
    refine g_goto 45 dX8_apartOf_20 (by decide) ?_
    exact J45 _ (fun _ => by rw [hgv]; first | (rw [if_pos (by omega)]) | (rw [if_neg (by omega), if_pos (by omega)]) | (rw [if_neg (by omega), if_neg (by omega)]))
set_option maxHeartbeats 4000000 in
set_option maxRecDepth 100000 in
theorem k_X8_joinNext (c : qC) (n wd kd : Int) (N : Int → Int → Int) (hM : Md c n wd N) (d0 : 0 ≤ kd) (d1 : kd < 3) (w : Int) (w0 : 0 ≤ w ∧ w ≤ 3) (L : Int → Int) (hK : LK L) (mk : Int) (m0 : 0 ≤ mk ∧ mk < 29) (hmk : c 39 9 = mk) (hpr : Vp L n (pr w n wd N (ds wd N kd) L)) (hL : ∀ r, 0 ≤ r → r < n → c 56 r = L r) (hl : ∀ i j, 0 ≤ i → i < n → 0 ≤ j → j < n → c 50 (30 * i + j) = (ds wd N kd) i j) : qN X8_joinNext 1 [qP 39, qI w] c (pV (fun c' => (∀ q, (q < 39 ∨ (39 < q ∧ q < 45) ∨ (49 < q ∧ q < 56)) → c' q = c q) ∧ (∀ i, i < 9 → c' 39 i = c 39 i) ∧ c' 39 9 = mk + 1 ∧ (∀ r, 0 ≤ r → r < n → c' 56 r = mgL L (pr w n wd N (ds wd N kd) L).1 (pr w n wd N (ds wd N kd) L).2 r) ∧ (∀ i, ¬ i = mk → c' 45 i = c 45 i ∧ c' 46 i = c 46 i ∧ c' 47 i = c 47 i ∧ c' 48 i = c 48 i ∧ c' 49 i = c 49 i) ∧ c' 45 mk = jv w n wd N (ds wd N kd) L (pr w n wd N (ds wd N kd) L) 0 ∧ c' 46 mk = jv w n wd N (ds wd N kd) L (pr w n wd N (ds wd N kd) L) 1 ∧ c' 47 mk = jv w n wd N (ds wd N kd) L (pr w n wd N (ds wd N kd) L) 2 ∧ c' 48 mk = jv w n wd N (ds wd N kd) L (pr w n wd N (ds wd N kd) L) 3 ∧ c' 49 mk = jv w n wd N (ds wd N kd) L (pr w n wd N (ds wd N kd) L) 4)) := by
  have hM0 := hM
  obtain ⟨t1, t2, t3, t4, t5, t6⟩ := hM
  have hD : Db (ds wd N kd) n := fun i j i0 i1 j0 j1 => hM0.bd (kd := kd) i0 i1 j0 j1
  refine qN.of [some (qP 39), some (qI w), none, none, none, none, none, none, none, none, none] (by decide) rfl (fun _ => rfl) (fun _ => Nat.le_of_ble_eq_true rfl) ?_
  refine g_iconst dX8_joinNext_0 ?_
  refine g_istore_n2 dX8_joinNext_1 rfl ?_
  refine g_iconst dX8_joinNext_2 ?_
  refine g_istore_n3 dX8_joinNext_3 rfl ?_
  refine g_lconst (z := 0) dX8_joinNext_4 (by decide) ?_
  refine g_lstore4 dX8_joinNext_5 rfl ?_
  refine g_lconst (z := 1) dX8_joinNext_7 (by decide) ?_
  refine g_lstore6 dX8_joinNext_8 rfl ?_
  refine g_aload_n (i := 0) dX8_joinNext_10 rfl rfl ?_
  refine n_callVv (k_X8_gather _ n wd kd N hM0 d0 d1 L (fun r r0 r1 => ⟨hL r r0 r1, by have := (hK r r0).1; omega⟩) hl) dX8_joinNext_11 lk8_168 im_X8_gather (by first | rfl | assumption) (by first | decide | (show _ < 62; omega)) rfl rfl rfl rfl (Nat.le_of_ble_eq_true rfl) (fun c0 hz => ?_)
  obtain ⟨v1, v2⟩ := hz
  refine g_iconst dX8_joinNext_14 ?_
  refine g_istore8 dX8_joinNext_15 rfl ?_
  have L17 : ∀ (fu17 : Nat) (on tw up1 dn a : Int) (c1 : qC), (n - a).toNat < fu17 → (0 ≤ a) → (a ≤ n) → ((∀ q, ¬ q = 39 → (q < 57 ∨ 61 < q) → c1 q = c q) ∧ (∀ i, i < 22 → c1 39 i = c 39 i)) → (GT c1 n wd N (ds wd N kd) L) → (((outp (VA w n wd N (ds wd N kd) L) (VB w n L) L n a.toNat).1 = -1 ∧ on = -1 ∧ tw = -1 ∧ up1 = 0 ∧ dn = 1) ∨ (¬ (outp (VA w n wd N (ds wd N kd) L) (VB w n L) L n a.toNat).1 = -1 ∧ Vp L n (outp (VA w n wd N (ds wd N kd) L) (VB w n L) L n a.toNat) ∧ on = (outp (VA w n wd N (ds wd N kd) L) (VB w n L) L n a.toNat).1 ∧ tw = (outp (VA w n wd N (ds wd N kd) L) (VB w n L) L n a.toNat).2 ∧ up1 = VA w n wd N (ds wd N kd) L (outp (VA w n wd N (ds wd N kd) L) (VB w n L) L n a.toNat).1 (outp (VA w n wd N (ds wd N kd) L) (VB w n L) L n a.toNat).2 ∧ dn = VB w n L (outp (VA w n wd N (ds wd N kd) L) (VB w n L) L n a.toNat).1 (outp (VA w n wd N (ds wd N kd) L) (VB w n L) L n a.toNat).2)) → qG (qYn X8_joinNext 1 (pV (fun c' => (∀ q, (q < 39 ∨ (39 < q ∧ q < 45) ∨ (49 < q ∧ q < 56)) → c' q = c q) ∧ (∀ i, i < 9 → c' 39 i = c 39 i) ∧ c' 39 9 = mk + 1 ∧ (∀ r, 0 ≤ r → r < n → c' 56 r = mgL L (pr w n wd N (ds wd N kd) L).1 (pr w n wd N (ds wd N kd) L).2 r) ∧ (∀ i, ¬ i = mk → c' 45 i = c 45 i ∧ c' 46 i = c 46 i ∧ c' 47 i = c 47 i ∧ c' 48 i = c 48 i ∧ c' 49 i = c 49 i) ∧ c' 45 mk = jv w n wd N (ds wd N kd) L (pr w n wd N (ds wd N kd) L) 0 ∧ c' 46 mk = jv w n wd N (ds wd N kd) L (pr w n wd N (ds wd N kd) L) 1 ∧ c' 47 mk = jv w n wd N (ds wd N kd) L (pr w n wd N (ds wd N kd) L) 2 ∧ c' 48 mk = jv w n wd N (ds wd N kd) L (pr w n wd N (ds wd N kd) L) 3 ∧ c' 49 mk = jv w n wd N (ds wd N kd) L (pr w n wd N (ds wd N kd) L) 4))) wN 17 [some (qP 39), some (qI w), some (qI on), some (qI tw), some (qJ up1), none, some (qJ dn), none, some (qI a), none, none] [] c1 := by
    intro fu17
    induction fu17 with
    | zero => intro on tw up1 dn a c1 hm; exact absurd hm (Nat.not_lt_zero _)
    | succ fu17 ih17 =>
      intro on tw up1 dn a c1 hm17 a0 a1 ff hG hs
      have e1 : c1 39 0 = n := by rw [ff.2 0 (by decide)]; exact t1
      refine g_iload dX8_joinNext_17 rfl ?_
      refine g_aload_n (i := 0) dX8_joinNext_19 rfl rfl ?_
      refine g_getI (ji := 0) dX8_joinNext_20 fl8_82 (by first | rfl | assumption) (by first | decide | (show _ < 62; omega)) (by first | rfl | assumption) (by decide) rfl (by first | assumption | rfl) ?_
      refine g_icmp_ge 127 dX8_joinNext_23 (by decide) (fun b23 => ?_) (fun b23 => ?_)
      · skip
        have hpe : outp (VA w n wd N (ds wd N kd) L) (VB w n L) L n a.toNat = (pr w n wd N (ds wd N kd) L) := by rw [show a = n by omega]; rfl
        rw [hpe] at hs
        have hpr1 := hpr.1
        have hs3 := hs.resolve_left (fun h => by have := h.1; omega)
        have hC3 := hG.g w0 hpr1.1 (by omega) (by omega) hpr1.2.2 hpr.2.1 hpr.2.2
        have hva3 := VA_bd hD t3 t4 t6 hC3
        have hvb3 := VB_bd (w := w) (L := L) (a := (pr w n wd N (ds wd N kd) L).1) (b := (pr w n wd N (ds wd N kd) L).2) t3 (live_cn hpr1.1 (by omega) hpr.2.1) (live_cn (by omega) hpr1.2.2 hpr.2.2)
        obtain ⟨-, -, rfl, rfl, rfl, rfl⟩ := hs3
        have hmk1 : c1 39 9 = mk := by rw [ff.2 9 (by decide)]; exact hmk
        have hL1 : ∀ r, 0 ≤ r → r < n → c1 56 r = L r := fun r r0 r1 => by rw [ff.1 56 (by decide) (by decide)]; exact hL r r0 r1
        have hgp := gc_pos (x := VA w n wd N (ds wd N kd) L (pr w n wd N (ds wd N kd) L).1 (pr w n wd N (ds wd N kd) L).2) (show 0 < VB w n L (pr w n wd N (ds wd N kd) L).1 (pr w n wd N (ds wd N kd) L).2 by omega)
        refine g_lload dX8_joinNext_127 rfl ?_
        refine g_lload dX8_joinNext_129 rfl ?_
        refine n_callSj (k_X8_common _ _ _ (by omega) (by omega)) dX8_joinNext_131 lk8_174 sm_X8_common rfl rfl rfl (Nat.le_of_ble_eq_true rfl) (fun z c' hz => ?_)
        obtain ⟨rfl, hz2⟩ := hz
        have hz2 := hz2.symm
        subst hz2
        refine g_lstore8 dX8_joinNext_134 rfl ?_
        refine g_aload_n (i := 0) dX8_joinNext_136 rfl rfl ?_
        refine g_getP dX8_joinNext_137 fl8_30 (by first | rfl | assumption) (by first | decide | (show _ < 62; omega)) (by first | rfl | assumption) ?_
        refine g_aload_n (i := 0) dX8_joinNext_140 rfl rfl ?_
        refine g_getI (ji := 9) dX8_joinNext_141 fl8_102 (by first | rfl | assumption) (by first | decide | (show _ < 62; omega)) (by first | rfl | assumption) (by decide) rfl (by first | assumption | rfl) ?_
        refine g_iload_n (i := 2) dX8_joinNext_144 rfl rfl ?_
        refine g_iastore dX8_joinNext_145 (by first | rfl | assumption) (by first | decide | (show _ < 62; omega)) ?_
        refine g_aload_n (i := 0) dX8_joinNext_146 rfl rfl ?_
        refine g_getP dX8_joinNext_147 fl8_33 (by first | rfl | assumption) (by first | decide | (show _ < 62; omega)) (by first | rfl | assumption) ?_
        refine g_aload_n (i := 0) dX8_joinNext_150 rfl rfl ?_
        refine g_getI (ji := 9) dX8_joinNext_151 fl8_102 (by first | rfl | assumption) (by first | decide | (show _ < 62; omega)) (by first | rfl | assumption) (by decide) rfl (by first | assumption | rfl) ?_
        refine g_iload_n (i := 3) dX8_joinNext_154 rfl rfl ?_
        refine g_iastore dX8_joinNext_155 (by first | rfl | assumption) (by first | decide | (show _ < 62; omega)) ?_
        refine g_aload_n (i := 0) dX8_joinNext_156 rfl rfl ?_
        refine g_getP dX8_joinNext_157 fl8_39 (by first | rfl | assumption) (by first | decide | (show _ < 62; omega)) (by first | rfl | assumption) ?_
        refine g_aload_n (i := 0) dX8_joinNext_160 rfl rfl ?_
        refine g_getI (ji := 9) dX8_joinNext_161 fl8_102 (by first | rfl | assumption) (by first | decide | (show _ < 62; omega)) (by first | rfl | assumption) (by decide) rfl (by first | assumption | rfl) ?_
        refine g_lload dX8_joinNext_164 rfl ?_
        refine g_lload dX8_joinNext_166 rfl ?_
        refine g_ldiv dX8_joinNext_168 (by omega) (by omega) (by omega) ?_
        refine g_lastore dX8_joinNext_169 (by first | rfl | assumption) (by first | decide | (show _ < 62; omega)) ?_
        refine g_aload_n (i := 0) dX8_joinNext_170 rfl rfl ?_
        refine g_getP dX8_joinNext_171 fl8_43 (by first | rfl | assumption) (by first | decide | (show _ < 62; omega)) (by first | rfl | assumption) ?_
        refine g_aload_n (i := 0) dX8_joinNext_174 rfl rfl ?_
        refine g_getI (ji := 9) dX8_joinNext_175 fl8_102 (by first | rfl | assumption) (by first | decide | (show _ < 62; omega)) (by first | rfl | assumption) (by decide) rfl (by first | assumption | rfl) ?_
        refine g_lload dX8_joinNext_178 rfl ?_
        refine g_lload dX8_joinNext_180 rfl ?_
        refine g_ldiv dX8_joinNext_182 (by omega) (by omega) (by omega) ?_
        refine g_lastore dX8_joinNext_183 (by first | rfl | assumption) (by first | decide | (show _ < 62; omega)) ?_
        have kJ1 : qu (qu (qu (qu c1 45 mk (pr w n wd N (ds wd N kd) L).1) 46 mk (pr w n wd N (ds wd N kd) L).2) 48 mk ((VA w n wd N (ds wd N kd) L (pr w n wd N (ds wd N kd) L).1 (pr w n wd N (ds wd N kd) L).2).tdiv (gc (VA w n wd N (ds wd N kd) L (pr w n wd N (ds wd N kd) L).1 (pr w n wd N (ds wd N kd) L).2) (VB w n L (pr w n wd N (ds wd N kd) L).1 (pr w n wd N (ds wd N kd) L).2)))) 49 mk ((VB w n L (pr w n wd N (ds wd N kd) L).1 (pr w n wd N (ds wd N kd) L).2).tdiv (gc (VA w n wd N (ds wd N kd) L (pr w n wd N (ds wd N kd) L).1 (pr w n wd N (ds wd N kd) L).2) (VB w n L (pr w n wd N (ds wd N kd) L).1 (pr w n wd N (ds wd N kd) L).2))) 39 = c1 39 := rfl
        have kJ2 : qu (qu (qu (qu c1 45 mk (pr w n wd N (ds wd N kd) L).1) 46 mk (pr w n wd N (ds wd N kd) L).2) 48 mk ((VA w n wd N (ds wd N kd) L (pr w n wd N (ds wd N kd) L).1 (pr w n wd N (ds wd N kd) L).2).tdiv (gc (VA w n wd N (ds wd N kd) L (pr w n wd N (ds wd N kd) L).1 (pr w n wd N (ds wd N kd) L).2) (VB w n L (pr w n wd N (ds wd N kd) L).1 (pr w n wd N (ds wd N kd) L).2)))) 49 mk ((VB w n L (pr w n wd N (ds wd N kd) L).1 (pr w n wd N (ds wd N kd) L).2).tdiv (gc (VA w n wd N (ds wd N kd) L (pr w n wd N (ds wd N kd) L).1 (pr w n wd N (ds wd N kd) L).2) (VB w n L (pr w n wd N (ds wd N kd) L).1 (pr w n wd N (ds wd N kd) L).2))) 56 = c1 56 := rfl
        generalize hcJ : qu (qu (qu (qu c1 45 mk (pr w n wd N (ds wd N kd) L).1) 46 mk (pr w n wd N (ds wd N kd) L).2) 48 mk ((VA w n wd N (ds wd N kd) L (pr w n wd N (ds wd N kd) L).1 (pr w n wd N (ds wd N kd) L).2).tdiv (gc (VA w n wd N (ds wd N kd) L (pr w n wd N (ds wd N kd) L).1 (pr w n wd N (ds wd N kd) L).2) (VB w n L (pr w n wd N (ds wd N kd) L).1 (pr w n wd N (ds wd N kd) L).2)))) 49 mk ((VB w n L (pr w n wd N (ds wd N kd) L).1 (pr w n wd N (ds wd N kd) L).2).tdiv (gc (VA w n wd N (ds wd N kd) L (pr w n wd N (ds wd N kd) L).1 (pr w n wd N (ds wd N kd) L).2) (VB w n L (pr w n wd N (ds wd N kd) L).1 (pr w n wd N (ds wd N kd) L).2))) = cJ at *
        refine g_iconst dX8_joinNext_184 ?_
        refine g_istore10 dX8_joinNext_185 rfl ?_
        have L187 : ∀ (fu187 : Nat) (r : Int) (c2 : qC), (n - r).toNat < fu187 → (0 ≤ r) → (r ≤ n) → (∀ q, q ≠ 56 → c2 q = cJ q) → (∀ x, 0 ≤ x → x < r → c2 56 x = mgL L (pr w n wd N (ds wd N kd) L).1 (pr w n wd N (ds wd N kd) L).2 x) → (∀ x, r ≤ x → x < n → c2 56 x = L x) → qG (qYn X8_joinNext 1 (pV (fun c' => (∀ q, (q < 39 ∨ (39 < q ∧ q < 45) ∨ (49 < q ∧ q < 56)) → c' q = c q) ∧ (∀ i, i < 9 → c' 39 i = c 39 i) ∧ c' 39 9 = mk + 1 ∧ (∀ r, 0 ≤ r → r < n → c' 56 r = mgL L (pr w n wd N (ds wd N kd) L).1 (pr w n wd N (ds wd N kd) L).2 r) ∧ (∀ i, ¬ i = mk → c' 45 i = c 45 i ∧ c' 46 i = c 46 i ∧ c' 47 i = c 47 i ∧ c' 48 i = c 48 i ∧ c' 49 i = c 49 i) ∧ c' 45 mk = jv w n wd N (ds wd N kd) L (pr w n wd N (ds wd N kd) L) 0 ∧ c' 46 mk = jv w n wd N (ds wd N kd) L (pr w n wd N (ds wd N kd) L) 1 ∧ c' 47 mk = jv w n wd N (ds wd N kd) L (pr w n wd N (ds wd N kd) L) 2 ∧ c' 48 mk = jv w n wd N (ds wd N kd) L (pr w n wd N (ds wd N kd) L) 3 ∧ c' 49 mk = jv w n wd N (ds wd N kd) L (pr w n wd N (ds wd N kd) L) 4))) wN 187 [some (qP 39), some (qI w), some (qI (pr w n wd N (ds wd N kd) L).1), some (qI (pr w n wd N (ds wd N kd) L).2), none, none, none, none, none, none, some (qI r)] [] c2 := by
          intro fu187
          induction fu187 with
          | zero => intro r c2 hm; exact absurd hm (Nat.not_lt_zero _)
          | succ fu187 ih187 =>
            intro r c2 hm187 r0 r1 ff2 h2 h3
            have e2 : c2 39 0 = n := by rw [ff2 39 (by decide), kJ1]; exact e1
            refine g_iload dX8_joinNext_187 rfl ?_
            refine g_aload_n (i := 0) dX8_joinNext_189 rfl rfl ?_
            refine g_getI (ji := 0) dX8_joinNext_190 fl8_82 (by first | rfl | assumption) (by first | decide | (show _ < 62; omega)) (by first | rfl | assumption) (by decide) rfl (by first | assumption | rfl) ?_
            refine g_icmp_ge 231 dX8_joinNext_193 (by decide) (fun b193 => ?_) (fun b193 => ?_)
            · skip
              have hmk2 : c2 39 9 = mk := by rw [ff2 39 (by decide), kJ1]; exact hmk1
              have hz1 : c2 57 (pr w n wd N (ds wd N kd) L).1 = cn L n (pr w n wd N (ds wd N kd) L).1 := by rw [ff2 57 (by decide), ← hcJ]; exact hG.1 _ hpr1.1 (by omega)
              have hz2 : c2 57 (pr w n wd N (ds wd N kd) L).2 = cn L n (pr w n wd N (ds wd N kd) L).2 := by rw [ff2 57 (by decide), ← hcJ]; exact hG.1 _ (by omega) (by omega)
              refine g_aload_n (i := 0) dX8_joinNext_231 rfl rfl ?_
              refine g_getP dX8_joinNext_232 fl8_36 (by first | rfl | assumption) (by first | decide | (show _ < 62; omega)) (by first | rfl | assumption) ?_
              refine g_aload_n (i := 0) dX8_joinNext_235 rfl rfl ?_
              refine g_getI (ji := 9) dX8_joinNext_236 fl8_102 (by first | rfl | assumption) (by first | decide | (show _ < 62; omega)) (by first | rfl | assumption) (by decide) rfl (by first | assumption | rfl) ?_
              refine g_aload_n (i := 0) dX8_joinNext_239 rfl rfl ?_
              refine g_getP dX8_joinNext_240 fl8_67 (by first | rfl | assumption) (by first | decide | (show _ < 62; omega)) (by first | rfl | assumption) ?_
              refine g_iload_n (i := 2) dX8_joinNext_243 rfl rfl ?_
              refine g_laload dX8_joinNext_244 rfl (by decide) ?_
              rw [hz1]
              skip -- ?_
              refine g_aload_n (i := 0) dX8_joinNext_245 rfl rfl ?_
              refine g_getP dX8_joinNext_246 fl8_67 (by first | rfl | assumption) (by first | decide | (show _ < 62; omega)) (by first | rfl | assumption) ?_
              refine g_iload_n (i := 3) dX8_joinNext_249 rfl rfl ?_
              refine g_laload dX8_joinNext_250 rfl (by decide) ?_
              rw [hz2]
              skip -- ?_
              refine g_ladd dX8_joinNext_251 ?_
              refine g_l2i dX8_joinNext_252 ?_
              refine g_iastore dX8_joinNext_253 (by first | rfl | assumption) (by first | decide | (show _ < 62; omega)) ?_
              refine g_aload_n (i := 0) dX8_joinNext_254 rfl rfl ?_
              refine g_dup dX8_joinNext_255 rfl ?_
              refine g_getI (ji := 9) dX8_joinNext_256 fl8_102 (by first | rfl | assumption) (by first | decide | (show _ < 62; omega)) (by first | rfl | assumption) (by decide) rfl (by first | assumption | rfl) ?_
              refine g_iconst dX8_joinNext_259 ?_
              refine g_iadd dX8_joinNext_260 ?_
              refine g_putI 9 dX8_joinNext_261 fl8_102 fw8_9 (by first | rfl | assumption) (by first | decide | (show _ < 62; omega)) (by first | rfl | assumption) (by decide) rfl ?_
              exact n_retv dX8_joinNext_264 rfl (by
                      have fJ : ∀ q, q ≠ 45 → q ≠ 46 → q ≠ 48 → q ≠ 49 → cJ q = c1 q := fun q q1 q2 q3 q4 => by rw [← hcJ, qu_ne q4, qu_ne q3, qu_ne q2, qu_ne q1]
                      have g45 : ∀ i, cJ 45 i = if i = mk then (pr w n wd N (ds wd N kd) L).1 else c1 45 i := fun i => by rw [← hcJ]; rfl
                      have g46 : ∀ i, cJ 46 i = if i = mk then (pr w n wd N (ds wd N kd) L).2 else c1 46 i := fun i => by rw [← hcJ]; rfl
                      have g48 : ∀ i, cJ 48 i = if i = mk then _ else c1 48 i := fun i => by rw [← hcJ]; rfl
                      have g49 : ∀ i, cJ 49 i = if i = mk then _ else c1 49 i := fun i => by rw [← hcJ]; rfl
                      refine ⟨fun q hq => ?_, fun i hi => ?_, by rw [qu_eq], fun x x0 x1 => ?_, fun i hi => ⟨?_, ?_, ?_, ?_, ?_⟩, ?_, ?_, ?_, ?_, ?_⟩
                      · rw [qu_ne (by omega), qu_ne (by omega), ff2 q (by omega), fJ q (by omega) (by omega) (by omega) (by omega)]; exact ff.1 q (by omega) (by omega)
                      · rw [qu_off (by omega)]
                        show c2 39 i = _
                        rw [ff2 39 (by decide), kJ1]; exact ff.2 i (by omega)
                      · exact h2 x x0 (by omega)
                      · show c2 45 i = _
                        rw [ff2 45 (by decide), g45, if_neg hi, ff.1 45 (by decide) (by decide)]
                      · show c2 46 i = _
                        rw [ff2 46 (by decide), g46, if_neg hi, ff.1 46 (by decide) (by decide)]
                      · show qu c2 47 mk _ 47 i = _
                        rw [qu_off hi, ff2 47 (by decide), fJ 47 (by decide) (by decide) (by decide) (by decide), ff.1 47 (by decide) (by decide)]
                      · show c2 48 i = _
                        rw [ff2 48 (by decide), g48, if_neg hi, ff.1 48 (by decide) (by decide)]
                      · show c2 49 i = _
                        rw [ff2 49 (by decide), g49, if_neg hi, ff.1 49 (by decide) (by decide)]
                      · show c2 45 mk = _
                        rw [ff2 45 (by decide), g45, if_pos rfl]; rfl
                      · show c2 46 mk = _
                        rw [ff2 46 (by decide), g46, if_pos rfl]; rfl
                      · show qu c2 47 mk _ 47 mk = _
                        rw [qu_eq]; rfl
                      · show c2 48 mk = _
                        rw [ff2 48 (by decide), g48, if_pos rfl]; rfl
                      · show c2 49 mk = _
                        rw [ff2 49 (by decide), g49, if_pos rfl]; rfl)
            · skip
              have h3r := h3 r (by omega) (by omega)
              have hKr := (hK r r0).1
              refine g_aload_n (i := 0) dX8_joinNext_196 rfl rfl ?_
              refine g_getP dX8_joinNext_197 fl8_64 (by first | rfl | assumption) (by first | decide | (show _ < 62; omega)) (by first | rfl | assumption) ?_
              refine g_iload dX8_joinNext_200 rfl ?_
              refine g_aload_n (i := 0) dX8_joinNext_202 rfl rfl ?_
              refine g_getP dX8_joinNext_203 fl8_64 (by first | rfl | assumption) (by first | decide | (show _ < 62; omega)) (by first | rfl | assumption) ?_
              refine g_iload dX8_joinNext_206 rfl ?_
              refine g_iaload dX8_joinNext_208 rfl (by decide) ?_
              rw [h3r]
              skip -- ?_
              have J224 : ∀ (v : Int), (v = mgL L (pr w n wd N (ds wd N kd) L).1 (pr w n wd N (ds wd N kd) L).2 r) → qG (qYn X8_joinNext 1 (pV (fun c' => (∀ q, (q < 39 ∨ (39 < q ∧ q < 45) ∨ (49 < q ∧ q < 56)) → c' q = c q) ∧ (∀ i, i < 9 → c' 39 i = c 39 i) ∧ c' 39 9 = mk + 1 ∧ (∀ r, 0 ≤ r → r < n → c' 56 r = mgL L (pr w n wd N (ds wd N kd) L).1 (pr w n wd N (ds wd N kd) L).2 r) ∧ (∀ i, ¬ i = mk → c' 45 i = c 45 i ∧ c' 46 i = c 46 i ∧ c' 47 i = c 47 i ∧ c' 48 i = c 48 i ∧ c' 49 i = c 49 i) ∧ c' 45 mk = jv w n wd N (ds wd N kd) L (pr w n wd N (ds wd N kd) L) 0 ∧ c' 46 mk = jv w n wd N (ds wd N kd) L (pr w n wd N (ds wd N kd) L) 1 ∧ c' 47 mk = jv w n wd N (ds wd N kd) L (pr w n wd N (ds wd N kd) L) 2 ∧ c' 48 mk = jv w n wd N (ds wd N kd) L (pr w n wd N (ds wd N kd) L) 3 ∧ c' 49 mk = jv w n wd N (ds wd N kd) L (pr w n wd N (ds wd N kd) L) 4))) wN 224 [some (qP 39), some (qI w), some (qI (pr w n wd N (ds wd N kd) L).1), some (qI (pr w n wd N (ds wd N kd) L).2), none, none, none, none, none, none, some (qI r)] [qI v, qI r, qP 56] c2 := by
                intro v hv
                refine g_iastore dX8_joinNext_224 (by first | rfl | assumption) (by first | decide | (show _ < 62; omega)) ?_
                refine g_iinc10 dX8_joinNext_225 rfl ?_
                refine g_goto 187 dX8_joinNext_228 (by decide) ?_
                exact ih187 _ _ (by omega) (by first | assumption | omega) (by first | assumption | omega) (fun q hq => by rw [qu_ne hq]; exact ff2 q hq) (fun x x0 x1 => by
                        rw [qu_at]; split
                        · rename_i h; rw [hv, h]
                        · exact h2 x x0 (by omega)) (fun x x0 x1 => by rw [qu_off (by omega)]; exact h3 x (by omega) x1)
              refine g_iload_n (i := 3) dX8_joinNext_209 rfl rfl ?_
              refine g_icmp_ne 217 dX8_joinNext_210 (by decide) (fun b210 => ?_) (fun b210 => ?_)
              · skip
                refine g_aload_n (i := 0) dX8_joinNext_217 rfl rfl ?_
                refine g_getP dX8_joinNext_218 fl8_64 (by first | rfl | assumption) (by first | decide | (show _ < 62; omega)) (by first | rfl | assumption) ?_
                refine g_iload dX8_joinNext_221 rfl ?_
                refine g_iaload dX8_joinNext_223 rfl (by decide) ?_
                rw [h3r]
                skip -- ?_
                exact J224 _ (by unfold mgL; first | (rw [if_pos (by omega)]) | (rw [if_neg (by omega)]))
              · skip
                refine g_iload_n (i := 2) dX8_joinNext_213 rfl rfl ?_
                refine g_goto 224 dX8_joinNext_214 (by decide) ?_
                exact J224 _ (by unfold mgL; first | (rw [if_pos (by omega)]) | (rw [if_neg (by omega)]))
        refine g_fg4 ?_
        refine g_fg6 ?_
        refine g_fg8 ?_
        exact L187 _ _ _ (Nat.lt_succ_self _) (by first | assumption | omega) (by first | assumption | omega) (fun q _ => rfl) (fun x x0 x1 => by omega) (fun x x0 x1 => by rw [kJ2]; exact hL1 x (by omega) x1)
      · skip
        refine g_iload dX8_joinNext_26 rfl ?_
        refine g_iconst dX8_joinNext_28 ?_
        refine g_iadd dX8_joinNext_29 ?_
        refine g_istore9 dX8_joinNext_30 rfl ?_
        have L32 : ∀ (fu32 : Nat) (on tw up1 dn b : Int) (c2 : qC), (n - b).toNat < fu32 → (a + 1 ≤ b) → (b ≤ n) → ((∀ q, ¬ q = 39 → (q < 57 ∨ 61 < q) → c2 q = c q) ∧ (∀ i, i < 22 → c2 39 i = c 39 i)) → (GT c2 n wd N (ds wd N kd) L) → (((inn (VA w n wd N (ds wd N kd) L) (VB w n L) L a (outp (VA w n wd N (ds wd N kd) L) (VB w n L) L n a.toNat) (b - (a + 1)).toNat).1 = -1 ∧ on = -1 ∧ tw = -1 ∧ up1 = 0 ∧ dn = 1) ∨ (¬ (inn (VA w n wd N (ds wd N kd) L) (VB w n L) L a (outp (VA w n wd N (ds wd N kd) L) (VB w n L) L n a.toNat) (b - (a + 1)).toNat).1 = -1 ∧ Vp L n (inn (VA w n wd N (ds wd N kd) L) (VB w n L) L a (outp (VA w n wd N (ds wd N kd) L) (VB w n L) L n a.toNat) (b - (a + 1)).toNat) ∧ on = (inn (VA w n wd N (ds wd N kd) L) (VB w n L) L a (outp (VA w n wd N (ds wd N kd) L) (VB w n L) L n a.toNat) (b - (a + 1)).toNat).1 ∧ tw = (inn (VA w n wd N (ds wd N kd) L) (VB w n L) L a (outp (VA w n wd N (ds wd N kd) L) (VB w n L) L n a.toNat) (b - (a + 1)).toNat).2 ∧ up1 = VA w n wd N (ds wd N kd) L (inn (VA w n wd N (ds wd N kd) L) (VB w n L) L a (outp (VA w n wd N (ds wd N kd) L) (VB w n L) L n a.toNat) (b - (a + 1)).toNat).1 (inn (VA w n wd N (ds wd N kd) L) (VB w n L) L a (outp (VA w n wd N (ds wd N kd) L) (VB w n L) L n a.toNat) (b - (a + 1)).toNat).2 ∧ dn = VB w n L (inn (VA w n wd N (ds wd N kd) L) (VB w n L) L a (outp (VA w n wd N (ds wd N kd) L) (VB w n L) L n a.toNat) (b - (a + 1)).toNat).1 (inn (VA w n wd N (ds wd N kd) L) (VB w n L) L a (outp (VA w n wd N (ds wd N kd) L) (VB w n L) L n a.toNat) (b - (a + 1)).toNat).2)) → qG (qYn X8_joinNext 1 (pV (fun c' => (∀ q, (q < 39 ∨ (39 < q ∧ q < 45) ∨ (49 < q ∧ q < 56)) → c' q = c q) ∧ (∀ i, i < 9 → c' 39 i = c 39 i) ∧ c' 39 9 = mk + 1 ∧ (∀ r, 0 ≤ r → r < n → c' 56 r = mgL L (pr w n wd N (ds wd N kd) L).1 (pr w n wd N (ds wd N kd) L).2 r) ∧ (∀ i, ¬ i = mk → c' 45 i = c 45 i ∧ c' 46 i = c 46 i ∧ c' 47 i = c 47 i ∧ c' 48 i = c 48 i ∧ c' 49 i = c 49 i) ∧ c' 45 mk = jv w n wd N (ds wd N kd) L (pr w n wd N (ds wd N kd) L) 0 ∧ c' 46 mk = jv w n wd N (ds wd N kd) L (pr w n wd N (ds wd N kd) L) 1 ∧ c' 47 mk = jv w n wd N (ds wd N kd) L (pr w n wd N (ds wd N kd) L) 2 ∧ c' 48 mk = jv w n wd N (ds wd N kd) L (pr w n wd N (ds wd N kd) L) 3 ∧ c' 49 mk = jv w n wd N (ds wd N kd) L (pr w n wd N (ds wd N kd) L) 4))) wN 32 [some (qP 39), some (qI w), some (qI on), some (qI tw), some (qJ up1), none, some (qJ dn), none, some (qI a), some (qI b), none] [] c2 := by
          intro fu32
          induction fu32 with
          | zero => intro on tw up1 dn b c2 hm; exact absurd hm (Nat.not_lt_zero _)
          | succ fu32 ih32 =>
            intro on tw up1 dn b c2 hm32 b0 b1 ff2 hG2 hs2
            have e2 : c2 39 0 = n := by rw [ff2.2 0 (by decide)]; exact t1
            have hM2 : Md c2 n wd N := hM0.fr (ff2.2 0 (by decide)) (ff2.2 1 (by decide)) (ff2.1 40 (by decide) (by decide))
            have hL2 : ∀ r, 0 ≤ r → r < n → c2 56 r = L r := fun r r0 r1 => by rw [ff2.1 56 (by decide) (by decide)]; exact hL r r0 r1
            generalize hgi : inn (VA w n wd N (ds wd N kd) L) (VB w n L) L a (outp (VA w n wd N (ds wd N kd) L) (VB w n L) L n a.toNat) (b - (a + 1)).toNat = s at hs2
            have hinn := inn_s (V := VA w n wd N (ds wd N kd) L) (U := VB w n L) (L := L) (s := outp (VA w n wd N (ds wd N kd) L) (VB w n L) L n a.toNat) b0
            rw [hgi] at hinn
            refine g_iload dX8_joinNext_32 rfl ?_
            refine g_aload_n (i := 0) dX8_joinNext_34 rfl rfl ?_
            refine g_getI (ji := 0) dX8_joinNext_35 fl8_82 (by first | rfl | assumption) (by first | decide | (show _ < 62; omega)) (by first | rfl | assumption) (by decide) rfl (by first | assumption | rfl) ?_
            refine g_icmp_ge 121 dX8_joinNext_38 (by decide) (fun b38 => ?_) (fun b38 => ?_)
            · skip
              refine g_iinc8 dX8_joinNext_121 rfl ?_
              refine g_goto 17 dX8_joinNext_124 (by decide) ?_
              refine g_fg9 ?_
              exact ih17 _ _ _ _ _ _ (by omega) (by first | assumption | omega) (by first | assumption | omega) ff2 hG2 (by
                      rw [outp_s a0]
                      first
                        | (rw [show n - (a + 1) = b - (a + 1) by omega, hgi]; exact hs2)
                        | (have hda : ¬ L a = a := by omega
                           rw [inn_dead hda]
                           rw [inn_dead hda] at hgi
                           rw [hgi]; exact hs2))
            · skip
              have hLa := hL2 a a0 (by omega)
              have hKa := (hK a a0).1
              refine g_aload_n (i := 0) dX8_joinNext_41 rfl rfl ?_
              refine g_getP dX8_joinNext_42 fl8_64 (by first | rfl | assumption) (by first | decide | (show _ < 62; omega)) (by first | rfl | assumption) ?_
              refine g_iload dX8_joinNext_45 rfl ?_
              refine g_iaload dX8_joinNext_47 rfl (by decide) ?_
              rw [hLa]
              skip -- ?_
              refine g_iload dX8_joinNext_48 rfl ?_
              refine g_icmp_ne 121 dX8_joinNext_50 (by decide) (fun b50 => ?_) (fun b50 => ?_)
              · skip
                refine g_iinc8 dX8_joinNext_121 rfl ?_
                refine g_goto 17 dX8_joinNext_124 (by decide) ?_
                refine g_fg9 ?_
                exact ih17 _ _ _ _ _ _ (by omega) (by first | assumption | omega) (by first | assumption | omega) ff2 hG2 (by
                        rw [outp_s a0]
                        first
                          | (rw [show n - (a + 1) = b - (a + 1) by omega, hgi]; exact hs2)
                          | (have hda : ¬ L a = a := by omega
                             rw [inn_dead hda]
                             rw [inn_dead hda] at hgi
                             rw [hgi]; exact hs2))
              · skip
                have hLb := hL2 b (by omega) (by omega)
                have hKb := (hK b (by omega)).1
                refine g_aload_n (i := 0) dX8_joinNext_53 rfl rfl ?_
                refine g_getP dX8_joinNext_54 fl8_64 (by first | rfl | assumption) (by first | decide | (show _ < 62; omega)) (by first | rfl | assumption) ?_
                refine g_iload dX8_joinNext_57 rfl ?_
                refine g_iaload dX8_joinNext_59 rfl (by decide) ?_
                rw [hLb]
                skip -- ?_
                refine g_iload dX8_joinNext_60 rfl ?_
                refine g_icmp_ne 115 dX8_joinNext_62 (by decide) (fun b62 => ?_) (fun b62 => ?_)
                · skip
                  first
                    | (have hst2 := hst
                       have ffN : (∀ q, ¬ q = 39 → (q < 57 ∨ 61 < q) → c3 q = c q) ∧ (∀ i, i < 22 → c3 39 i = c 39 i) := ⟨fun q q1 q2 => by rw [x1 q q1]; exact ff2.1 q q1 q2, fun i hi => by rw [x2 i hi]; exact ff2.2 i hi⟩
                       have hGN : GT c3 n wd N (ds wd N kd) L := hG2.fr (fun q q1 q2 => x1 q (by omega))
                       have hsN : ((stp (VA w n wd N (ds wd N kd) L) (VB w n L) L s a b).1 = -1 ∧ a = -1 ∧ b = -1 ∧ (VA w n wd N (ds wd N kd) L a b) = 0 ∧ VB w n L a b = 1) ∨ (¬ (stp (VA w n wd N (ds wd N kd) L) (VB w n L) L s a b).1 = -1 ∧ Vp L n (stp (VA w n wd N (ds wd N kd) L) (VB w n L) L s a b) ∧ a = (stp (VA w n wd N (ds wd N kd) L) (VB w n L) L s a b).1 ∧ b = (stp (VA w n wd N (ds wd N kd) L) (VB w n L) L s a b).2 ∧ (VA w n wd N (ds wd N kd) L a b) = VA w n wd N (ds wd N kd) L (stp (VA w n wd N (ds wd N kd) L) (VB w n L) L s a b).1 (stp (VA w n wd N (ds wd N kd) L) (VB w n L) L s a b).2 ∧ VB w n L a b = VB w n L (stp (VA w n wd N (ds wd N kd) L) (VB w n L) L s a b).1 (stp (VA w n wd N (ds wd N kd) L) (VB w n L) L s a b).2) := by
                         rw [hst]
                         exact Or.inr ⟨by show ¬ a = -1; omega, ⟨⟨a0, by show a < b; omega, by show b < n; omega⟩, la, lb⟩, rfl, rfl, rfl, rfl⟩)
                    | (have hst3 : stp (VA w n wd N (ds wd N kd) L) (VB w n L) L s a b = s := by
                         unfold stp
                         refine if_neg (fun h => ?_)
                         first
                           | (exfalso; omega)
                           | (rcases h.2.2 with h4 | h4
                              · exact hs3.1 h4
                              · rw [← hs3.2.2.2.2.1, ← hs3.2.2.2.2.2] at h4; omega)
                       have hsN : ((stp (VA w n wd N (ds wd N kd) L) (VB w n L) L s a b).1 = -1 ∧ on = -1 ∧ tw = -1 ∧ up1 = 0 ∧ dn = 1) ∨ (¬ (stp (VA w n wd N (ds wd N kd) L) (VB w n L) L s a b).1 = -1 ∧ Vp L n (stp (VA w n wd N (ds wd N kd) L) (VB w n L) L s a b) ∧ on = (stp (VA w n wd N (ds wd N kd) L) (VB w n L) L s a b).1 ∧ tw = (stp (VA w n wd N (ds wd N kd) L) (VB w n L) L s a b).2 ∧ up1 = VA w n wd N (ds wd N kd) L (stp (VA w n wd N (ds wd N kd) L) (VB w n L) L s a b).1 (stp (VA w n wd N (ds wd N kd) L) (VB w n L) L s a b).2 ∧ dn = VB w n L (stp (VA w n wd N (ds wd N kd) L) (VB w n L) L s a b).1 (stp (VA w n wd N (ds wd N kd) L) (VB w n L) L s a b).2) := by
                         rw [hst3]
                         exact hs2
                       first
                         | (have ffN : (∀ q, ¬ q = 39 → (q < 57 ∨ 61 < q) → c3 q = c q) ∧ (∀ i, i < 22 → c3 39 i = c 39 i) := ⟨fun q q1 q2 => by rw [x1 q q1]; exact ff2.1 q q1 q2, fun i hi => by rw [x2 i hi]; exact ff2.2 i hi⟩
                            have hGN : GT c3 n wd N (ds wd N kd) L := hG2.fr (fun q q1 q2 => x1 q (by omega)))
                         | (have ffN := ff2
                            have hGN := hG2))
                  refine g_iinc9 dX8_joinNext_115 rfl ?_
                  refine g_goto 32 dX8_joinNext_118 (by decide) ?_
                  exact ih32 _ _ _ _ _ _ (by omega) (by first | assumption | omega) (by first | assumption | omega) ffN hGN (by rw [hinn]; exact hsN)
                · skip
                  have la : L a = a := by omega
                  have lb : L b = b := by omega
                  have hva := VA_bd hD t3 t4 t6 (hG2.g w0 a0 (by omega) (by omega) (by omega) la lb)
                  have hvb := VB_bd (w := w) (L := L) (a := a) (b := b) t3 (live_cn a0 (by omega) la) (live_cn (by omega) (by omega) lb)
                  refine g_aload_n (i := 0) dX8_joinNext_65 rfl rfl ?_
                  refine g_iload_n (i := 1) dX8_joinNext_66 rfl rfl ?_
                  refine g_iload dX8_joinNext_67 rfl ?_
                  refine g_iload dX8_joinNext_69 rfl ?_
                  refine n_callVv (k_X8_apartOf _ n wd kd N hM2 d0 d1 w w0 L hG2 _ _ (by omega) (by omega) (by omega) (by omega) la lb) dX8_joinNext_71 lk8_171 im_X8_apartOf (by first | rfl | assumption) (by first | decide | (show _ < 62; omega)) rfl rfl rfl rfl (Nat.le_of_ble_eq_true rfl) (fun c3 hz => ?_)
                  obtain ⟨x1, x2, x3, x4⟩ := hz
                  have hob : -1 ≤ on ∧ on < 30 := hs2.elim (fun h => by omega) (fun h => by have := h.2.1.1; omega)
                  refine g_iload_n (i := 2) dX8_joinNext_74 rfl rfl ?_
                  refine g_iconst dX8_joinNext_75 ?_
                  refine g_icmp_eq 97 dX8_joinNext_76 (by decide) (fun b76 => ?_) (fun b76 => ?_)
                  · skip
                    have hst : stp (VA w n wd N (ds wd N kd) L) (VB w n L) L s a b = (a, b) := by
                      unfold stp
                      refine if_pos ⟨la, lb, ?_⟩
                      first
                        | exact Or.inr (by rw [← hs3.2.2.2.2.1, ← hs3.2.2.2.2.2]; omega)
                        | exact Or.inl (hs2.elim (fun h => h.1) (fun h => by have h5 := h.2.2.1; have h6 := h.2.1.1; omega))
                    refine g_iload dX8_joinNext_97 rfl ?_
                    refine g_istore_n2 dX8_joinNext_99 rfl ?_
                    refine g_iload dX8_joinNext_100 rfl ?_
                    refine g_istore_n3 dX8_joinNext_102 rfl ?_
                    refine g_aload_n (i := 0) dX8_joinNext_103 rfl rfl ?_
                    refine g_getJ (ji := 22) dX8_joinNext_104 fl8_158 (by first | rfl | assumption) (by first | decide | (show _ < 62; omega)) (by first | rfl | assumption) rfl (by first | assumption | rfl) ?_
                    refine g_lstore4 dX8_joinNext_107 rfl ?_
                    refine g_aload_n (i := 0) dX8_joinNext_109 rfl rfl ?_
                    refine g_getJ (ji := 23) dX8_joinNext_110 fl8_162 (by first | rfl | assumption) (by first | decide | (show _ < 62; omega)) (by first | rfl | assumption) rfl (by first | assumption | rfl) ?_
                    refine g_lstore6 dX8_joinNext_113 rfl ?_
                    first
                      | (have hst2 := hst
                         have ffN : (∀ q, ¬ q = 39 → (q < 57 ∨ 61 < q) → c3 q = c q) ∧ (∀ i, i < 22 → c3 39 i = c 39 i) := ⟨fun q q1 q2 => by rw [x1 q q1]; exact ff2.1 q q1 q2, fun i hi => by rw [x2 i hi]; exact ff2.2 i hi⟩
                         have hGN : GT c3 n wd N (ds wd N kd) L := hG2.fr (fun q q1 q2 => x1 q (by omega))
                         have hsN : ((stp (VA w n wd N (ds wd N kd) L) (VB w n L) L s a b).1 = -1 ∧ a = -1 ∧ b = -1 ∧ (VA w n wd N (ds wd N kd) L a b) = 0 ∧ VB w n L a b = 1) ∨ (¬ (stp (VA w n wd N (ds wd N kd) L) (VB w n L) L s a b).1 = -1 ∧ Vp L n (stp (VA w n wd N (ds wd N kd) L) (VB w n L) L s a b) ∧ a = (stp (VA w n wd N (ds wd N kd) L) (VB w n L) L s a b).1 ∧ b = (stp (VA w n wd N (ds wd N kd) L) (VB w n L) L s a b).2 ∧ (VA w n wd N (ds wd N kd) L a b) = VA w n wd N (ds wd N kd) L (stp (VA w n wd N (ds wd N kd) L) (VB w n L) L s a b).1 (stp (VA w n wd N (ds wd N kd) L) (VB w n L) L s a b).2 ∧ VB w n L a b = VB w n L (stp (VA w n wd N (ds wd N kd) L) (VB w n L) L s a b).1 (stp (VA w n wd N (ds wd N kd) L) (VB w n L) L s a b).2) := by
                           rw [hst]
                           exact Or.inr ⟨by show ¬ a = -1; omega, ⟨⟨a0, by show a < b; omega, by show b < n; omega⟩, la, lb⟩, rfl, rfl, rfl, rfl⟩)
                      | (have hst3 : stp (VA w n wd N (ds wd N kd) L) (VB w n L) L s a b = s := by
                           unfold stp
                           refine if_neg (fun h => ?_)
                           first
                             | (exfalso; omega)
                             | (rcases h.2.2 with h4 | h4
                                · exact hs3.1 h4
                                · rw [← hs3.2.2.2.2.1, ← hs3.2.2.2.2.2] at h4; omega)
                         have hsN : ((stp (VA w n wd N (ds wd N kd) L) (VB w n L) L s a b).1 = -1 ∧ on = -1 ∧ tw = -1 ∧ up1 = 0 ∧ dn = 1) ∨ (¬ (stp (VA w n wd N (ds wd N kd) L) (VB w n L) L s a b).1 = -1 ∧ Vp L n (stp (VA w n wd N (ds wd N kd) L) (VB w n L) L s a b) ∧ on = (stp (VA w n wd N (ds wd N kd) L) (VB w n L) L s a b).1 ∧ tw = (stp (VA w n wd N (ds wd N kd) L) (VB w n L) L s a b).2 ∧ up1 = VA w n wd N (ds wd N kd) L (stp (VA w n wd N (ds wd N kd) L) (VB w n L) L s a b).1 (stp (VA w n wd N (ds wd N kd) L) (VB w n L) L s a b).2 ∧ dn = VB w n L (stp (VA w n wd N (ds wd N kd) L) (VB w n L) L s a b).1 (stp (VA w n wd N (ds wd N kd) L) (VB w n L) L s a b).2) := by
                           rw [hst3]
                           exact hs2
                         first
                           | (have ffN : (∀ q, ¬ q = 39 → (q < 57 ∨ 61 < q) → c3 q = c q) ∧ (∀ i, i < 22 → c3 39 i = c 39 i) := ⟨fun q q1 q2 => by rw [x1 q q1]; exact ff2.1 q q1 q2, fun i hi => by rw [x2 i hi]; exact ff2.2 i hi⟩
                              have hGN : GT c3 n wd N (ds wd N kd) L := hG2.fr (fun q q1 q2 => x1 q (by omega)))
                           | (have ffN := ff2
                              have hGN := hG2))
                    refine g_iinc9 dX8_joinNext_115 rfl ?_
                    refine g_goto 32 dX8_joinNext_118 (by decide) ?_
                    exact ih32 _ _ _ _ _ _ (by omega) (by first | assumption | omega) (by first | assumption | omega) ffN hGN (by rw [hinn]; exact hsN)
                  · skip
                    have hs3 := hs2.resolve_left (by omega)
                    have hV3 := hs3.2.1
                    have hC3 := hG2.g w0 hV3.1.1 (by have := hV3.1; omega) (by have := hV3.1; omega) hV3.1.2.2 hV3.2.1 hV3.2.2
                    have hva3 := VA_bd hD t3 t4 t6 hC3
                    have hvb3 := VB_bd (w := w) (L := L) (a := s.1) (b := s.2) t3 (live_cn hV3.1.1 (by have := hV3.1; omega) hV3.2.1) (live_cn (by have := hV3.1; omega) hV3.1.2.2 hV3.2.2)
                    rw [← hs3.2.2.2.2.1] at hva3
                    rw [← hs3.2.2.2.2.2] at hvb3
                    have hq1 := mul_le2 hva.1 hva.2 (show 0 ≤ dn by omega) hvb3.2
                    have hq2 := mul_le2 hva3.1 hva3.2 (show 0 ≤ VB w n L a b by omega) hvb.2
                    refine g_aload_n (i := 0) dX8_joinNext_79 rfl rfl ?_
                    refine g_getJ (ji := 22) dX8_joinNext_80 fl8_158 (by first | rfl | assumption) (by first | decide | (show _ < 62; omega)) (by first | rfl | assumption) rfl (by first | assumption | rfl) ?_
                    refine g_lload dX8_joinNext_83 rfl ?_
                    refine g_lmul dX8_joinNext_85 ?_
                    refine g_lload dX8_joinNext_86 rfl ?_
                    refine g_aload_n (i := 0) dX8_joinNext_88 rfl rfl ?_
                    refine g_getJ (ji := 23) dX8_joinNext_89 fl8_162 (by first | rfl | assumption) (by first | decide | (show _ < 62; omega)) (by first | rfl | assumption) rfl (by first | assumption | rfl) ?_
                    refine g_lmul dX8_joinNext_92 ?_
                    refine g_lif_ge 115 dX8_joinNext_93 dX8_joinNext_94 (by decide) (fun b93 => ?_) (fun b93 => ?_)
                    · skip
                      first
                        | (have hst2 := hst
                           have ffN : (∀ q, ¬ q = 39 → (q < 57 ∨ 61 < q) → c3 q = c q) ∧ (∀ i, i < 22 → c3 39 i = c 39 i) := ⟨fun q q1 q2 => by rw [x1 q q1]; exact ff2.1 q q1 q2, fun i hi => by rw [x2 i hi]; exact ff2.2 i hi⟩
                           have hGN : GT c3 n wd N (ds wd N kd) L := hG2.fr (fun q q1 q2 => x1 q (by omega))
                           have hsN : ((stp (VA w n wd N (ds wd N kd) L) (VB w n L) L s a b).1 = -1 ∧ a = -1 ∧ b = -1 ∧ (VA w n wd N (ds wd N kd) L a b) = 0 ∧ VB w n L a b = 1) ∨ (¬ (stp (VA w n wd N (ds wd N kd) L) (VB w n L) L s a b).1 = -1 ∧ Vp L n (stp (VA w n wd N (ds wd N kd) L) (VB w n L) L s a b) ∧ a = (stp (VA w n wd N (ds wd N kd) L) (VB w n L) L s a b).1 ∧ b = (stp (VA w n wd N (ds wd N kd) L) (VB w n L) L s a b).2 ∧ (VA w n wd N (ds wd N kd) L a b) = VA w n wd N (ds wd N kd) L (stp (VA w n wd N (ds wd N kd) L) (VB w n L) L s a b).1 (stp (VA w n wd N (ds wd N kd) L) (VB w n L) L s a b).2 ∧ VB w n L a b = VB w n L (stp (VA w n wd N (ds wd N kd) L) (VB w n L) L s a b).1 (stp (VA w n wd N (ds wd N kd) L) (VB w n L) L s a b).2) := by
                             rw [hst]
                             exact Or.inr ⟨by show ¬ a = -1; omega, ⟨⟨a0, by show a < b; omega, by show b < n; omega⟩, la, lb⟩, rfl, rfl, rfl, rfl⟩)
                        | (have hst3 : stp (VA w n wd N (ds wd N kd) L) (VB w n L) L s a b = s := by
                             unfold stp
                             refine if_neg (fun h => ?_)
                             first
                               | (exfalso; omega)
                               | (rcases h.2.2 with h4 | h4
                                  · exact hs3.1 h4
                                  · rw [← hs3.2.2.2.2.1, ← hs3.2.2.2.2.2] at h4; omega)
                           have hsN : ((stp (VA w n wd N (ds wd N kd) L) (VB w n L) L s a b).1 = -1 ∧ on = -1 ∧ tw = -1 ∧ up1 = 0 ∧ dn = 1) ∨ (¬ (stp (VA w n wd N (ds wd N kd) L) (VB w n L) L s a b).1 = -1 ∧ Vp L n (stp (VA w n wd N (ds wd N kd) L) (VB w n L) L s a b) ∧ on = (stp (VA w n wd N (ds wd N kd) L) (VB w n L) L s a b).1 ∧ tw = (stp (VA w n wd N (ds wd N kd) L) (VB w n L) L s a b).2 ∧ up1 = VA w n wd N (ds wd N kd) L (stp (VA w n wd N (ds wd N kd) L) (VB w n L) L s a b).1 (stp (VA w n wd N (ds wd N kd) L) (VB w n L) L s a b).2 ∧ dn = VB w n L (stp (VA w n wd N (ds wd N kd) L) (VB w n L) L s a b).1 (stp (VA w n wd N (ds wd N kd) L) (VB w n L) L s a b).2) := by
                             rw [hst3]
                             exact hs2
                           first
                             | (have ffN : (∀ q, ¬ q = 39 → (q < 57 ∨ 61 < q) → c3 q = c q) ∧ (∀ i, i < 22 → c3 39 i = c 39 i) := ⟨fun q q1 q2 => by rw [x1 q q1]; exact ff2.1 q q1 q2, fun i hi => by rw [x2 i hi]; exact ff2.2 i hi⟩
                                have hGN : GT c3 n wd N (ds wd N kd) L := hG2.fr (fun q q1 q2 => x1 q (by omega)))
                             | (have ffN := ff2
                                have hGN := hG2))
                      refine g_iinc9 dX8_joinNext_115 rfl ?_
                      refine g_goto 32 dX8_joinNext_118 (by decide) ?_
                      exact ih32 _ _ _ _ _ _ (by omega) (by first | assumption | omega) (by first | assumption | omega) ffN hGN (by rw [hinn]; exact hsN)
                    · skip
                      have hst : stp (VA w n wd N (ds wd N kd) L) (VB w n L) L s a b = (a, b) := by
                        unfold stp
                        refine if_pos ⟨la, lb, ?_⟩
                        first
                          | exact Or.inr (by rw [← hs3.2.2.2.2.1, ← hs3.2.2.2.2.2]; omega)
                          | exact Or.inl (hs2.elim (fun h => h.1) (fun h => by have h5 := h.2.2.1; have h6 := h.2.1.1; omega))
                      refine g_iload dX8_joinNext_97 rfl ?_
                      refine g_istore_n2 dX8_joinNext_99 rfl ?_
                      refine g_iload dX8_joinNext_100 rfl ?_
                      refine g_istore_n3 dX8_joinNext_102 rfl ?_
                      refine g_aload_n (i := 0) dX8_joinNext_103 rfl rfl ?_
                      refine g_getJ (ji := 22) dX8_joinNext_104 fl8_158 (by first | rfl | assumption) (by first | decide | (show _ < 62; omega)) (by first | rfl | assumption) rfl (by first | assumption | rfl) ?_
                      refine g_lstore4 dX8_joinNext_107 rfl ?_
                      refine g_aload_n (i := 0) dX8_joinNext_109 rfl rfl ?_
                      refine g_getJ (ji := 23) dX8_joinNext_110 fl8_162 (by first | rfl | assumption) (by first | decide | (show _ < 62; omega)) (by first | rfl | assumption) rfl (by first | assumption | rfl) ?_
                      refine g_lstore6 dX8_joinNext_113 rfl ?_
                      first
                        | (have hst2 := hst
                           have ffN : (∀ q, ¬ q = 39 → (q < 57 ∨ 61 < q) → c3 q = c q) ∧ (∀ i, i < 22 → c3 39 i = c 39 i) := ⟨fun q q1 q2 => by rw [x1 q q1]; exact ff2.1 q q1 q2, fun i hi => by rw [x2 i hi]; exact ff2.2 i hi⟩
                           have hGN : GT c3 n wd N (ds wd N kd) L := hG2.fr (fun q q1 q2 => x1 q (by omega))
                           have hsN : ((stp (VA w n wd N (ds wd N kd) L) (VB w n L) L s a b).1 = -1 ∧ a = -1 ∧ b = -1 ∧ (VA w n wd N (ds wd N kd) L a b) = 0 ∧ VB w n L a b = 1) ∨ (¬ (stp (VA w n wd N (ds wd N kd) L) (VB w n L) L s a b).1 = -1 ∧ Vp L n (stp (VA w n wd N (ds wd N kd) L) (VB w n L) L s a b) ∧ a = (stp (VA w n wd N (ds wd N kd) L) (VB w n L) L s a b).1 ∧ b = (stp (VA w n wd N (ds wd N kd) L) (VB w n L) L s a b).2 ∧ (VA w n wd N (ds wd N kd) L a b) = VA w n wd N (ds wd N kd) L (stp (VA w n wd N (ds wd N kd) L) (VB w n L) L s a b).1 (stp (VA w n wd N (ds wd N kd) L) (VB w n L) L s a b).2 ∧ VB w n L a b = VB w n L (stp (VA w n wd N (ds wd N kd) L) (VB w n L) L s a b).1 (stp (VA w n wd N (ds wd N kd) L) (VB w n L) L s a b).2) := by
                             rw [hst]
                             exact Or.inr ⟨by show ¬ a = -1; omega, ⟨⟨a0, by show a < b; omega, by show b < n; omega⟩, la, lb⟩, rfl, rfl, rfl, rfl⟩)
                        | (have hst3 : stp (VA w n wd N (ds wd N kd) L) (VB w n L) L s a b = s := by
                             unfold stp
                             refine if_neg (fun h => ?_)
                             first
                               | (exfalso; omega)
                               | (rcases h.2.2 with h4 | h4
                                  · exact hs3.1 h4
                                  · rw [← hs3.2.2.2.2.1, ← hs3.2.2.2.2.2] at h4; omega)
                           have hsN : ((stp (VA w n wd N (ds wd N kd) L) (VB w n L) L s a b).1 = -1 ∧ on = -1 ∧ tw = -1 ∧ up1 = 0 ∧ dn = 1) ∨ (¬ (stp (VA w n wd N (ds wd N kd) L) (VB w n L) L s a b).1 = -1 ∧ Vp L n (stp (VA w n wd N (ds wd N kd) L) (VB w n L) L s a b) ∧ on = (stp (VA w n wd N (ds wd N kd) L) (VB w n L) L s a b).1 ∧ tw = (stp (VA w n wd N (ds wd N kd) L) (VB w n L) L s a b).2 ∧ up1 = VA w n wd N (ds wd N kd) L (stp (VA w n wd N (ds wd N kd) L) (VB w n L) L s a b).1 (stp (VA w n wd N (ds wd N kd) L) (VB w n L) L s a b).2 ∧ dn = VB w n L (stp (VA w n wd N (ds wd N kd) L) (VB w n L) L s a b).1 (stp (VA w n wd N (ds wd N kd) L) (VB w n L) L s a b).2) := by
                             rw [hst3]
                             exact hs2
                           first
                             | (have ffN : (∀ q, ¬ q = 39 → (q < 57 ∨ 61 < q) → c3 q = c q) ∧ (∀ i, i < 22 → c3 39 i = c 39 i) := ⟨fun q q1 q2 => by rw [x1 q q1]; exact ff2.1 q q1 q2, fun i hi => by rw [x2 i hi]; exact ff2.2 i hi⟩
                                have hGN : GT c3 n wd N (ds wd N kd) L := hG2.fr (fun q q1 q2 => x1 q (by omega)))
                             | (have ffN := ff2
                                have hGN := hG2))
                      refine g_iinc9 dX8_joinNext_115 rfl ?_
                      refine g_goto 32 dX8_joinNext_118 (by decide) ?_
                      exact ih32 _ _ _ _ _ _ (by omega) (by first | assumption | omega) (by first | assumption | omega) ffN hGN (by rw [hinn]; exact hsN)
        exact L32 _ _ _ _ _ _ _ (Nat.lt_succ_self _) (by first | assumption | omega) (by first | assumption | omega) ff hG (by rw [show (a + 1 - (a + 1)).toNat = 0 by omega]; exact hs)
  exact L17 _ _ _ _ _ _ _ (Nat.lt_succ_self _) (by first | assumption | omega) (by first | assumption | omega) ⟨fun q _ hq => v1 q hq, fun i _ => by rw [v1 39 (by decide)]⟩ v2 (Or.inl ⟨rfl, rfl, rfl, rfl, rfl⟩)
set_option maxHeartbeats 4000000 in
set_option maxRecDepth 100000 in
theorem k_X8_tree (c : qC) (n wd : Int) (N : Int → Int → Int) (S : Sl) (mm : Int) (md : Int → Int) (T : Tr) (hS : TS c n wd N S mm md T) (w kd : Int) (w0 : iR w) (d0 : iR kd) : qN X8_tree 2 [qP 39, qI w, qI kd] c (pI (fun z c' => z = a_tre n w kd ∧ TS c' n wd N S mm md (t_tre n wd N T w kd) ∧ FrT c c')) := by
  have hS0 := hS
  obtain ⟨hM, hSl, hMd, hTr⟩ := hS
  have hM0 := hM
  obtain ⟨t1, t2, t3, t4, t5, t6⟩ := hM
  refine qN.of [some (qP 39), some (qI w), some (qI kd), none] (by decide) rfl (fun _ => rfl) (fun _ => Nat.le_of_ble_eq_true rfl) ?_
  refine g_iload_n (i := 1) dX8_tree_0 rfl rfl ?_
  refine g_iconst dX8_tree_1 ?_
  refine g_iconst dX8_tree_2 ?_
  refine n_callSi (k_X8_within _ _ _ _ (by omega) (by omega) (by omega)) dX8_tree_3 lk8_85 sm_X8_within rfl rfl rfl (Nat.le_of_ble_eq_true rfl) (fun z c' hz => ?_)
  obtain ⟨hz2, hz⟩ := hz
  have hz2 := hz2.symm
  subst hz2
  refine g_if_eq 18 dX8_tree_6 (by decide) (fun b6 => ?_) (fun b6 => ?_)
  · skip
    refine g_ldc (z := -2000000002) dX8_tree_18 cw8_96 ?_
    exact n_reti dX8_tree_20 rfl (by unfold a_tre t_tre; rw [if_neg (show ¬ ((0 ≤ w ∧ w ≤ 3) ∧ 0 ≤ kd ∧ kd ≤ 2) by omega), if_neg (show ¬ ((0 ≤ w ∧ w ≤ 3) ∧ 0 ≤ kd ∧ kd ≤ 2) by omega)]; exact ⟨rfl, hS0, FrT.rf c⟩)
  · skip
    refine g_iload_n (i := 2) dX8_tree_9 rfl rfl ?_
    refine g_iconst dX8_tree_10 ?_
    refine g_iconst dX8_tree_11 ?_
    refine n_callSi (k_X8_within _ _ _ _ (by omega) (by omega) (by omega)) dX8_tree_12 lk8_85 sm_X8_within rfl rfl rfl (Nat.le_of_ble_eq_true rfl) (fun z c' hz => ?_)
    obtain ⟨hz2, hz⟩ := hz
    have hz2 := hz2.symm
    subst hz2
    refine g_if_ne 21 dX8_tree_15 (by decide) (fun b15 => ?_) (fun b15 => ?_)
    · skip
      refine g_aload_n (i := 0) dX8_tree_21 rfl rfl ?_
      refine g_getI (ji := 0) dX8_tree_22 fl8_82 (by first | rfl | assumption) (by first | decide | (show _ < 62; omega)) (by first | rfl | assumption) (by decide) rfl (by first | assumption | rfl) ?_
      refine g_if_ne 31 dX8_tree_25 (by decide) (fun b25 => ?_) (fun b25 => ?_)
      · skip
        have hok : (0 ≤ w ∧ w ≤ 3) ∧ 0 ≤ kd ∧ kd ≤ 2 := by omega
        refine g_iconst dX8_tree_31 ?_
        refine g_istore_n3 dX8_tree_32 rfl ?_
        have L33 : ∀ (fu33 : Nat) (r : Int) (c1 : qC), (n - r).toNat < fu33 → (0 ≤ r) → (r ≤ n) → (∀ q, q ≠ 56 → c1 q = c q) → (∀ x, 0 ≤ x → x < r → c1 56 x = x) → qG (qYn X8_tree 2 (pI (fun z c' => z = a_tre n w kd ∧ TS c' n wd N S mm md (t_tre n wd N T w kd) ∧ FrT c c'))) wN 33 [some (qP 39), some (qI w), some (qI kd), some (qI r)] [] c1 := by
          intro fu33
          induction fu33 with
          | zero => intro r c1 hm; exact absurd hm (Nat.not_lt_zero _)
          | succ fu33 ih33 =>
            intro r c1 hm33 r0 r1 ff h1
            have e1 : c1 39 0 = n := by rw [ff 39 (by decide)]; exact t1
            refine g_iload_n (i := 3) dX8_tree_33 rfl rfl ?_
            refine g_aload_n (i := 0) dX8_tree_34 rfl rfl ?_
            refine g_getI (ji := 0) dX8_tree_35 fl8_82 (by first | rfl | assumption) (by first | decide | (show _ < 62; omega)) (by first | rfl | assumption) (by decide) rfl (by first | assumption | rfl) ?_
            refine g_icmp_ge 54 dX8_tree_38 (by decide) (fun b38 => ?_) (fun b38 => ?_)
            · skip
              have hM1 : Md c1 n wd N := hM0.fr (by rw [ff 39 (by decide)]) (by rw [ff 39 (by decide)]) (ff 40 (by decide))
              refine g_aload_n (i := 0) dX8_tree_54 rfl rfl ?_
              refine g_iload_n (i := 2) dX8_tree_55 rfl rfl ?_
              refine n_callVv (k_X8_lay _ n wd _ N hM1 (by omega) (by omega)) dX8_tree_56 lk8_114 im_X8_lay (by first | rfl | assumption) (by first | decide | (show _ < 62; omega)) rfl rfl rfl rfl (Nat.le_of_ble_eq_true rfl) (fun c2 hz => ?_)
              obtain ⟨hf, hl⟩ := hz
              refine g_aload_n (i := 0) dX8_tree_59 rfl rfl ?_
              refine g_iconst dX8_tree_60 ?_
              refine g_putI 9 dX8_tree_61 fl8_102 fw8_9 (by first | rfl | assumption) (by first | decide | (show _ < 62; omega)) (by first | rfl | assumption) (by decide) rfl ?_
              have L64 : ∀ (fu64 : Nat) (j : Int) (c1 : qC), (n - j).toNat < fu64 → (0 ≤ j) → (j ≤ n - 1) → (∀ q, (q < 39 ∨ (39 < q ∧ q < 45) ∨ (50 < q ∧ q < 56)) → c1 q = c q) → (∀ i, i < 9 → c1 39 i = c 39 i) → (c1 39 9 = j) → (∀ i j, 0 ≤ i → i < n → 0 ≤ j → j < n → c1 50 (30 * i + j) = (ds wd N kd) i j) → (∀ r, 0 ≤ r → r < n → c1 56 r = (TL w n wd N (ds wd N kd) j.toNat) r) → (∀ i, 0 ≤ i → i < j → c1 45 i = (JT w n wd N (ds wd N kd)) 0 i ∧ c1 46 i = (JT w n wd N (ds wd N kd)) 1 i ∧ c1 47 i = (JT w n wd N (ds wd N kd)) 2 i ∧ c1 48 i = (JT w n wd N (ds wd N kd)) 3 i ∧ c1 49 i = (JT w n wd N (ds wd N kd)) 4 i) → qG (qYn X8_tree 2 (pI (fun z c' => z = a_tre n w kd ∧ TS c' n wd N S mm md (t_tre n wd N T w kd) ∧ FrT c c'))) wN 64 [some (qP 39), some (qI w), some (qI kd), none] [] c1 := by
                intro fu64
                induction fu64 with
                | zero => intro j c1 hm; exact absurd hm (Nat.not_lt_zero _)
                | succ fu64 ih64 =>
                  intro j c1 hm64 j0 j1 ff h0 hmk hl hL hJ
                  have e1 : c1 39 0 = n := by rw [h0 0 (by decide)]; exact t1
                  have hM1 : Md c1 n wd N := hM0.fr (h0 0 (by decide)) (h0 1 (by decide)) (ff 40 (by decide))
                  refine g_aload_n (i := 0) dX8_tree_64 rfl rfl ?_
                  refine g_getI (ji := 9) dX8_tree_65 fl8_102 (by first | rfl | assumption) (by first | decide | (show _ < 62; omega)) (by first | rfl | assumption) (by decide) rfl (by first | assumption | rfl) ?_
                  refine g_aload_n (i := 0) dX8_tree_68 rfl rfl ?_
                  refine g_getI (ji := 0) dX8_tree_69 fl8_82 (by first | rfl | assumption) (by first | decide | (show _ < 62; omega)) (by first | rfl | assumption) (by decide) rfl (by first | assumption | rfl) ?_
                  refine g_iconst dX8_tree_72 ?_
                  refine g_isub dX8_tree_73 ?_
                  refine g_icmp_ge 85 dX8_tree_74 (by decide) (fun b74 => ?_) (fun b74 => ?_)
                  · skip
                    refine g_aload_n (i := 0) dX8_tree_85 rfl rfl ?_
                    refine g_iconst dX8_tree_86 ?_
                    refine g_putZ 8 dX8_tree_87 fl8_92 fw8_8 (by first | rfl | assumption) (by first | decide | (show _ < 62; omega)) (by first | rfl | assumption) (by decide) rfl (by first | exact Or.inl rfl | exact Or.inr rfl | omega) ?_
                    refine g_aload_n (i := 0) dX8_tree_90 rfl rfl ?_
                    refine g_getI (ji := 9) dX8_tree_91 fl8_102 (by first | rfl | assumption) (by first | decide | (show _ < 62; omega)) (by first | rfl | assumption) (by decide) rfl (by first | assumption | rfl) ?_
                    exact n_reti dX8_tree_94 rfl (by
                            unfold a_tre t_tre; rw [if_pos hok, if_pos hok, if_neg (show ¬ n = 0 by omega), if_neg (show ¬ n = 0 by omega)]
                            have hjn : j = n - 1 := by omega
                            have hok2 := JT_ok (w := w) (n := n) (wd := wd) (N := N) (D := (ds wd N kd)) (n - 1).toNat (by omega)
                            refine ⟨hjn, hS0.tr (fun q q0 q1 => by rw [qu_ne (by omega)]; exact ff q (by omega)) (fun i hi => by rw [qu_off (by omega)]; exact h0 i (by omega)) ⟨by rw [qu_eq], by rw [qu_off (by decide), hmk]; exact hjn, rfl, by omega, fun i i0 i1 => ?_⟩, fun q hq => by rw [qu_ne (by omega)]; exact ff q (by omega)⟩
                            have i2 : i < n - 1 := i1
                            have h5 := hok2 i i0 (by omega)
                            refine ⟨hJ i i0 (by omega), h5.1.1, h5.1.2.1, h5.1.2.2, ?_⟩
                            show iR (cn (TL w n wd N (ds wd N kd) i.toNat) n (pr w n wd N (ds wd N kd) (TL w n wd N (ds wd N kd) i.toNat)).1 + cn (TL w n wd N (ds wd N kd) i.toNat) n (pr w n wd N (ds wd N kd) (TL w n wd N (ds wd N kd) i.toNat)).2)
                            have h6 := cn_bd (g := TL w n wd N (ds wd N kd) i.toNat) (n := n) (k := (pr w n wd N (ds wd N kd) (TL w n wd N (ds wd N kd) i.toNat)).1) t3.1
                            have h7 := cn_bd (g := TL w n wd N (ds wd N kd) i.toNat) (n := n) (k := (pr w n wd N (ds wd N kd) (TL w n wd N (ds wd N kd) i.toNat)).2) t3.1
                            omega)
                  · skip
                    have hprV := TL_pr (w := w) (n := n) (wd := wd) (N := N) (D := (ds wd N kd)) j0 (by omega)
                    refine g_aload_n (i := 0) dX8_tree_77 rfl rfl ?_
                    refine g_iload_n (i := 1) dX8_tree_78 rfl rfl ?_
                    refine n_callVv (k_X8_joinNext _ n wd kd N hM1 (by omega) (by omega) w (by omega) (TL w n wd N (ds wd N kd) j.toNat) (TL_ok j0 j1) j (by omega) hmk hprV hL hl) dX8_tree_79 lk8_165 im_X8_joinNext (by first | rfl | assumption) (by first | decide | (show _ < 62; omega)) rfl rfl rfl rfl (Nat.le_of_ble_eq_true rfl) (fun c2 hz => ?_)
                    obtain ⟨y1, y2, y3, y4, y5, y6⟩ := hz
                    refine g_goto 64 dX8_tree_82 (by decide) ?_
                    exact ih64 (j + 1) _ (by omega) (by first | assumption | omega) (by first | assumption | omega) (fun q hq => by rw [y1 q (by omega)]; exact ff q hq) (fun i hi => by rw [y2 i hi]; exact h0 i hi) y3 (fun i k i0 i1 k0 k1 => by rw [y1 50 (by decide)]; exact hl i k i0 i1 k0 k1) (fun r r0 r1 => by rw [TL_s j0]; exact y4 r r0 r1) (fun i i0 i1 => by
                            by_cases e : i = j
                            · subst e; exact y6
                            · have h5 := hJ i i0 (by omega)
                              have h6 := y5 i e
                              rw [h6.1, h6.2.1, h6.2.2.1, h6.2.2.2.1, h6.2.2.2.2]
                              exact h5)
              refine g_fg3 ?_
              exact L64 _ 0 _ (Nat.lt_succ_self _) (by first | assumption | omega) (by first | assumption | omega) (fun q hq => by rw [qu_ne (by omega), hf q (by omega)]; exact ff q (by omega)) (fun i hi => by rw [qu_off (by omega), hf 39 (by decide), ff 39 (by decide)]) (qu_eq _ _ _ _) hl (fun r r0 r1 => by rw [qu_ne (by decide), hf 56 (by decide)]; exact h1 r r0 (by omega)) (fun i i0 i1 => by omega)
            · skip
              refine g_aload_n (i := 0) dX8_tree_41 rfl rfl ?_
              refine g_getP dX8_tree_42 fl8_64 (by first | rfl | assumption) (by first | decide | (show _ < 62; omega)) (by first | rfl | assumption) ?_
              refine g_iload_n (i := 3) dX8_tree_45 rfl rfl ?_
              refine g_iload_n (i := 3) dX8_tree_46 rfl rfl ?_
              refine g_iastore dX8_tree_47 (by first | rfl | assumption) (by first | decide | (show _ < 62; omega)) ?_
              refine g_iinc3 dX8_tree_48 rfl ?_
              refine g_goto 33 dX8_tree_51 (by decide) ?_
              exact ih33 _ _ (by omega) (by first | assumption | omega) (by first | assumption | omega) (fun q hq => by rw [qu_ne hq]; exact ff q hq) (fun x x0 x1 => by
                      rw [qu_at]; split
                      · rename_i h; exact h.symm
                      · exact h1 x x0 (by omega))
        exact L33 _ _ _ (Nat.lt_succ_self _) (by first | assumption | omega) (by first | assumption | omega) (fun q _ => rfl) (fun x x0 x1 => by omega)
      · skip
        refine g_ldc (z := -2000000003) dX8_tree_28 cw8_97 ?_
        exact n_reti dX8_tree_30 rfl (by unfold a_tre t_tre; rw [if_pos (show (0 ≤ w ∧ w ≤ 3) ∧ 0 ≤ kd ∧ kd ≤ 2 by omega), if_pos (show (0 ≤ w ∧ w ≤ 3) ∧ 0 ≤ kd ∧ kd ≤ 2 by omega), if_pos (show n = 0 by omega), if_pos (show n = 0 by omega)]; exact ⟨rfl, hS0, FrT.rf c⟩)
    · skip
      refine g_ldc (z := -2000000002) dX8_tree_18 cw8_96 ?_
      exact n_reti dX8_tree_20 rfl (by unfold a_tre t_tre; rw [if_neg (show ¬ ((0 ≤ w ∧ w ≤ 3) ∧ 0 ≤ kd ∧ kd ≤ 2) by omega), if_neg (show ¬ ((0 ≤ w ∧ w ≤ 3) ∧ 0 ≤ kd ∧ kd ≤ 2) by omega)]; exact ⟨rfl, hS0, FrT.rf c⟩)
