theorem sI_up {f : Int → Int} {n : Int} (h : ∀ r, 0 ≤ r → r < n → 0 ≤ f r) : ∀ (k : Nat) (r : Int), 0 ≤ r → r + k = n → sI f r ≤ sI f n
  | 0, r, h0, h1 => by rw [show r = n by omega]; exact Int.le_refl _
  | k + 1, r, h0, h1 => by
    have h2 := sI_up h k (r + 1) (by omega) (by omega)
    rw [sI_s h0] at h2
    have := h r h0 (by omega)
    omega
/-- how far ROW r lies from the nearest of k chosen ROWS -/
def nd (D : Int → Int → Int) (k a b c r : Int) : Int := if k = 1 then D a r else if k = 2 then mn (D a r) (D b r) else mn (mn (D a r) (D b r)) (D c r)
def co (D : Int → Int → Int) (n k a b c : Int) : Int := sI (nd D k a b c) n
/-- chosen ROWS in their order; those that are not asked for stand at the last ROW -/
def Vd (k n a b c : Int) : Prop := (0 ≤ a ∧ a < n) ∧ ((k = 1 ∧ b = n - 1) ∨ (¬ k = 1 ∧ a < b ∧ b < n)) ∧ ((¬ k = 3 ∧ c = n - 1) ∨ (k = 3 ∧ b < c ∧ c < n))
def No (k n u : Int) : Prop := ∀ x y z, Vd k n x y z → u ≤ 900 * x + 30 * y + z
def Bs (D : Int → Int → Int) (n k u t a b c : Int) : Prop := Vd k n a b c ∧ 900 * a + 30 * b + c < u ∧ t = co D n k a b c ∧ ∀ x y z, Vd k n x y z → 900 * x + 30 * y + z < u → t < co D n k x y z ∨ (t = co D n k x y z ∧ 900 * a + 30 * b + c ≤ 900 * x + 30 * y + z)
def BB (D : Int → Int → Int) (n k u v t a b c : Int) : Prop := (t = v ∧ No k n u) ∨ Bs D n k u t a b c
theorem Vd.inj {k n a b c x y z : Int} (hn : n ≤ 30) (hk : 1 ≤ k ∧ k ≤ 3) (h : Vd k n a b c) (g : Vd k n x y z) (e : 900 * a + 30 * b + c = 900 * x + 30 * y + z) : a = x ∧ b = y ∧ c = z := by
  unfold Vd at h g
  have h1 : 0 ≤ b ∧ b ≤ 29 ∧ 0 ≤ c ∧ c ≤ 29 := by omega
  have h2 : 0 ≤ y ∧ y ≤ 29 ∧ 0 ≤ z ∧ z ≤ 29 := by omega
  clear h g
  have h3 : a = x := by omega
  have h4 : b = y := by omega
  exact ⟨h3, h4, by omega⟩
theorem Vd.b {k n a b c : Int} (h : Vd k n a b c) (hn : n ≤ 30) : (0 ≤ a ∧ a ≤ 29) ∧ (0 ≤ b ∧ b ≤ 29) ∧ 0 ≤ c ∧ c ≤ 29 := by
  unfold Vd at h
  omega
def Db (D : Int → Int → Int) (n : Int) : Prop := ∀ i j, 0 ≤ i → i < n → 0 ≤ j → j < n → 0 ≤ D i j ∧ D i j ≤ 16000000
theorem nd_bd {D : Int → Int → Int} {n k a b c r : Int} (hD : Db D n) (hk : 1 ≤ k ∧ k ≤ 3) (h : Vd k n a b c) (r0 : 0 ≤ r) (r1 : r < n) : 0 ≤ nd D k a b c r ∧ nd D k a b c r ≤ 16000000 := by
  have h1 := hD a r h.1.1 h.1.2 r0 r1
  have h2 := hD b r (by unfold Vd at h; omega) (by unfold Vd at h; omega) r0 r1
  have h3 := hD c r (by unfold Vd at h; omega) (by unfold Vd at h; omega) r0 r1
  unfold nd mn
  (repeat' split) <;> omega
theorem co_bd {D : Int → Int → Int} {n k a b c : Int} (hD : Db D n) (hn : 0 ≤ n ∧ n ≤ 30) (hk : 1 ≤ k ∧ k ≤ 3) (h : Vd k n a b c) : 0 ≤ co D n k a b c ∧ co D n k a b c ≤ 480000000 := by
  have := sI_bd (f := nd D k a b c) (lo := 0) (hi := 16000000) hn.1 (fun r r0 r1 => nd_bd hD hk h r0 r1)
  unfold co
  omega
theorem BB.mv {D : Int → Int → Int} {n k u u2 v t a b c : Int} (h : BB D n k u v t a b c) (hu : u ≤ u2) (hm : ∀ x y z, Vd k n x y z → 900 * x + 30 * y + z < u2 → 900 * x + 30 * y + z < u) : BB D n k u2 v t a b c := by
  rcases h with ⟨h1, h2⟩ | ⟨h1, h2, h3, h4⟩
  · refine Or.inl ⟨h1, fun x y z hx => ?_⟩
    have h5 := h2 x y z hx
    have h6 := hm x y z hx
    omega
  · exact Or.inr ⟨h1, by omega, h3, fun x y z hx q => h4 x y z hx (hm x y z hx q)⟩
theorem BB.nw {D : Int → Int → Int} {n k u v t a b c x y z : Int} (h : BB D n k u v t a b c) (hn : 0 ≤ n ∧ n ≤ 30) (hk : 1 ≤ k ∧ k ≤ 3) (hD : Db D n) (hv : v < 0 ∨ 480000000 < v) (hx : Vd k n x y z) (hm : ∀ x1 y1 z1, Vd k n x1 y1 z1 → 900 * x1 + 30 * y1 + z1 < 900 * x + 30 * y + z → 900 * x1 + 30 * y1 + z1 < u) (ht : t = v ∨ co D n k x y z < t) : BB D n k (900 * x + 30 * y + z + 1) v (co D n k x y z) x y z := by
  refine Or.inr ⟨hx, by omega, rfl, fun x1 y1 z1 h1 q => ?_⟩
  by_cases e : 900 * x1 + 30 * y1 + z1 = 900 * x + 30 * y + z
  · obtain ⟨rfl, rfl, rfl⟩ := Vd.inj hn.2 hk h1 hx e
    right; omega
  · have h2 := hm x1 y1 z1 h1 (by omega)
    rcases h with ⟨h3, h4⟩ | ⟨h3, h4, h5, h6⟩
    · have := h4 x1 y1 z1 h1; omega
    · have h7 := h6 x1 y1 z1 h1 h2
      have h8 := co_bd hD hn hk h3
      omega
theorem BB.od {D : Int → Int → Int} {n k u v t a b c x y z : Int} (h : BB D n k u v t a b c) (hn : 0 ≤ n ∧ n ≤ 30) (hk : 1 ≤ k ∧ k ≤ 3) (hx : Vd k n x y z) (hu : u ≤ 900 * x + 30 * y + z) (hm : ∀ x1 y1 z1, Vd k n x1 y1 z1 → 900 * x1 + 30 * y1 + z1 < 900 * x + 30 * y + z → 900 * x1 + 30 * y1 + z1 < u) (hv : ¬ t = v) (ht : t ≤ co D n k x y z) : BB D n k (900 * x + 30 * y + z + 1) v t a b c := by
  rcases h with ⟨h3, h4⟩ | ⟨h3, h4, h5, h6⟩
  · exact absurd h3 hv
  · refine Or.inr ⟨h3, by omega, h5, fun x1 y1 z1 h1 q => ?_⟩
    by_cases e : 900 * x1 + 30 * y1 + z1 = 900 * x + 30 * y + z
    · obtain ⟨rfl, rfl, rfl⟩ := Vd.inj hn.2 hk h1 hx e
      omega
    · exact h6 x1 y1 z1 h1 (hm x1 y1 z1 h1 (by omega))
theorem Bs.un {D : Int → Int → Int} {n k u t a b c s x y z : Int} (hn : n ≤ 30) (hk : 1 ≤ k ∧ k ≤ 3) (h : Bs D n k u t a b c) (g : Bs D n k u s x y z) : t = s ∧ a = x ∧ b = y ∧ c = z := by
  have h1 := h.2.2.2 x y z g.1 g.2.1
  have h2 := g.2.2.2 a b c h.1 h.2.1
  have h3 := h.2.2.1
  have h4 := g.2.2.1
  refine ⟨by omega, Vd.inj hn hk h.1 g.1 (by omega)⟩
noncomputable def bp (D : Int → Int → Int) (n k : Int) : Int × Int × Int × Int := Classical.epsilon (fun p => Bs D n k (900 * n) p.1 p.2.1 p.2.2.1 p.2.2.2)
theorem bp_eq {D : Int → Int → Int} {n k t a b c : Int} (hn : n ≤ 30) (hk : 1 ≤ k ∧ k ≤ 3) (h : Bs D n k (900 * n) t a b c) : bp D n k = (t, a, b, c) := by
  have h1 : Bs D n k (900 * n) (bp D n k).1 (bp D n k).2.1 (bp D n k).2.2.1 (bp D n k).2.2.2 := Classical.epsilon_spec (p := fun p : Int × Int × Int × Int => Bs D n k (900 * n) p.1 p.2.1 p.2.2.1 p.2.2.2) ⟨(t, a, b, c), h⟩
  obtain ⟨h2, h3, h4, h5⟩ := Bs.un hn hk h1 h
  rw [← h2, ← h3, ← h4, ← h5]
theorem BB.en {D : Int → Int → Int} {n k v t a b c : Int} (hn : k ≤ n ∧ n ≤ 30) (hk : 1 ≤ k ∧ k ≤ 3) (h : BB D n k (900 * n) v t a b c) : Bs D n k (900 * n) t a b c := by
  rcases h with ⟨h1, h2⟩ | h
  · exfalso
    have h3 := h2 0 (if k = 1 then n - 1 else 1) (if k = 3 then 2 else n - 1) (by unfold Vd; (repeat' split) <;> omega)
    revert h3
    (repeat' split) <;> omega
  · exact h
def mdF (a b c i : Int) : Int := if i = 0 then a else if i = 1 then b else c
noncomputable def mdB (D : Int → Int → Int) (n k : Int) : Int → Int := mdF (bp D n k).2.1 (bp D n k).2.2.1 (bp D n k).2.2.2
/-- the first of the chosen ROWS 0 to j that is nearest to ROW r -/
def nm (D : Int → Int → Int) (md : Int → Int) (r : Int) : Nat → Int
  | 0 => 0
  | j + 1 => if D (md ((j : Int) + 1)) r < D (md (nm D md r j)) r then (j : Int) + 1 else nm D md r j
theorem nm_bd {D : Int → Int → Int} {md : Int → Int} {r : Int} : ∀ j : Nat, 0 ≤ nm D md r j ∧ nm D md r j ≤ j
  | 0 => by show (0 : Int) ≤ 0 ∧ (0 : Int) ≤ ((0 : Nat) : Int); omega
  | j + 1 => by
    have := nm_bd (D := D) (md := md) (r := r) j
    rw [nm]
    split <;> omega
theorem nm_s {D : Int → Int → Int} {md : Int → Int} {r j : Int} (h : 1 ≤ j) : nm D md r (j + 1 - 1).toNat = if D (md j) r < D (md (nm D md r (j - 1).toNat)) r then j else nm D md r (j - 1).toNat := by
  rw [show (j + 1 - 1).toNat = (j - 1).toNat + 1 by omega, nm, show (((j - 1).toNat : Nat) : Int) + 1 = j by omega]
noncomputable def a_mds (n wd : Int) (N : Int → Int → Int) (s kd k : Int) : Int := if (0 ≤ s ∧ s ≤ 1) ∧ (0 ≤ kd ∧ kd ≤ 2) ∧ 1 ≤ k ∧ k ≤ 3 then (if n < k then -2000000003 else (bp (ds wd N kd) n k).1) else -2000000002
noncomputable def s_mds (n wd : Int) (N : Int → Int → Int) (S : Sl) (s kd k : Int) : Sl := if (0 ≤ s ∧ s ≤ 1) ∧ (0 ≤ kd ∧ kd ≤ 2) ∧ 1 ≤ k ∧ k ≤ 3 then (if n < k then S else Sup S s (fun r => nm (ds wd N kd) (mdB (ds wd N kd) n k) r (k - 1).toNat) k) else S
noncomputable def m_mds (n mm s kd k : Int) : Int := if (0 ≤ s ∧ s ≤ 1) ∧ (0 ≤ kd ∧ kd ≤ 2) ∧ 1 ≤ k ∧ k ≤ 3 then (if n < k then mm else k) else mm
noncomputable def d_mds (n wd : Int) (N : Int → Int → Int) (md : Int → Int) (s kd k : Int) : Int → Int := if (0 ≤ s ∧ s ≤ 1) ∧ (0 ≤ kd ∧ kd ≤ 2) ∧ 1 ≤ k ∧ k ≤ 3 then (if n < k then md else mdB (ds wd N kd) n k) else md
theorem CS.md {c c' : qC} {n wd : Int} {N : Int → Int → Int} {S : Sl} {mm : Int} {md : Int → Int} {T : Tr} {m2 : Int} {md2 : Int → Int} (h : CS c n wd N S mm md T) (hf : ∀ k, (k < 11 ∨ (27 ≤ k ∧ k < 33)) → c' k = c k) (h1 : c' 18 4 = m2) (h2 : 0 ≤ m2 ∧ m2 ≤ 3) (h3 : ∀ i, 0 ≤ i → i < m2 → c' 20 i = md2 i) : CS c' n wd N S m2 md2 T := by
  obtain ⟨g1, g2, g3, g4⟩ := h
  refine ⟨g1.fr (hf 1 (by decide)) (hf 2 (by decide)) (hf 3 (by decide)), fun t t0 t1 => ?_, ⟨h1, h2, h3⟩, ?_⟩
  · have h5 := g2 t t0 t1
    obtain ⟨o2, e2, -, -, -, h58, -⟩ := oS_ex (s := t) ⟨t0, t1⟩
    rw [e2] at h5 ⊢
    have f0 := hf o2 (by omega)
    have f1 := hf (o2 + 1) (by omega)
    have f2 := hf (o2 + 2) (by omega)
    unfold CSl at h5 ⊢
    cases hs2 : S t with
    | none => rw [hs2] at h5; show c' o2 3 = -1; rw [f0]; exact h5
    | some p => rw [hs2] at h5; exact Gr.fr h5 f0 f1 f2
  · unfold CTr at g4 ⊢
    rw [hf 27 (by decide), hf 28 (by decide), hf 29 (by decide), hf 30 (by decide), hf 31 (by decide), hf 32 (by decide)]
    exact g4
theorem TS.md {c c' : qC} {n wd : Int} {N : Int → Int → Int} {S : Sl} {mm : Int} {md : Int → Int} {T : Tr} {m2 : Int} {md2 : Int → Int} (h : TS c n wd N S mm md T) (hf : ∀ k, 40 ≤ k → k < 50 → k ≠ 44 → c' k = c k) (h0 : ∀ i, ¬ i = 6 → c' 39 i = c 39 i) (h1 : c' 39 6 = m2) (h2 : 0 ≤ m2 ∧ m2 ≤ 3) (h3 : ∀ i, 0 ≤ i → i < m2 → c' 44 i = md2 i) : TS c' n wd N S m2 md2 T := by
  obtain ⟨g1, g2, g3, g4⟩ := h
  refine ⟨g1.fr (h0 0 (by decide)) (h0 1 (by decide)) (hf 40 (by decide) (by decide) (by decide)), fun t t0 t1 => ?_, ⟨h1, h2, h3⟩, ?_⟩
  · have h5 := g2 t t0 t1
    unfold TSl at h5 ⊢
    rw [hf 41 (by decide) (by decide) (by decide), hf 42 (by decide) (by decide) (by decide), hf 43 (by decide) (by decide) (by decide)]
    exact h5
  · unfold TTr at g4 ⊢
    rw [h0 8 (by decide), h0 9 (by decide), hf 45 (by decide) (by decide) (by decide), hf 46 (by decide) (by decide) (by decide), hf 47 (by decide) (by decide) (by decide), hf 48 (by decide) (by decide) (by decide), hf 49 (by decide) (by decide) (by decide)]
    exact g4
/-- the best ROWS as BestRows holds them -/
def BC (c : qC) (D : Int → Int → Int) (n k u : Int) : Prop := BB D n k u 2000000000 (c 18 5) (c 20 0) (if k = 1 then n - 1 else c 20 1) (if k = 3 then c 20 2 else n - 1)
theorem BC.b {c : qC} {D : Int → Int → Int} {n k u : Int} (h : BC c D n k u) (hD : Db D n) (hn : 0 ≤ n ∧ n ≤ 30) (hk : 1 ≤ k ∧ k ≤ 3) : 0 ≤ c 18 5 ∧ c 18 5 ≤ 2000000000 := by
  rcases h with ⟨h, -⟩ | h
  · omega
  · have h1 := co_bd hD hn hk h.1
    have h2 := h.2.2.1
    omega
set_option maxHeartbeats 4000000 in
set_option maxRecDepth 100000 in
theorem k_X0_lowerLeasts (c : qC) (n wd kd : Int) (N : Int → Int → Int) (hT : Tb c n wd N) (d0 : 0 ≤ kd) (d1 : kd < 3) (lv ch : Int) (l0 : 0 ≤ lv ∧ lv ≤ 1) (c0 : 0 ≤ ch) (c1 : ch < n) (ls : Int → Int) (hls : ∀ r, 0 ≤ r → r < n → c 22 (lv * 30 + r) = ls r ∧ 0 ≤ ls r ∧ ls r ≤ 2000000000) : qN X0_lowerLeasts 1 [qP 18, qP 1, qI kd, qI lv, qI ch] c (pV (fun c' => (∀ k, k ≠ 22 → c' k = c k) ∧ (∀ x, x < lv * 30 + 30 → c' 22 x = c 22 x) ∧ ∀ r, 0 ≤ r → r < n → c' 22 (lv * 30 + 30 + r) = mn (ls r) ((ds wd N kd) ch r))) := by
  have hT0 := hT
  obtain ⟨t1, t2, t3, t4, t5, t6, t7⟩ := hT
  refine qN.of [some (qP 18), some (qP 1), some (qI kd), some (qI lv), some (qI ch), none, none, none] (by decide) rfl (fun _ => rfl) (fun _ => Nat.le_of_ble_eq_true rfl) ?_
  refine g_aload_n (i := 1) dX0_lowerLeasts_0 rfl rfl ?_
  refine g_iload_n (i := 2) dX0_lowerLeasts_1 rfl rfl ?_
  refine g_iload dX0_lowerLeasts_2 rfl ?_
  refine n_callVi (k_X6_placeOf _ _ _) dX0_lowerLeasts_4 lk0_51 im_X6_placeOf (by first | rfl | assumption) (by first | decide | (show _ < 62; omega)) rfl rfl rfl rfl (Nat.le_of_ble_eq_true rfl) (fun z c' hz => ?_)
  obtain ⟨rfl, hz2⟩ := hz
  have hz2 := hz2.symm
  subst hz2
  refine g_istore5 dX0_lowerLeasts_7 rfl ?_
  refine g_iload_n (i := 3) dX0_lowerLeasts_9 rfl rfl ?_
  refine g_bipush dX0_lowerLeasts_10 (by decide) ?_
  refine g_imul dX0_lowerLeasts_12 ?_
  refine g_istore6 dX0_lowerLeasts_13 rfl ?_
  refine g_iconst dX0_lowerLeasts_15 ?_
  refine g_istore7 dX0_lowerLeasts_16 rfl ?_
  have L18 : ∀ (fu18 : Nat) (r : Int) (c1 : qC), (n - r).toNat < fu18 → (0 ≤ r) → (r ≤ n) → (∀ k, k ≠ 22 → c1 k = c k) → (∀ x, x < lv * 30 + 30 → c1 22 x = c 22 x) → (∀ x, 0 ≤ x → x < r → c1 22 (lv * 30 + 30 + x) = mn (ls x) ((ds wd N kd) ch x)) → qG (qYn X0_lowerLeasts 1 (pV (fun c' => (∀ k, k ≠ 22 → c' k = c k) ∧ (∀ x, x < lv * 30 + 30 → c' 22 x = c 22 x) ∧ ∀ r, 0 ≤ r → r < n → c' 22 (lv * 30 + 30 + r) = mn (ls r) ((ds wd N kd) ch r)))) wN 18 [some (qP 18), some (qP 1), some (qI kd), some (qI lv), some (qI ch), some (qI ((kd * 30 + ch) * 30)), some (qI (lv * 30)), some (qI r)] [] c1 := by
    intro fu18
    induction fu18 with
    | zero => intro r c1 hm; exact absurd hm (Nat.not_lt_zero _)
    | succ fu18 ih18 =>
      intro r c1 hm18 r0 r1 ff h1 h2
      have e1 : c1 1 3 = n := by rw [ff 1 (by decide)]; exact t1
      refine g_iload dX0_lowerLeasts_18 rfl ?_
      refine g_aload_n (i := 1) dX0_lowerLeasts_20 rfl rfl ?_
      refine g_getI (ji := 3) dX0_lowerLeasts_21 fl0_32 (by first | rfl | assumption) (by first | decide | (show _ < 62; omega)) (by first | rfl | assumption) (by decide) rfl (by first | assumption | rfl) ?_
      refine g_icmp_ge 69 dX0_lowerLeasts_24 (by decide) (fun b24 => ?_) (fun b24 => ?_)
      · skip
        exact n_retv dX0_lowerLeasts_69 rfl (⟨ff, h1, fun x q0 q1 => h2 x q0 (by omega)⟩)
      · skip
        refine g_aload_n (i := 0) dX0_lowerLeasts_27 rfl rfl ?_
        refine g_getP dX0_lowerLeasts_28 fl0_21 (by first | rfl | assumption) (by first | decide | (show _ < 62; omega)) (by first | rfl | assumption) ?_
        refine g_iload dX0_lowerLeasts_31 rfl ?_
        refine g_bipush dX0_lowerLeasts_33 (by decide) ?_
        refine g_iadd dX0_lowerLeasts_35 ?_
        refine g_iload dX0_lowerLeasts_36 rfl ?_
        refine g_iadd dX0_lowerLeasts_38 ?_
        refine g_aload_n (i := 0) dX0_lowerLeasts_39 rfl rfl ?_
        refine g_getP dX0_lowerLeasts_40 fl0_21 (by first | rfl | assumption) (by first | decide | (show _ < 62; omega)) (by first | rfl | assumption) ?_
        refine g_iload dX0_lowerLeasts_43 rfl ?_
        refine g_iload dX0_lowerLeasts_45 rfl ?_
        refine g_iadd dX0_lowerLeasts_47 ?_
        refine g_iaload dX0_lowerLeasts_48 rfl (by decide) ?_
        rw [h1 (lv * 30 + r) (by omega), (hls r r0 (by omega)).1]
        have hlr := hls r r0 (by omega)
        skip -- ?_
        refine g_aload_n (i := 1) dX0_lowerLeasts_49 rfl rfl ?_
        refine g_getP dX0_lowerLeasts_50 fl0_55 (by first | rfl | assumption) (by first | decide | (show _ < 62; omega)) (by first | rfl | assumption) ?_
        refine g_iload dX0_lowerLeasts_53 rfl ?_
        refine g_iload dX0_lowerLeasts_55 rfl ?_
        refine g_iadd dX0_lowerLeasts_57 ?_
        refine g_iaload dX0_lowerLeasts_58 rfl (by decide) ?_
        rw [ff 3 (by decide), t7 kd ch r d0 d1 (by omega) (by omega) r0 (by omega)]
        have hdb := hT0.bd (kd := kd) (show 0 ≤ ch by omega) (show ch < n by omega) r0 (show r < n by omega)
        skip -- ?_
        refine g_mmin dX0_lowerLeasts_59 mw0_58 ?_ (Nat.le_refl 0) (Nat.le_refl 0) rfl (Nat.le_of_ble_eq_true rfl)
        refine g_iastore dX0_lowerLeasts_62 (by first | rfl | assumption) (by first | decide | (show _ < 62; omega)) ?_
        refine g_iinc7 dX0_lowerLeasts_63 rfl ?_
        refine g_goto 18 dX0_lowerLeasts_66 (by decide) ?_
        exact ih18 _ _ (by omega) (by first | assumption | omega) (by first | assumption | omega) (fun k hk => by rw [qu_ne hk]; exact ff k hk) (fun x hx => by rw [qu_off (by omega)]; exact h1 x hx) (fun x q0 q1 => by
        by_cases h : x = r
        · subst h; rw [qu_eq]
        · rw [qu_off (by omega)]; exact h2 x q0 (by omega))
  exact L18 _ _ _ (Nat.lt_succ_self _) (by first | assumption | omega) (by first | assumption | omega) (fun k _ => rfl) (fun x _ => rfl) (fun x q0 q1 => by omega)
set_option maxHeartbeats 4000000 in
set_option maxRecDepth 100000 in
theorem k_X0_weighTrial (c : qC) (n wd kd : Int) (N : Int → Int → Int) (hT : Tb c n wd N) (d0 : 0 ≤ kd) (d1 : kd < 3) (lv ch k : Int) (f : Int → Int) (l0 : 0 ≤ lv ∧ lv ≤ 2) (c0 : 0 ≤ ch) (c1 : ch < n) (k0 : 1 ≤ k ∧ k ≤ 3) (hk : c 18 4 = k) (hbt : 0 ≤ c 18 5 ∧ c 18 5 ≤ 2000000000) (hls : ∀ r, 0 ≤ r → r < n → mn (c 22 (lv * 30 + r)) (ds wd N kd ch r) = f r ∧ (0 ≤ f r ∧ f r ≤ 16000000) ∧ 0 ≤ c 22 (lv * 30 + r) ∧ c 22 (lv * 30 + r) ≤ 2000000000) : qN X0_weighTrial 1 [qP 18, qP 1, qI kd, qI lv, qI ch] c (pV (fun c' => (∀ q, q ≠ 18 → q ≠ 20 → c' q = c q) ∧ c' 18 4 = k ∧ ((sI f n < c 18 5 ∧ c' 18 5 = sI f n ∧ ∀ i, 0 ≤ i → i < k → c' 20 i = c 21 i) ∨ (c 18 5 ≤ sI f n ∧ c' = c)))) := by
  have hT0 := hT
  obtain ⟨t1, t2, t3, t4, t5, t6, t7⟩ := hT
  refine qN.of [some (qP 18), some (qP 1), some (qI kd), some (qI lv), some (qI ch), none, none, none, none] (by decide) rfl (fun _ => rfl) (fun _ => Nat.le_of_ble_eq_true rfl) ?_
  refine g_aload_n (i := 1) dX0_weighTrial_0 rfl rfl ?_
  refine g_iload_n (i := 2) dX0_weighTrial_1 rfl rfl ?_
  refine g_iload dX0_weighTrial_2 rfl ?_
  refine n_callVi (k_X6_placeOf _ _ _) dX0_weighTrial_4 lk0_51 im_X6_placeOf (by first | rfl | assumption) (by first | decide | (show _ < 62; omega)) rfl rfl rfl rfl (Nat.le_of_ble_eq_true rfl) (fun z c' hz => ?_)
  obtain ⟨rfl, hz2⟩ := hz
  have hz2 := hz2.symm
  subst hz2
  refine g_istore5 dX0_weighTrial_7 rfl ?_
  have J73 : ∀ (a : Int), ((a = sI f n ∧ 0 ≤ a ∧ a ≤ 480000000) ∨ (c 18 5 ≤ a ∧ c 18 5 ≤ sI f n ∧ a ≤ 480000000)) → qG (qYn X0_weighTrial 1 (pV (fun c' => (∀ q, q ≠ 18 → q ≠ 20 → c' q = c q) ∧ c' 18 4 = k ∧ ((sI f n < c 18 5 ∧ c' 18 5 = sI f n ∧ ∀ i, 0 ≤ i → i < k → c' 20 i = c 21 i) ∨ (c 18 5 ≤ sI f n ∧ c' = c))))) wN 73 [some (qP 18), some (qP 1), some (qI kd), some (qI lv), some (qI ch), none, none, some (qI a), none] [] c := by
    intro a ha
    refine g_iload dX0_weighTrial_73 rfl ?_
    refine g_aload_n (i := 0) dX0_weighTrial_75 rfl rfl ?_
    refine g_getI (ji := 5) dX0_weighTrial_76 fl0_28 (by first | rfl | assumption) (by first | decide | (show _ < 62; omega)) (by first | rfl | assumption) (by decide) rfl (by first | assumption | rfl) ?_
    refine g_icmp_ge 120 dX0_weighTrial_79 (by decide) (fun b79 => ?_) (fun b79 => ?_)
    · skip
      exact n_retv dX0_weighTrial_120 rfl (by
        first
          | exact ⟨fun q h1 h2 => by rw [ff q h2, qu_ne h1], e1, Or.inl ⟨by omega, by rw [ff 18 (by decide), qu_eq]; omega, fun x q0 q1 => hb x q0 (by omega)⟩⟩
          | exact ⟨fun q h1 h2 => rfl, hk, Or.inr ⟨by omega, rfl⟩⟩)
    · skip
      refine g_aload_n (i := 0) dX0_weighTrial_82 rfl rfl ?_
      refine g_iload dX0_weighTrial_83 rfl ?_
      refine g_putI 5 dX0_weighTrial_85 fl0_28 fw0_5 (by first | rfl | assumption) (by first | decide | (show _ < 62; omega)) (by first | rfl | assumption) (by decide) rfl ?_
      refine g_iconst dX0_weighTrial_88 ?_
      refine g_istore8 dX0_weighTrial_89 rfl ?_
      have L91 : ∀ (fu91 : Nat) (i : Int) (c1 : qC), (k - i).toNat < fu91 → (0 ≤ i) → (i ≤ k) → (∀ q, q ≠ 20 → c1 q = qu c 18 5 a q) → (∀ x, 0 ≤ x → x < i → c1 20 x = c 21 x) → qG (qYn X0_weighTrial 1 (pV (fun c' => (∀ q, q ≠ 18 → q ≠ 20 → c' q = c q) ∧ c' 18 4 = k ∧ ((sI f n < c 18 5 ∧ c' 18 5 = sI f n ∧ ∀ i, 0 ≤ i → i < k → c' 20 i = c 21 i) ∨ (c 18 5 ≤ sI f n ∧ c' = c))))) wN 91 [some (qP 18), some (qP 1), some (qI kd), some (qI lv), some (qI ch), none, none, none, some (qI i)] [] c1 := by
        intro fu91
        induction fu91 with
        | zero => intro i c1 hm; exact absurd hm (Nat.not_lt_zero _)
        | succ fu91 ih91 =>
          intro i c1 hm91 i0 i1 ff hb
          have e1 : c1 18 4 = k := by rw [ff 18 (by decide), qu_off (by decide)]; exact hk
          refine g_iload dX0_weighTrial_91 rfl ?_
          refine g_aload_n (i := 0) dX0_weighTrial_93 rfl rfl ?_
          refine g_getI (ji := 4) dX0_weighTrial_94 fl0_24 (by first | rfl | assumption) (by first | decide | (show _ < 62; omega)) (by first | rfl | assumption) (by decide) rfl (by first | assumption | rfl) ?_
          refine g_icmp_ge 120 dX0_weighTrial_97 (by decide) (fun b97 => ?_) (fun b97 => ?_)
          · skip
            exact n_retv dX0_weighTrial_120 rfl (by
        first
          | exact ⟨fun q h1 h2 => by rw [ff q h2, qu_ne h1], e1, Or.inl ⟨by omega, by rw [ff 18 (by decide), qu_eq]; omega, fun x q0 q1 => hb x q0 (by omega)⟩⟩
          | exact ⟨fun q h1 h2 => rfl, hk, Or.inr ⟨by omega, rfl⟩⟩)
          · skip
            refine g_aload_n (i := 0) dX0_weighTrial_100 rfl rfl ?_
            refine g_getP dX0_weighTrial_101 fl0_15 (by first | rfl | assumption) (by first | decide | (show _ < 62; omega)) (by first | rfl | assumption) ?_
            refine g_iload dX0_weighTrial_104 rfl ?_
            refine g_aload_n (i := 0) dX0_weighTrial_106 rfl rfl ?_
            refine g_getP dX0_weighTrial_107 fl0_18 (by first | rfl | assumption) (by first | decide | (show _ < 62; omega)) (by first | rfl | assumption) ?_
            refine g_iload dX0_weighTrial_110 rfl ?_
            refine g_iaload dX0_weighTrial_112 (by first | rfl | assumption) (by first | decide | (show _ < 62; omega)) ?_
            refine g_iastore dX0_weighTrial_113 (by first | rfl | assumption) (by first | decide | (show _ < 62; omega)) ?_
            refine g_iinc8 dX0_weighTrial_114 rfl ?_
            refine g_goto 91 dX0_weighTrial_117 (by decide) ?_
            exact ih91 _ _ (by omega) (by first | assumption | omega) (by first | assumption | omega) (fun q hq => by rw [qu_ne hq]; exact ff q hq) (fun x q0 q1 => by
        rw [qu_at]; split
        · rename_i h; rw [h, ff 21 (by decide)]; rfl
        · exact hb x q0 (by omega))
      refine g_fg7 ?_
      exact L91 _ _ _ (Nat.lt_succ_self _) (by first | assumption | omega) (by first | assumption | omega) (fun q _ => rfl) (fun x q0 q1 => by omega)
  refine g_iload_n (i := 3) dX0_weighTrial_9 rfl rfl ?_
  refine g_bipush dX0_weighTrial_10 (by decide) ?_
  refine g_imul dX0_weighTrial_12 ?_
  refine g_istore6 dX0_weighTrial_13 rfl ?_
  refine g_iconst dX0_weighTrial_15 ?_
  refine g_istore7 dX0_weighTrial_16 rfl ?_
  refine g_iconst dX0_weighTrial_18 ?_
  refine g_istore8 dX0_weighTrial_19 rfl ?_
  have L21 : ∀ (fu21 : Nat) (a r : Int), (n - r).toNat < fu21 → (0 ≤ r) → (r ≤ n) → (a = sI f r) → qG (qYn X0_weighTrial 1 (pV (fun c' => (∀ q, q ≠ 18 → q ≠ 20 → c' q = c q) ∧ c' 18 4 = k ∧ ((sI f n < c 18 5 ∧ c' 18 5 = sI f n ∧ ∀ i, 0 ≤ i → i < k → c' 20 i = c 21 i) ∨ (c 18 5 ≤ sI f n ∧ c' = c))))) wN 21 [some (qP 18), some (qP 1), some (qI kd), some (qI lv), some (qI ch), some (qI ((kd * 30 + ch) * 30)), some (qI (lv * 30)), some (qI a), some (qI r)] [] c := by
    intro fu21
    induction fu21 with
    | zero => intro a r hm; exact absurd hm (Nat.not_lt_zero _)
    | succ fu21 ih21 =>
      intro a r hm21 r0 r1 ha
      have hab := sI_bd (f := f) (lo := 0) (hi := 16000000) r0 (fun x q0 q1 => (hls x q0 (by omega)).2.1)
      have hup := sI_up (f := f) (n := n) (fun x q0 q1 => (hls x q0 q1).2.1.1) (n - r).toNat r r0 (by omega)
      refine g_iload dX0_weighTrial_21 rfl ?_
      refine g_aload_n (i := 1) dX0_weighTrial_23 rfl rfl ?_
      refine g_getI (ji := 3) dX0_weighTrial_24 fl0_32 (by first | rfl | assumption) (by first | decide | (show _ < 62; omega)) (by first | rfl | assumption) (by decide) rfl (by first | assumption | rfl) ?_
      refine g_icmp_ge 73 dX0_weighTrial_27 (by decide) (fun b27 => ?_) (fun b27 => ?_)
      · skip
        refine g_fg5 ?_
        refine g_fg6 ?_
        refine g_fg8 ?_
        exact J73 _ (by first | exact Or.inl ⟨by rw [ha, show r = n by omega], by omega, by omega⟩ | exact Or.inr ⟨by omega, by omega, by omega⟩)
      · skip
        refine g_iload dX0_weighTrial_30 rfl ?_
        refine g_aload_n (i := 0) dX0_weighTrial_32 rfl rfl ?_
        refine g_getI (ji := 5) dX0_weighTrial_33 fl0_28 (by first | rfl | assumption) (by first | decide | (show _ < 62; omega)) (by first | rfl | assumption) (by decide) rfl (by first | assumption | rfl) ?_
        refine g_icmp_ge 73 dX0_weighTrial_36 (by decide) (fun b36 => ?_) (fun b36 => ?_)
        · skip
          refine g_fg5 ?_
          refine g_fg6 ?_
          refine g_fg8 ?_
          exact J73 _ (by first | exact Or.inl ⟨by rw [ha, show r = n by omega], by omega, by omega⟩ | exact Or.inr ⟨by omega, by omega, by omega⟩)
        · skip
          have hlr := hls r r0 (by omega)
          refine g_iload dX0_weighTrial_39 rfl ?_
          refine g_aload_n (i := 0) dX0_weighTrial_41 rfl rfl ?_
          refine g_getP dX0_weighTrial_42 fl0_21 (by first | rfl | assumption) (by first | decide | (show _ < 62; omega)) (by first | rfl | assumption) ?_
          refine g_iload dX0_weighTrial_45 rfl ?_
          refine g_iload dX0_weighTrial_47 rfl ?_
          refine g_iadd dX0_weighTrial_49 ?_
          refine g_iaload dX0_weighTrial_50 (by first | rfl | assumption) (by first | decide | (show _ < 62; omega)) ?_
          refine g_aload_n (i := 1) dX0_weighTrial_51 rfl rfl ?_
          refine g_getP dX0_weighTrial_52 fl0_55 (by first | rfl | assumption) (by first | decide | (show _ < 62; omega)) (by first | rfl | assumption) ?_
          refine g_iload dX0_weighTrial_55 rfl ?_
          refine g_iload dX0_weighTrial_57 rfl ?_
          refine g_iadd dX0_weighTrial_59 ?_
          refine g_iaload dX0_weighTrial_60 rfl (by decide) ?_
          rw [t7 kd ch r d0 d1 (by omega) (by omega) r0 (by omega)]
          have hdb := hT0.bd (kd := kd) (show 0 ≤ ch by omega) (show ch < n by omega) r0 (show r < n by omega)
          skip -- ?_
          refine g_mmin dX0_weighTrial_61 mw0_58 ?_ (Nat.le_refl 0) (Nat.le_refl 0) rfl (Nat.le_of_ble_eq_true rfl)
          refine g_iadd dX0_weighTrial_64 ?_
          refine g_istore7 dX0_weighTrial_65 rfl ?_
          refine g_iinc8 dX0_weighTrial_67 rfl ?_
          refine g_goto 21 dX0_weighTrial_70 (by decide) ?_
          exact ih21 _ _ (by omega) (by first | assumption | omega) (by first | assumption | omega) (by rw [sI_s r0, ha, hlr.1])
  exact L21 _ _ _ (Nat.lt_succ_self _) (by first | assumption | omega) (by first | assumption | omega) rfl
set_option maxHeartbeats 4000000 in
set_option maxRecDepth 100000 in
theorem k_X0_tryRows_2 (c : qC) (n wd kd : Int) (N : Int → Int → Int) (hT : Tb c n wd N) (d0 : 0 ≤ kd) (d1 : kd < 3) (u0 u1 : Int) (k fr : Int) (k0 : 2 < k ∧ k ≤ 3) (hk : c 18 4 = k) (ht : ((c 21 0 = u0 ∧ c 21 1 = u1) ∧ 0 ≤ u0 ∧ u0 < u1 ∧ u1 < n)) (hfr : fr = u1 + 1) (hl : ∀ r, 0 ≤ r → r < n → c 22 (2 * 30 + r) = mn ((ds wd N kd) u0 r) ((ds wd N kd) u1 r)) (hB : BC c (ds wd N kd) n k (900 * u0 + 30 * u1 + (fr))) : qN X0_tryRows 2 [qP 18, qP 1, qI kd, qI 2, qI fr] c (pV (fun c' => (∀ q, q ≠ 18 → q ≠ 20 → q ≠ 21 → q ≠ 22 → c' q = c q) ∧ c' 18 4 = k ∧ (∀ i, i < 2 → c' 21 i = c 21 i) ∧ (∀ x, x < 2 * 30 + 30 → c' 22 x = c 22 x) ∧ BC c' (ds wd N kd) n k (900 * u0 + 30 * u1 + (n)))) := by
  have hT0 := hT
  obtain ⟨t1, t2, t3, t4, t5, t6, t7⟩ := hT
  have hD : Db (ds wd N kd) n := fun i j i0 i1 j0 j1 => hT0.bd (kd := kd) i0 i1 j0 j1
  refine qN.of [some (qP 18), some (qP 1), some (qI kd), some (qI 2), some (qI fr), none] (by decide) rfl (fun _ => rfl) (fun _ => Nat.le_of_ble_eq_true rfl) ?_
  refine g_iload_n (i := 3) dX0_tryRows_0 rfl rfl ?_
  refine g_aload_n (i := 0) dX0_tryRows_1 rfl rfl ?_
  refine g_getI (ji := 4) dX0_tryRows_2 fl0_24 (by first | rfl | assumption) (by first | decide | (show _ < 62; omega)) (by first | rfl | assumption) (by decide) rfl (by first | assumption | rfl) ?_
  refine g_icmp_lt 9 dX0_tryRows_5 (by decide) (fun b5 => ?_) (fun b5 => ?_)
  · skip
    refine g_iload dX0_tryRows_9 rfl ?_
    refine g_istore5 dX0_tryRows_11 rfl ?_
    have L13 : ∀ (fu13 : Nat) (ch : Int) (c1 : qC), (n - ch).toNat < fu13 → (fr ≤ ch) → (ch ≤ n) → (∀ q, q ≠ 18 → q ≠ 20 → q ≠ 21 → q ≠ 22 → c1 q = c q) → (c1 18 4 = k) → (∀ i, i < 2 → c1 21 i = c 21 i) → (((c1 21 0 = u0 ∧ c1 21 1 = u1) ∧ 0 ≤ u0 ∧ u0 < u1 ∧ u1 < n)) → (∀ x, x < 2 * 30 + 30 → c1 22 x = c 22 x) → (BC c1 (ds wd N kd) n k (900 * u0 + 30 * u1 + (ch))) → qG (qYn X0_tryRows 2 (pV (fun c' => (∀ q, q ≠ 18 → q ≠ 20 → q ≠ 21 → q ≠ 22 → c' q = c q) ∧ c' 18 4 = k ∧ (∀ i, i < 2 → c' 21 i = c 21 i) ∧ (∀ x, x < 2 * 30 + 30 → c' 22 x = c 22 x) ∧ BC c' (ds wd N kd) n k (900 * u0 + 30 * u1 + (n))))) wN 13 [some (qP 18), some (qP 1), some (qI kd), some (qI 2), some (qI fr), some (qI ch)] [] c1 := by
      intro fu13
      induction fu13 with
      | zero => intro ch c1 hm; exact absurd hm (Nat.not_lt_zero _)
      | succ fu13 ih13 =>
        intro ch c1 hm13 q0 q1 ff h4 h21 htr hls hBL
        have e1 : c1 1 3 = n := by rw [ff 1 (by decide) (by decide) (by decide) (by decide)]; exact t1
        refine g_iload dX0_tryRows_13 rfl ?_
        refine g_aload_n (i := 1) dX0_tryRows_15 rfl rfl ?_
        refine g_getI (ji := 3) dX0_tryRows_16 fl0_32 (by first | rfl | assumption) (by first | decide | (show _ < 62; omega)) (by first | rfl | assumption) (by decide) rfl (by first | assumption | rfl) ?_
        refine g_icmp_ge 80 dX0_tryRows_19 (by decide) (fun b19 => ?_) (fun b19 => ?_)
        · skip
          exact n_retv dX0_tryRows_80 rfl (⟨ff, h4, h21, hls, by
        have hcn : ch = n := by omega
        rw [hcn] at hBL
        exact hBL⟩)
        · skip
          have hT1 : Tb c1 n wd N := hT0.fr (ff 1 (by decide) (by decide) (by decide) (by decide)) (ff 2 (by decide) (by decide) (by decide) (by decide)) (ff 3 (by decide) (by decide) (by decide) (by decide))
          have hT2 : Tb (qu c1 21 2 ch) n wd N := hT1.fr (qu_ne (by decide)) (qu_ne (by decide)) (qu_ne (by decide))
          have hbb := hBL.b hD t3 (by omega)
          have hlow : ∀ r, 0 ≤ r → r < n → c1 22 (2 * 30 + r) = mn ((ds wd N kd) u0 r) ((ds wd N kd) u1 r) := fun r q0 q1 => by rw [hls _ (by omega)]; exact hl r q0 q1
          refine g_aload_n (i := 0) dX0_tryRows_22 rfl rfl ?_
          refine g_getP dX0_tryRows_23 fl0_18 (by first | rfl | assumption) (by first | decide | (show _ < 62; omega)) (by first | rfl | assumption) ?_
          refine g_iload_n (i := 3) dX0_tryRows_26 rfl rfl ?_
          refine g_iload dX0_tryRows_27 rfl ?_
          refine g_iastore dX0_tryRows_29 rfl (by decide) ?_
          refine g_iload_n (i := 3) dX0_tryRows_30 rfl rfl ?_
          refine g_iconst dX0_tryRows_31 ?_
          refine g_iadd dX0_tryRows_32 ?_
          refine g_aload_n (i := 0) dX0_tryRows_33 rfl rfl ?_
          refine g_getI (ji := 4) dX0_tryRows_34 fl0_24 (by first | rfl | assumption) (by first | decide | (show _ < 62; omega)) (by first | rfl | assumption) (by decide) rfl (by first | assumption | rfl) ?_
          refine g_icmp_ge 65 dX0_tryRows_37 (by decide) (fun b37 => ?_) (fun b37 => ?_)
          · skip
            have hV : Vd k n u0 u1 ch := by unfold Vd; omega
            refine g_aload_n (i := 0) dX0_tryRows_65 rfl rfl ?_
            refine g_aload_n (i := 1) dX0_tryRows_66 rfl rfl ?_
            refine g_iload_n (i := 2) dX0_tryRows_67 rfl rfl ?_
            refine g_iload_n (i := 3) dX0_tryRows_68 rfl rfl ?_
            refine g_iload dX0_tryRows_69 rfl ?_
            refine n_callVv (k_X0_weighTrial _ n wd kd N hT2 d0 d1 _ _ k (nd (ds wd N kd) k u0 u1 ch) (by omega) (by omega) (by omega) (by omega) (by show c1 18 4 = k; exact h4) hbb (fun r q0 q1 => by
          have hlr := hlow r q0 q1
          have hb0 := nd_bd hD (show 1 ≤ k ∧ k ≤ 3 by omega) hV q0 q1
          refine ⟨?_, hb0, ?_⟩
          · show mn (c1 22 (2 * 30 + r)) _ = _
            rw [hlr]
            have hdr := hD ch r (by omega) (by omega) q0 q1
            unfold nd; rw [if_neg (by omega), if_neg (by omega)]
          · show 0 ≤ c1 22 (2 * 30 + r) ∧ c1 22 (2 * 30 + r) ≤ 2000000000
            rw [hlr]
            have := hD u0 r (by omega) (by omega) q0 q1; have := hD u1 r (by omega) (by omega) q0 q1; unfold mn; split <;> omega)) dX0_tryRows_71 lk0_48 im_X0_weighTrial (by first | rfl | assumption) (by first | decide | (show _ < 62; omega)) rfl rfl rfl rfl (Nat.le_of_ble_eq_true rfl) (fun c3 hz => ?_)
            obtain ⟨w0, h4N, hw⟩ := hz
            have hffN : ∀ q, q ≠ 18 → q ≠ 20 → q ≠ 21 → q ≠ 22 → c3 q = c q := fun q k1 k2 k3 k4 => by rw [w0 q k1 k2, qu_ne k3]; exact ff q k1 k2 k3 k4
            have h21N : ∀ i, i < 2 → c3 21 i = c1 21 i := fun i hi => by rw [w0 21 (by decide) (by decide), qu_off (by omega)]
            have hlsN : ∀ x, x < 2 * 30 + 30 → c3 22 x = c 22 x := fun x hx => by rw [w0 22 (by decide) (by decide), qu_ne (by decide)]; exact hls x hx
            have hBN : BC c3 (ds wd N kd) n k (900 * u0 + 30 * u1 + (ch + 1)) := by
              have hcod : 900 * u0 + 30 * u1 + ch + 1 ≤ (900 * u0 + 30 * u1 + (ch + 1)) := by omega
              refine BB.mv (u := 900 * u0 + 30 * u1 + ch + 1) ?_ hcod (fun x y z hx q => by have hx2 := hx.b t3.2; unfold Vd at hx; rcases Int.lt_trichotomy x u0 with e | e | e <;> first | omega | (rcases Int.lt_trichotomy y u1 with e2 | e2 | e2 <;> omega))
              rcases hw with ⟨w1, w2, w3⟩ | ⟨w1, w2⟩
              · skip
                have z0 : c3 20 0 = u0 := by rw [w3 0 (by omega) (by omega), qu_off (by decide)]; exact htr.1.1
                have z1 : c3 20 1 = u1 := by rw [w3 1 (by omega) (by omega), qu_off (by decide)]; exact htr.1.2
                have z2 : c3 20 2 = ch := by rw [w3 2 (by omega) (by omega)]; exact qu_eq _ _ _ _
                rw [if_neg (by omega), if_pos (by omega), w2, z0, z1, z2]
                exact BB.nw hBL t3 (by omega) hD (by omega) hV (fun x y z hx q => by have hx2 := hx.b t3.2; unfold Vd at hx; rcases Int.lt_trichotomy x u0 with e | e | e <;> first | omega | (rcases Int.lt_trichotomy y u1 with e2 | e2 | e2 <;> omega)) (Or.inr w1)
              · rw [w2]
                have w4 : c1 18 5 ≤ co (ds wd N kd) n k u0 u1 ch := w1
                have hcb := co_bd hD t3 (show 1 ≤ k ∧ k ≤ 3 by omega) hV
                exact BB.od hBL t3 (by omega) hV (by omega) (fun x y z hx q => by have hx2 := hx.b t3.2; unfold Vd at hx; rcases Int.lt_trichotomy x u0 with e | e | e <;> first | omega | (rcases Int.lt_trichotomy y u1 with e2 | e2 | e2 <;> omega)) (show ¬ c1 18 5 = 2000000000 by omega) w4
            refine g_iinc5 dX0_tryRows_74 rfl ?_
            refine g_goto 13 dX0_tryRows_77 (by decide) ?_
            exact ih13 _ _ (by omega) (by first | assumption | omega) (by first | assumption | omega) hffN h4N (fun i hi => by rw [h21N i hi]; exact h21 i hi) ⟨⟨by rw [h21N 0 (by decide)]; exact htr.1.1, by rw [h21N 1 (by decide)]; exact htr.1.2⟩, htr.2⟩ hlsN hBN
          · skip
            exfalso; omega
    exact L13 _ _ _ (Nat.lt_succ_self _) (by first | assumption | omega) (by omega) (fun q _ _ _ _ => rfl) hk (fun i _ => rfl) ht (fun x _ => rfl) hB
  · skip
    exact n_retv dX0_tryRows_8 rfl (absurd b5 (by omega))
set_option maxHeartbeats 4000000 in
set_option maxRecDepth 100000 in
theorem k_X0_tryRows_1 (c : qC) (n wd kd : Int) (N : Int → Int → Int) (hT : Tb c n wd N) (d0 : 0 ≤ kd) (d1 : kd < 3) (u0 : Int) (k fr : Int) (k0 : 1 < k ∧ k ≤ 3) (hk : c 18 4 = k) (ht : (c 21 0 = u0 ∧ 0 ≤ u0 ∧ u0 < n)) (hfr : fr = u0 + 1) (hl : ∀ r, 0 ≤ r → r < n → c 22 (1 * 30 + r) = (ds wd N kd) u0 r) (hB : BC c (ds wd N kd) n k (900 * u0 + 30 * (fr))) : qN X0_tryRows 3 [qP 18, qP 1, qI kd, qI 1, qI fr] c (pV (fun c' => (∀ q, q ≠ 18 → q ≠ 20 → q ≠ 21 → q ≠ 22 → c' q = c q) ∧ c' 18 4 = k ∧ (∀ i, i < 1 → c' 21 i = c 21 i) ∧ (∀ x, x < 1 * 30 + 30 → c' 22 x = c 22 x) ∧ BC c' (ds wd N kd) n k (900 * u0 + 30 * (n)))) := by
  have hT0 := hT
  obtain ⟨t1, t2, t3, t4, t5, t6, t7⟩ := hT
  have hD : Db (ds wd N kd) n := fun i j i0 i1 j0 j1 => hT0.bd (kd := kd) i0 i1 j0 j1
  refine qN.of [some (qP 18), some (qP 1), some (qI kd), some (qI 1), some (qI fr), none] (by decide) rfl (fun _ => rfl) (fun _ => Nat.le_of_ble_eq_true rfl) ?_
  refine g_iload_n (i := 3) dX0_tryRows_0 rfl rfl ?_
  refine g_aload_n (i := 0) dX0_tryRows_1 rfl rfl ?_
  refine g_getI (ji := 4) dX0_tryRows_2 fl0_24 (by first | rfl | assumption) (by first | decide | (show _ < 62; omega)) (by first | rfl | assumption) (by decide) rfl (by first | assumption | rfl) ?_
  refine g_icmp_lt 9 dX0_tryRows_5 (by decide) (fun b5 => ?_) (fun b5 => ?_)
  · skip
    refine g_iload dX0_tryRows_9 rfl ?_
    refine g_istore5 dX0_tryRows_11 rfl ?_
    have L13 : ∀ (fu13 : Nat) (ch : Int) (c1 : qC), (n - ch).toNat < fu13 → (fr ≤ ch) → (ch ≤ n) → (∀ q, q ≠ 18 → q ≠ 20 → q ≠ 21 → q ≠ 22 → c1 q = c q) → (c1 18 4 = k) → (∀ i, i < 1 → c1 21 i = c 21 i) → ((c1 21 0 = u0 ∧ 0 ≤ u0 ∧ u0 < n)) → (∀ x, x < 1 * 30 + 30 → c1 22 x = c 22 x) → (BC c1 (ds wd N kd) n k (900 * u0 + 30 * (ch))) → qG (qYn X0_tryRows 3 (pV (fun c' => (∀ q, q ≠ 18 → q ≠ 20 → q ≠ 21 → q ≠ 22 → c' q = c q) ∧ c' 18 4 = k ∧ (∀ i, i < 1 → c' 21 i = c 21 i) ∧ (∀ x, x < 1 * 30 + 30 → c' 22 x = c 22 x) ∧ BC c' (ds wd N kd) n k (900 * u0 + 30 * (n))))) wN 13 [some (qP 18), some (qP 1), some (qI kd), some (qI 1), some (qI fr), some (qI ch)] [] c1 := by
      intro fu13
      induction fu13 with
      | zero => intro ch c1 hm; exact absurd hm (Nat.not_lt_zero _)
      | succ fu13 ih13 =>
        intro ch c1 hm13 q0 q1 ff h4 h21 htr hls hBL
        have e1 : c1 1 3 = n := by rw [ff 1 (by decide) (by decide) (by decide) (by decide)]; exact t1
        refine g_iload dX0_tryRows_13 rfl ?_
        refine g_aload_n (i := 1) dX0_tryRows_15 rfl rfl ?_
        refine g_getI (ji := 3) dX0_tryRows_16 fl0_32 (by first | rfl | assumption) (by first | decide | (show _ < 62; omega)) (by first | rfl | assumption) (by decide) rfl (by first | assumption | rfl) ?_
        refine g_icmp_ge 80 dX0_tryRows_19 (by decide) (fun b19 => ?_) (fun b19 => ?_)
        · skip
          exact n_retv dX0_tryRows_80 rfl (⟨ff, h4, h21, hls, by
        have hcn : ch = n := by omega
        rw [hcn] at hBL
        exact hBL⟩)
        · skip
          have hT1 : Tb c1 n wd N := hT0.fr (ff 1 (by decide) (by decide) (by decide) (by decide)) (ff 2 (by decide) (by decide) (by decide) (by decide)) (ff 3 (by decide) (by decide) (by decide) (by decide))
          have hT2 : Tb (qu c1 21 1 ch) n wd N := hT1.fr (qu_ne (by decide)) (qu_ne (by decide)) (qu_ne (by decide))
          have hbb := hBL.b hD t3 (by omega)
          have hlow : ∀ r, 0 ≤ r → r < n → c1 22 (1 * 30 + r) = (ds wd N kd) u0 r := fun r q0 q1 => by rw [hls _ (by omega)]; exact hl r q0 q1
          refine g_aload_n (i := 0) dX0_tryRows_22 rfl rfl ?_
          refine g_getP dX0_tryRows_23 fl0_18 (by first | rfl | assumption) (by first | decide | (show _ < 62; omega)) (by first | rfl | assumption) ?_
          refine g_iload_n (i := 3) dX0_tryRows_26 rfl rfl ?_
          refine g_iload dX0_tryRows_27 rfl ?_
          refine g_iastore dX0_tryRows_29 rfl (by decide) ?_
          refine g_iload_n (i := 3) dX0_tryRows_30 rfl rfl ?_
          refine g_iconst dX0_tryRows_31 ?_
          refine g_iadd dX0_tryRows_32 ?_
          refine g_aload_n (i := 0) dX0_tryRows_33 rfl rfl ?_
          refine g_getI (ji := 4) dX0_tryRows_34 fl0_24 (by first | rfl | assumption) (by first | decide | (show _ < 62; omega)) (by first | rfl | assumption) (by decide) rfl (by first | assumption | rfl) ?_
          refine g_icmp_ge 65 dX0_tryRows_37 (by decide) (fun b37 => ?_) (fun b37 => ?_)
          · skip
            have hV : Vd k n u0 ch (n - 1) := by unfold Vd; omega
            refine g_aload_n (i := 0) dX0_tryRows_65 rfl rfl ?_
            refine g_aload_n (i := 1) dX0_tryRows_66 rfl rfl ?_
            refine g_iload_n (i := 2) dX0_tryRows_67 rfl rfl ?_
            refine g_iload_n (i := 3) dX0_tryRows_68 rfl rfl ?_
            refine g_iload dX0_tryRows_69 rfl ?_
            refine n_callVv (k_X0_weighTrial _ n wd kd N hT2 d0 d1 _ _ k (nd (ds wd N kd) k u0 ch (n - 1)) (by omega) (by omega) (by omega) (by omega) (by show c1 18 4 = k; exact h4) hbb (fun r q0 q1 => by
          have hlr := hlow r q0 q1
          have hb0 := nd_bd hD (show 1 ≤ k ∧ k ≤ 3 by omega) hV q0 q1
          refine ⟨?_, hb0, ?_⟩
          · show mn (c1 22 (1 * 30 + r)) _ = _
            rw [hlr]
            have hdr := hD ch r (by omega) (by omega) q0 q1
            unfold nd; rw [if_neg (by omega), if_pos (by omega)]
          · show 0 ≤ c1 22 (1 * 30 + r) ∧ c1 22 (1 * 30 + r) ≤ 2000000000
            rw [hlr]
            have := hD u0 r (by omega) (by omega) q0 q1; omega)) dX0_tryRows_71 lk0_48 im_X0_weighTrial (by first | rfl | assumption) (by first | decide | (show _ < 62; omega)) rfl rfl rfl rfl (Nat.le_of_ble_eq_true rfl) (fun c3 hz => ?_)
            obtain ⟨w0, h4N, hw⟩ := hz
            have hffN : ∀ q, q ≠ 18 → q ≠ 20 → q ≠ 21 → q ≠ 22 → c3 q = c q := fun q k1 k2 k3 k4 => by rw [w0 q k1 k2, qu_ne k3]; exact ff q k1 k2 k3 k4
            have h21N : ∀ i, i < 1 → c3 21 i = c1 21 i := fun i hi => by rw [w0 21 (by decide) (by decide), qu_off (by omega)]
            have hlsN : ∀ x, x < 1 * 30 + 30 → c3 22 x = c 22 x := fun x hx => by rw [w0 22 (by decide) (by decide), qu_ne (by decide)]; exact hls x hx
            have hBN : BC c3 (ds wd N kd) n k (900 * u0 + 30 * (ch + 1)) := by
              have hcod : 900 * u0 + 30 * ch + (n - 1) + 1 ≤ (900 * u0 + 30 * (ch + 1)) := by omega
              refine BB.mv (u := 900 * u0 + 30 * ch + (n - 1) + 1) ?_ hcod (fun x y z hx q => by have hx2 := hx.b t3.2; unfold Vd at hx; rcases Int.lt_trichotomy x u0 with e | e | e <;> first | omega | (rcases Int.lt_trichotomy y ch with e2 | e2 | e2 <;> omega))
              rcases hw with ⟨w1, w2, w3⟩ | ⟨w1, w2⟩
              · skip
                have z0 : c3 20 0 = u0 := by rw [w3 0 (by omega) (by omega), qu_off (by decide)]; exact htr.1
                have z1 : c3 20 1 = ch := by rw [w3 1 (by omega) (by omega)]; exact qu_eq _ _ _ _
                rw [if_neg (by omega), if_neg (by omega), w2, z0, z1]
                exact BB.nw hBL t3 (by omega) hD (by omega) hV (fun x y z hx q => by have hx2 := hx.b t3.2; unfold Vd at hx; rcases Int.lt_trichotomy x u0 with e | e | e <;> first | omega | (rcases Int.lt_trichotomy y ch with e2 | e2 | e2 <;> omega)) (Or.inr w1)
              · rw [w2]
                have w4 : c1 18 5 ≤ co (ds wd N kd) n k u0 ch (n - 1) := w1
                have hcb := co_bd hD t3 (show 1 ≤ k ∧ k ≤ 3 by omega) hV
                exact BB.od hBL t3 (by omega) hV (by omega) (fun x y z hx q => by have hx2 := hx.b t3.2; unfold Vd at hx; rcases Int.lt_trichotomy x u0 with e | e | e <;> first | omega | (rcases Int.lt_trichotomy y ch with e2 | e2 | e2 <;> omega)) (show ¬ c1 18 5 = 2000000000 by omega) w4
            refine g_iinc5 dX0_tryRows_74 rfl ?_
            refine g_goto 13 dX0_tryRows_77 (by decide) ?_
            exact ih13 _ _ (by omega) (by first | assumption | omega) (by first | assumption | omega) hffN h4N (fun i hi => by rw [h21N i hi]; exact h21 i hi) ⟨by rw [h21N 0 (by decide)]; exact htr.1, htr.2⟩ hlsN hBN
          · skip
            refine g_aload_n (i := 0) dX0_tryRows_40 rfl rfl ?_
            refine g_aload_n (i := 1) dX0_tryRows_41 rfl rfl ?_
            refine g_iload_n (i := 2) dX0_tryRows_42 rfl rfl ?_
            refine g_iload_n (i := 3) dX0_tryRows_43 rfl rfl ?_
            refine g_iload dX0_tryRows_44 rfl ?_
            refine n_callVv (k_X0_lowerLeasts _ n wd kd N hT2 d0 d1 _ _ (by omega) (by omega) (by omega) (fun r => (ds wd N kd) u0 r) (fun r q0 q1 => ⟨hlow r q0 q1, by have := hD u0 r (by omega) (by omega) q0 q1; omega⟩)) dX0_tryRows_46 lk0_45 im_X0_lowerLeasts (by first | rfl | assumption) (by first | decide | (show _ < 62; omega)) rfl rfl rfl rfl (Nat.le_of_ble_eq_true rfl) (fun c2 hz => ?_)
            obtain ⟨v0, v1, v2⟩ := hz
            have hT3 : Tb c2 n wd N := hT2.fr (v0 1 (by decide)) (v0 2 (by decide)) (v0 3 (by decide))
            have hB2 : BC c2 (ds wd N kd) n k (900 * u0 + 30 * ch + (ch + 1)) := by
              have h5 : BC c2 (ds wd N kd) n k (900 * u0 + 30 * (ch)) := by
                unfold BC
                rw [v0 18 (by decide), v0 20 (by decide)]
                exact hBL
              exact BB.mv h5 (by omega) (fun x y z hx q => by have hx2 := hx.b t3.2; unfold Vd at hx; rcases Int.lt_trichotomy x u0 with e | e | e <;> first | omega | (rcases Int.lt_trichotomy y ch with e2 | e2 | e2 <;> omega))
            refine g_aload_n (i := 0) dX0_tryRows_49 rfl rfl ?_
            refine g_aload_n (i := 1) dX0_tryRows_50 rfl rfl ?_
            refine g_iload_n (i := 2) dX0_tryRows_51 rfl rfl ?_
            refine g_iload_n (i := 3) dX0_tryRows_52 rfl rfl ?_
            refine g_iconst dX0_tryRows_53 ?_
            refine g_iadd dX0_tryRows_54 ?_
            refine g_iload dX0_tryRows_55 rfl ?_
            refine g_iconst dX0_tryRows_57 ?_
            refine g_iadd dX0_tryRows_58 ?_
            refine n_callVv (k_X0_tryRows_2 _ n wd kd N hT3 d0 d1 u0 ch k _ (by omega) (by rw [v0 18 (by decide)]; exact h4) ⟨⟨by rw [v0 21 (by decide), qu_off (by decide)]; exact htr.1, by rw [v0 21 (by decide)]; exact qu_eq _ _ _ _⟩, by omega, by omega, by omega⟩ rfl (fun r q0 q1 => by
          have hv := v2 r q0 q1
          rw [show (2 : Int) * 30 + r = 1 * 30 + 30 + r by omega, hv]) hB2) dX0_tryRows_59 lk0_37 im_X0_tryRows (by first | rfl | assumption) (by first | decide | (show _ < 62; omega)) rfl rfl rfl rfl (Nat.le_of_ble_eq_true rfl) (fun c3 hz => ?_)
            obtain ⟨w0, h4N, w21, w22, wB⟩ := hz
            have hffN : ∀ q, q ≠ 18 → q ≠ 20 → q ≠ 21 → q ≠ 22 → c3 q = c q := fun q k1 k2 k3 k4 => by rw [w0 q k1 k2 k3 k4, v0 q k4, qu_ne k3]; exact ff q k1 k2 k3 k4
            have h21N : ∀ i, i < 1 → c3 21 i = c1 21 i := fun i hi => by rw [w21 i (by omega), v0 21 (by decide), qu_off (by omega)]
            have hlsN : ∀ x, x < 1 * 30 + 30 → c3 22 x = c 22 x := fun x hx => by rw [w22 x (by omega), v1 x hx, qu_ne (by decide)]; exact hls x hx
            have hBN : BC c3 (ds wd N kd) n k (900 * u0 + 30 * (ch + 1)) := BB.mv wB (by omega) (fun x y z hx q => by have hx2 := hx.b t3.2; unfold Vd at hx; rcases Int.lt_trichotomy x u0 with e | e | e <;> first | omega | (rcases Int.lt_trichotomy y ch with e2 | e2 | e2 <;> omega))
            refine g_goto 74 dX0_tryRows_62 (by decide) ?_
            refine g_iinc5 dX0_tryRows_74 rfl ?_
            refine g_goto 13 dX0_tryRows_77 (by decide) ?_
            exact ih13 _ _ (by omega) (by first | assumption | omega) (by first | assumption | omega) hffN h4N (fun i hi => by rw [h21N i hi]; exact h21 i hi) ⟨by rw [h21N 0 (by decide)]; exact htr.1, htr.2⟩ hlsN hBN
    exact L13 _ _ _ (Nat.lt_succ_self _) (by first | assumption | omega) (by omega) (fun q _ _ _ _ => rfl) hk (fun i _ => rfl) ht (fun x _ => rfl) hB
  · skip
    exact n_retv dX0_tryRows_8 rfl (absurd b5 (by omega))
set_option maxHeartbeats 4000000 in
set_option maxRecDepth 100000 in
theorem k_X0_tryRows_0 (c : qC) (n wd kd : Int) (N : Int → Int → Int) (hT : Tb c n wd N) (d0 : 0 ≤ kd) (d1 : kd < 3) (k fr : Int) (k0 : 0 < k ∧ k ≤ 3) (hk : c 18 4 = k) (ht : True) (hfr : fr = 0) (hl : ∀ r, 0 ≤ r → r < n → c 22 (0 * 30 + r) = 2000000000) (hB : BC c (ds wd N kd) n k (900 * (fr))) : qN X0_tryRows 4 [qP 18, qP 1, qI kd, qI 0, qI fr] c (pV (fun c' => (∀ q, q ≠ 18 → q ≠ 20 → q ≠ 21 → q ≠ 22 → c' q = c q) ∧ c' 18 4 = k ∧ (∀ i, i < 0 → c' 21 i = c 21 i) ∧ (∀ x, x < 0 * 30 + 30 → c' 22 x = c 22 x) ∧ BC c' (ds wd N kd) n k (900 * (n)))) := by
  have hT0 := hT
  obtain ⟨t1, t2, t3, t4, t5, t6, t7⟩ := hT
  have hD : Db (ds wd N kd) n := fun i j i0 i1 j0 j1 => hT0.bd (kd := kd) i0 i1 j0 j1
  refine qN.of [some (qP 18), some (qP 1), some (qI kd), some (qI 0), some (qI fr), none] (by decide) rfl (fun _ => rfl) (fun _ => Nat.le_of_ble_eq_true rfl) ?_
  refine g_iload_n (i := 3) dX0_tryRows_0 rfl rfl ?_
  refine g_aload_n (i := 0) dX0_tryRows_1 rfl rfl ?_
  refine g_getI (ji := 4) dX0_tryRows_2 fl0_24 (by first | rfl | assumption) (by first | decide | (show _ < 62; omega)) (by first | rfl | assumption) (by decide) rfl (by first | assumption | rfl) ?_
  refine g_icmp_lt 9 dX0_tryRows_5 (by decide) (fun b5 => ?_) (fun b5 => ?_)
  · skip
    refine g_iload dX0_tryRows_9 rfl ?_
    refine g_istore5 dX0_tryRows_11 rfl ?_
    have L13 : ∀ (fu13 : Nat) (ch : Int) (c1 : qC), (n - ch).toNat < fu13 → (fr ≤ ch) → (ch ≤ n) → (∀ q, q ≠ 18 → q ≠ 20 → q ≠ 21 → q ≠ 22 → c1 q = c q) → (c1 18 4 = k) → (∀ i, i < 0 → c1 21 i = c 21 i) → (True) → (∀ x, x < 0 * 30 + 30 → c1 22 x = c 22 x) → (BC c1 (ds wd N kd) n k (900 * (ch))) → qG (qYn X0_tryRows 4 (pV (fun c' => (∀ q, q ≠ 18 → q ≠ 20 → q ≠ 21 → q ≠ 22 → c' q = c q) ∧ c' 18 4 = k ∧ (∀ i, i < 0 → c' 21 i = c 21 i) ∧ (∀ x, x < 0 * 30 + 30 → c' 22 x = c 22 x) ∧ BC c' (ds wd N kd) n k (900 * (n))))) wN 13 [some (qP 18), some (qP 1), some (qI kd), some (qI 0), some (qI fr), some (qI ch)] [] c1 := by
      intro fu13
      induction fu13 with
      | zero => intro ch c1 hm; exact absurd hm (Nat.not_lt_zero _)
      | succ fu13 ih13 =>
        intro ch c1 hm13 q0 q1 ff h4 h21 htr hls hBL
        have e1 : c1 1 3 = n := by rw [ff 1 (by decide) (by decide) (by decide) (by decide)]; exact t1
        refine g_iload dX0_tryRows_13 rfl ?_
        refine g_aload_n (i := 1) dX0_tryRows_15 rfl rfl ?_
        refine g_getI (ji := 3) dX0_tryRows_16 fl0_32 (by first | rfl | assumption) (by first | decide | (show _ < 62; omega)) (by first | rfl | assumption) (by decide) rfl (by first | assumption | rfl) ?_
        refine g_icmp_ge 80 dX0_tryRows_19 (by decide) (fun b19 => ?_) (fun b19 => ?_)
        · skip
          exact n_retv dX0_tryRows_80 rfl (⟨ff, h4, h21, hls, by
        have hcn : ch = n := by omega
        rw [hcn] at hBL
        exact hBL⟩)
        · skip
          have hT1 : Tb c1 n wd N := hT0.fr (ff 1 (by decide) (by decide) (by decide) (by decide)) (ff 2 (by decide) (by decide) (by decide) (by decide)) (ff 3 (by decide) (by decide) (by decide) (by decide))
          have hT2 : Tb (qu c1 21 0 ch) n wd N := hT1.fr (qu_ne (by decide)) (qu_ne (by decide)) (qu_ne (by decide))
          have hbb := hBL.b hD t3 (by omega)
          have hlow : ∀ r, 0 ≤ r → r < n → c1 22 (0 * 30 + r) = 2000000000 := fun r q0 q1 => by rw [hls _ (by omega)]; exact hl r q0 q1
          refine g_aload_n (i := 0) dX0_tryRows_22 rfl rfl ?_
          refine g_getP dX0_tryRows_23 fl0_18 (by first | rfl | assumption) (by first | decide | (show _ < 62; omega)) (by first | rfl | assumption) ?_
          refine g_iload_n (i := 3) dX0_tryRows_26 rfl rfl ?_
          refine g_iload dX0_tryRows_27 rfl ?_
          refine g_iastore dX0_tryRows_29 rfl (by decide) ?_
          refine g_iload_n (i := 3) dX0_tryRows_30 rfl rfl ?_
          refine g_iconst dX0_tryRows_31 ?_
          refine g_iadd dX0_tryRows_32 ?_
          refine g_aload_n (i := 0) dX0_tryRows_33 rfl rfl ?_
          refine g_getI (ji := 4) dX0_tryRows_34 fl0_24 (by first | rfl | assumption) (by first | decide | (show _ < 62; omega)) (by first | rfl | assumption) (by decide) rfl (by first | assumption | rfl) ?_
          refine g_icmp_ge 65 dX0_tryRows_37 (by decide) (fun b37 => ?_) (fun b37 => ?_)
          · skip
            have hV : Vd k n ch (n - 1) (n - 1) := by unfold Vd; omega
            refine g_aload_n (i := 0) dX0_tryRows_65 rfl rfl ?_
            refine g_aload_n (i := 1) dX0_tryRows_66 rfl rfl ?_
            refine g_iload_n (i := 2) dX0_tryRows_67 rfl rfl ?_
            refine g_iload_n (i := 3) dX0_tryRows_68 rfl rfl ?_
            refine g_iload dX0_tryRows_69 rfl ?_
            refine n_callVv (k_X0_weighTrial _ n wd kd N hT2 d0 d1 _ _ k (nd (ds wd N kd) k ch (n - 1) (n - 1)) (by omega) (by omega) (by omega) (by omega) (by show c1 18 4 = k; exact h4) hbb (fun r q0 q1 => by
          have hlr := hlow r q0 q1
          have hb0 := nd_bd hD (show 1 ≤ k ∧ k ≤ 3 by omega) hV q0 q1
          refine ⟨?_, hb0, ?_⟩
          · show mn (c1 22 (0 * 30 + r)) _ = _
            rw [hlr]
            have hdr := hD ch r (by omega) (by omega) q0 q1
            unfold nd mn; rw [if_pos (by omega), if_pos (by omega)]
          · show 0 ≤ c1 22 (0 * 30 + r) ∧ c1 22 (0 * 30 + r) ≤ 2000000000
            rw [hlr]
            omega)) dX0_tryRows_71 lk0_48 im_X0_weighTrial (by first | rfl | assumption) (by first | decide | (show _ < 62; omega)) rfl rfl rfl rfl (Nat.le_of_ble_eq_true rfl) (fun c3 hz => ?_)
            obtain ⟨w0, h4N, hw⟩ := hz
            have hffN : ∀ q, q ≠ 18 → q ≠ 20 → q ≠ 21 → q ≠ 22 → c3 q = c q := fun q k1 k2 k3 k4 => by rw [w0 q k1 k2, qu_ne k3]; exact ff q k1 k2 k3 k4
            have h21N : ∀ i, i < 0 → c3 21 i = c1 21 i := fun i hi => by rw [w0 21 (by decide) (by decide), qu_off (by omega)]
            have hlsN : ∀ x, x < 0 * 30 + 30 → c3 22 x = c 22 x := fun x hx => by rw [w0 22 (by decide) (by decide), qu_ne (by decide)]; exact hls x hx
            have hBN : BC c3 (ds wd N kd) n k (900 * (ch + 1)) := by
              have hcod : 900 * ch + 30 * (n - 1) + (n - 1) + 1 ≤ (900 * (ch + 1)) := by omega
              refine BB.mv (u := 900 * ch + 30 * (n - 1) + (n - 1) + 1) ?_ hcod (fun x y z hx q => by have hx2 := hx.b t3.2; unfold Vd at hx; rcases Int.lt_trichotomy x ch with e | e | e <;> first | omega | (rcases Int.lt_trichotomy y 0 with e2 | e2 | e2 <;> omega))
              rcases hw with ⟨w1, w2, w3⟩ | ⟨w1, w2⟩
              · skip
                have z0 : c3 20 0 = ch := by rw [w3 0 (by omega) (by omega)]; exact qu_eq _ _ _ _
                rw [if_pos (by omega), if_neg (by omega), w2, z0]
                exact BB.nw hBL t3 (by omega) hD (by omega) hV (fun x y z hx q => by have hx2 := hx.b t3.2; unfold Vd at hx; rcases Int.lt_trichotomy x ch with e | e | e <;> first | omega | (rcases Int.lt_trichotomy y 0 with e2 | e2 | e2 <;> omega)) (Or.inr w1)
              · rw [w2]
                have w4 : c1 18 5 ≤ co (ds wd N kd) n k ch (n - 1) (n - 1) := w1
                have hcb := co_bd hD t3 (show 1 ≤ k ∧ k ≤ 3 by omega) hV
                exact BB.od hBL t3 (by omega) hV (by omega) (fun x y z hx q => by have hx2 := hx.b t3.2; unfold Vd at hx; rcases Int.lt_trichotomy x ch with e | e | e <;> first | omega | (rcases Int.lt_trichotomy y 0 with e2 | e2 | e2 <;> omega)) (show ¬ c1 18 5 = 2000000000 by omega) w4
            refine g_iinc5 dX0_tryRows_74 rfl ?_
            refine g_goto 13 dX0_tryRows_77 (by decide) ?_
            exact ih13 _ _ (by omega) (by first | assumption | omega) (by first | assumption | omega) hffN h4N (fun i hi => by rw [h21N i hi]; exact h21 i hi) trivial hlsN hBN
          · skip
            refine g_aload_n (i := 0) dX0_tryRows_40 rfl rfl ?_
            refine g_aload_n (i := 1) dX0_tryRows_41 rfl rfl ?_
            refine g_iload_n (i := 2) dX0_tryRows_42 rfl rfl ?_
            refine g_iload_n (i := 3) dX0_tryRows_43 rfl rfl ?_
            refine g_iload dX0_tryRows_44 rfl ?_
            refine n_callVv (k_X0_lowerLeasts _ n wd kd N hT2 d0 d1 _ _ (by omega) (by omega) (by omega) (fun r => 2000000000) (fun r q0 q1 => ⟨hlow r q0 q1, by omega⟩)) dX0_tryRows_46 lk0_45 im_X0_lowerLeasts (by first | rfl | assumption) (by first | decide | (show _ < 62; omega)) rfl rfl rfl rfl (Nat.le_of_ble_eq_true rfl) (fun c2 hz => ?_)
            obtain ⟨v0, v1, v2⟩ := hz
            have hT3 : Tb c2 n wd N := hT2.fr (v0 1 (by decide)) (v0 2 (by decide)) (v0 3 (by decide))
            have hB2 : BC c2 (ds wd N kd) n k (900 * ch + 30 * (ch + 1)) := by
              have h5 : BC c2 (ds wd N kd) n k (900 * (ch)) := by
                unfold BC
                rw [v0 18 (by decide), v0 20 (by decide)]
                exact hBL
              exact BB.mv h5 (by omega) (fun x y z hx q => by have hx2 := hx.b t3.2; unfold Vd at hx; rcases Int.lt_trichotomy x ch with e | e | e <;> first | omega | (rcases Int.lt_trichotomy y 0 with e2 | e2 | e2 <;> omega))
            refine g_aload_n (i := 0) dX0_tryRows_49 rfl rfl ?_
            refine g_aload_n (i := 1) dX0_tryRows_50 rfl rfl ?_
            refine g_iload_n (i := 2) dX0_tryRows_51 rfl rfl ?_
            refine g_iload_n (i := 3) dX0_tryRows_52 rfl rfl ?_
            refine g_iconst dX0_tryRows_53 ?_
            refine g_iadd dX0_tryRows_54 ?_
            refine g_iload dX0_tryRows_55 rfl ?_
            refine g_iconst dX0_tryRows_57 ?_
            refine g_iadd dX0_tryRows_58 ?_
            refine n_callVv (k_X0_tryRows_1 _ n wd kd N hT3 d0 d1 ch k _ (by omega) (by rw [v0 18 (by decide)]; exact h4) ⟨by rw [v0 21 (by decide)]; exact qu_eq _ _ _ _, by omega, by omega⟩ rfl (fun r q0 q1 => by
          have hdr := hD ch r (by omega) (by omega) q0 q1
          have hv := v2 r q0 q1
          rw [show (1 : Int) * 30 + r = 0 * 30 + 30 + r by omega, hv]
          unfold mn; rw [if_pos (by omega)]) hB2) dX0_tryRows_59 lk0_37 im_X0_tryRows (by first | rfl | assumption) (by first | decide | (show _ < 62; omega)) rfl rfl rfl rfl (Nat.le_of_ble_eq_true rfl) (fun c3 hz => ?_)
            obtain ⟨w0, h4N, w21, w22, wB⟩ := hz
            have hffN : ∀ q, q ≠ 18 → q ≠ 20 → q ≠ 21 → q ≠ 22 → c3 q = c q := fun q k1 k2 k3 k4 => by rw [w0 q k1 k2 k3 k4, v0 q k4, qu_ne k3]; exact ff q k1 k2 k3 k4
            have h21N : ∀ i, i < 0 → c3 21 i = c1 21 i := fun i hi => by rw [w21 i (by omega), v0 21 (by decide), qu_off (by omega)]
            have hlsN : ∀ x, x < 0 * 30 + 30 → c3 22 x = c 22 x := fun x hx => by rw [w22 x (by omega), v1 x hx, qu_ne (by decide)]; exact hls x hx
            have hBN : BC c3 (ds wd N kd) n k (900 * (ch + 1)) := BB.mv wB (by omega) (fun x y z hx q => by have hx2 := hx.b t3.2; unfold Vd at hx; rcases Int.lt_trichotomy x ch with e | e | e <;> first | omega | (rcases Int.lt_trichotomy y 0 with e2 | e2 | e2 <;> omega))
            refine g_goto 74 dX0_tryRows_62 (by decide) ?_
            refine g_iinc5 dX0_tryRows_74 rfl ?_
            refine g_goto 13 dX0_tryRows_77 (by decide) ?_
            exact ih13 _ _ (by omega) (by first | assumption | omega) (by first | assumption | omega) hffN h4N (fun i hi => by rw [h21N i hi]; exact h21 i hi) trivial hlsN hBN
    exact L13 _ _ _ (Nat.lt_succ_self _) (by first | assumption | omega) (by omega) (fun q _ _ _ _ => rfl) hk (fun i _ => rfl) ht (fun x _ => rfl) hB
  · skip
    exact n_retv dX0_tryRows_8 rfl (absurd b5 (by omega))
set_option maxHeartbeats 4000000 in
set_option maxRecDepth 100000 in
theorem k_X0_nearestBest (c : qC) (n wd kd : Int) (N : Int → Int → Int) (hT : Tb c n wd N) (d0 : 0 ≤ kd) (d1 : kd < 3) (r k : Int) (md : Int → Int) (k0 : 1 ≤ k ∧ k ≤ 3) (hk : c 18 4 = k) (r0 : 0 ≤ r) (r1 : r < n) (hb : ∀ i, 0 ≤ i → i < k → c 20 i = md i ∧ 0 ≤ md i ∧ md i < n) : qN X0_nearestBest 2 [qP 18, qP 1, qI kd, qI r] c (pI (fun z c' => z = nm (ds wd N kd) md r (k - 1).toNat ∧ c' = c)) := by
  have hT0 := hT
  obtain ⟨t1, t2, t3, t4, t5, t6, t7⟩ := hT
  refine qN.of [some (qP 18), some (qP 1), some (qI kd), some (qI r), none, none] (by decide) rfl (fun _ => rfl) (fun _ => Nat.le_of_ble_eq_true rfl) ?_
  refine g_iconst dX0_nearestBest_0 ?_
  refine g_istore4 dX0_nearestBest_1 rfl ?_
  refine g_iconst dX0_nearestBest_3 ?_
  refine g_istore5 dX0_nearestBest_4 rfl ?_
  have L6 : ∀ (fu6 : Nat) (a j : Int), (k - j).toNat < fu6 → (1 ≤ j) → (j ≤ k) → (a = nm (ds wd N kd) md r (j - 1).toNat) → qG (qYn X0_nearestBest 2 (pI (fun z c' => z = nm (ds wd N kd) md r (k - 1).toNat ∧ c' = c))) wN 6 [some (qP 18), some (qP 1), some (qI kd), some (qI r), some (qI a), some (qI j)] [] c := by
    intro fu6
    induction fu6 with
    | zero => intro a j hm; exact absurd hm (Nat.not_lt_zero _)
    | succ fu6 ih6 =>
      intro a j hm6 j0 j1 ha
      have hnb := nm_bd (D := (ds wd N kd)) (md := md) (r := r) (j - 1).toNat
      rw [← ha] at hnb
      refine g_iload dX0_nearestBest_6 rfl ?_
      refine g_aload_n (i := 0) dX0_nearestBest_8 rfl rfl ?_
      refine g_getI (ji := 4) dX0_nearestBest_9 fl0_24 (by first | rfl | assumption) (by first | decide | (show _ < 62; omega)) (by first | rfl | assumption) (by decide) rfl (by first | assumption | rfl) ?_
      refine g_icmp_ge 54 dX0_nearestBest_12 (by decide) (fun b12 => ?_) (fun b12 => ?_)
      · skip
        refine g_iload dX0_nearestBest_54 rfl ?_
        exact n_reti dX0_nearestBest_56 rfl (⟨by rw [ha, show j = k by omega], rfl⟩)
      · skip
        have hj := hb j (by omega) (by omega)
        have ha2 := hb a (by omega) (by omega)
        refine g_aload_n (i := 1) dX0_nearestBest_15 rfl rfl ?_
        refine g_iload_n (i := 2) dX0_nearestBest_16 rfl rfl ?_
        refine g_aload_n (i := 0) dX0_nearestBest_17 rfl rfl ?_
        refine g_getP dX0_nearestBest_18 fl0_15 (by first | rfl | assumption) (by first | decide | (show _ < 62; omega)) (by first | rfl | assumption) ?_
        refine g_iload dX0_nearestBest_21 rfl ?_
        refine g_iaload dX0_nearestBest_23 rfl (by decide) ?_
        rw [hj.1]
        skip -- ?_
        refine g_iload_n (i := 3) dX0_nearestBest_24 rfl rfl ?_
        refine n_callVi (k_X6_apart _ _ _ _ (by omega) (by omega) (by omega) (by omega) (by omega) (by omega)) dX0_nearestBest_25 lk0_63 im_X6_apart (by first | rfl | assumption) (by first | decide | (show _ < 62; omega)) rfl rfl rfl rfl (Nat.le_of_ble_eq_true rfl) (fun z c' hz => ?_)
        obtain ⟨rfl, hz2⟩ := hz
        have hz2 := hz2.symm
        subst hz2
        rw [t7 kd (md j) r d0 d1 (by omega) (by omega) (by omega) (by omega)]
        have hab := hT0.bd (kd := kd) (show 0 ≤ (md j) by omega) (show (md j) < n by omega) (show 0 ≤ r by omega) (show r < n by omega)
        refine g_aload_n (i := 1) dX0_nearestBest_28 rfl rfl ?_
        refine g_iload_n (i := 2) dX0_nearestBest_29 rfl rfl ?_
        refine g_aload_n (i := 0) dX0_nearestBest_30 rfl rfl ?_
        refine g_getP dX0_nearestBest_31 fl0_15 (by first | rfl | assumption) (by first | decide | (show _ < 62; omega)) (by first | rfl | assumption) ?_
        refine g_iload dX0_nearestBest_34 rfl ?_
        refine g_iaload dX0_nearestBest_36 rfl (by decide) ?_
        rw [ha2.1]
        skip -- ?_
        refine g_iload_n (i := 3) dX0_nearestBest_37 rfl rfl ?_
        refine n_callVi (k_X6_apart _ _ _ _ (by omega) (by omega) (by omega) (by omega) (by omega) (by omega)) dX0_nearestBest_38 lk0_63 im_X6_apart (by first | rfl | assumption) (by first | decide | (show _ < 62; omega)) rfl rfl rfl rfl (Nat.le_of_ble_eq_true rfl) (fun z c' hz => ?_)
        obtain ⟨rfl, hz2⟩ := hz
        have hz2 := hz2.symm
        subst hz2
        rw [t7 kd (md a) r d0 d1 (by omega) (by omega) (by omega) (by omega)]
        have hab2 := hT0.bd (kd := kd) (show 0 ≤ (md a) by omega) (show (md a) < n by omega) (show 0 ≤ r by omega) (show r < n by omega)
        refine g_icmp_ge 48 dX0_nearestBest_41 (by decide) (fun b41 => ?_) (fun b41 => ?_)
        · skip
          refine g_iinc5 dX0_nearestBest_48 rfl ?_
          refine g_goto 6 dX0_nearestBest_51 (by decide) ?_
          exact ih6 _ _ (by omega) (by first | assumption | omega) (by first | assumption | omega) (by rw [nm_s j0, ← ha]; first | rw [if_pos (by omega)] | rw [if_neg (by omega)])
        · skip
          refine g_iload dX0_nearestBest_44 rfl ?_
          refine g_istore4 dX0_nearestBest_46 rfl ?_
          refine g_iinc5 dX0_nearestBest_48 rfl ?_
          refine g_goto 6 dX0_nearestBest_51 (by decide) ?_
          exact ih6 _ _ (by omega) (by first | assumption | omega) (by first | assumption | omega) (by rw [nm_s j0, ← ha]; first | rw [if_pos (by omega)] | rw [if_neg (by omega)])
  exact L6 _ _ _ (Nat.lt_succ_self _) (by first | assumption | omega) (by first | assumption | omega) rfl
set_option maxHeartbeats 4000000 in
set_option maxRecDepth 100000 in
theorem k_X0_search (c : qC) (n wd kd : Int) (N : Int → Int → Int) (hT : Tb c n wd N) (d0 : 0 ≤ kd) (d1 : kd < 3) (k : Int) (k0 : 1 ≤ k ∧ k ≤ 3) (kn : k ≤ n) : qN X0_search 5 [qP 18, qP 1, qI kd, qI k] c (pI (fun z c' => z = (bp (ds wd N kd) n k).1 ∧ c' 18 4 = k ∧ (∀ i, 0 ≤ i → i < k → c' 20 i = mdB (ds wd N kd) n k i) ∧ (∀ r, 0 ≤ r → r < n → c' 19 r = nm (ds wd N kd) (mdB (ds wd N kd) n k) r (k - 1).toNat) ∧ ∀ q, q ≠ 18 → q ≠ 19 → q ≠ 20 → q ≠ 21 → q ≠ 22 → c' q = c q)) := by
  have hT0 := hT
  obtain ⟨t1, t2, t3, t4, t5, t6, t7⟩ := hT
  refine qN.of [some (qP 18), some (qP 1), some (qI kd), some (qI k), none] (by decide) rfl (fun _ => rfl) (fun _ => Nat.le_of_ble_eq_true rfl) ?_
  refine g_aload_n (i := 0) dX0_search_0 rfl rfl ?_
  refine g_iload_n (i := 3) dX0_search_1 rfl rfl ?_
  refine g_putI 4 dX0_search_2 fl0_24 fw0_4 (by first | rfl | assumption) (by first | decide | (show _ < 62; omega)) (by first | rfl | assumption) (by decide) rfl ?_
  refine g_aload_n (i := 0) dX0_search_5 rfl rfl ?_
  refine g_ldc (z := 2000000000) dX0_search_6 cw0_31 ?_
  refine g_putI 5 dX0_search_8 fl0_28 fw0_5 (by first | rfl | assumption) (by first | decide | (show _ < 62; omega)) (by first | rfl | assumption) (by decide) rfl ?_
  refine g_iconst dX0_search_11 ?_
  refine g_istore4 dX0_search_12 rfl ?_
  have L14 : ∀ (fu14 : Nat) (r : Int) (c1 : qC), (n - r).toNat < fu14 → (0 ≤ r) → (r ≤ n) → (∀ q, q ≠ 22 → c1 q = qu (qu c 18 4 k) 18 5 2000000000 q) → (∀ x, 0 ≤ x → x < r → c1 22 x = 2000000000) → qG (qYn X0_search 5 (pI (fun z c' => z = (bp (ds wd N kd) n k).1 ∧ c' 18 4 = k ∧ (∀ i, 0 ≤ i → i < k → c' 20 i = mdB (ds wd N kd) n k i) ∧ (∀ r, 0 ≤ r → r < n → c' 19 r = nm (ds wd N kd) (mdB (ds wd N kd) n k) r (k - 1).toNat) ∧ ∀ q, q ≠ 18 → q ≠ 19 → q ≠ 20 → q ≠ 21 → q ≠ 22 → c' q = c q))) wN 14 [some (qP 18), some (qP 1), some (qI kd), some (qI k), some (qI r)] [] c1 := by
    intro fu14
    induction fu14 with
    | zero => intro r c1 hm; exact absurd hm (Nat.not_lt_zero _)
    | succ fu14 ih14 =>
      intro r c1 hm14 r0 r1 ff hl
      have e1 : c1 1 3 = n := by rw [ff 1 (by decide)]; exact t1
      refine g_iload dX0_search_14 rfl ?_
      refine g_aload_n (i := 1) dX0_search_16 rfl rfl ?_
      refine g_getI (ji := 3) dX0_search_17 fl0_32 (by first | rfl | assumption) (by first | decide | (show _ < 62; omega)) (by first | rfl | assumption) (by decide) rfl (by first | assumption | rfl) ?_
      refine g_icmp_ge 38 dX0_search_20 (by decide) (fun b20 => ?_) (fun b20 => ?_)
      · skip
        have hT1 : Tb c1 n wd N := hT0.fr (by rw [ff 1 (by decide)]; rfl) (by rw [ff 2 (by decide)]; rfl) (by rw [ff 3 (by decide)]; rfl)
        refine g_aload_n (i := 0) dX0_search_38 rfl rfl ?_
        refine g_aload_n (i := 1) dX0_search_39 rfl rfl ?_
        refine g_iload_n (i := 2) dX0_search_40 rfl rfl ?_
        refine g_iconst dX0_search_41 ?_
        refine g_iconst dX0_search_42 ?_
        refine n_callVv (k_X0_tryRows_0 _ n wd kd N hT1 d0 d1 k 0 (by omega) (by rw [ff 18 (by decide)]; rfl) trivial rfl (fun x q0 q1 => by rw [show (0 : Int) * 30 + x = x by omega]; exact hl x q0 (by omega)) (Or.inl ⟨by rw [ff 18 (by decide)]; rfl, fun x y z h => by unfold Vd at h; omega⟩)) dX0_search_43 lk0_37 im_X0_tryRows (by first | rfl | assumption) (by first | decide | (show _ < 62; omega)) rfl rfl rfl rfl (Nat.le_of_ble_eq_true rfl) (fun c2 hz => ?_)
        obtain ⟨w0, w1, -, -, w2⟩ := hz
        have hT2 : Tb c2 n wd N := hT1.fr (w0 1 (by decide) (by decide) (by decide) (by decide)) (w0 2 (by decide) (by decide) (by decide) (by decide)) (w0 3 (by decide) (by decide) (by decide) (by decide))
        have w3 := BB.en (by omega) k0 w2
        have w4 := bp_eq t3.2 k0 w3
        have hmb : ∀ i, 0 ≤ i → i < k → c2 20 i = mdB (ds wd N kd) n k i ∧ 0 ≤ mdB (ds wd N kd) n k i ∧ mdB (ds wd N kd) n k i < n := fun i i0 i1 => by
          have hV := w3.1
          unfold mdB
          rw [w4]
          unfold mdF Vd at *
          dsimp only
          obtain rfl | rfl | rfl : i = 0 ∨ i = 1 ∨ i = 2 := by omega
          · rw [if_pos rfl]; omega
          · rw [if_neg (by decide), if_pos rfl]
            rw [if_neg (by omega)] at hV ⊢
            omega
          · rw [if_neg (by decide), if_neg (by decide)]
            rw [if_pos (show k = 3 by omega)] at hV ⊢
            omega
        refine g_iconst dX0_search_46 ?_
        refine g_istore4 dX0_search_47 rfl ?_
        have L49 : ∀ (fu49 : Nat) (r : Int) (c3 : qC), (n - r).toNat < fu49 → (0 ≤ r) → (r ≤ n) → (∀ q, q ≠ 19 → c3 q = c2 q) → (∀ x, 0 ≤ x → x < r → c3 19 x = nm (ds wd N kd) (mdB (ds wd N kd) n k) x (k - 1).toNat) → qG (qYn X0_search 5 (pI (fun z c' => z = (bp (ds wd N kd) n k).1 ∧ c' 18 4 = k ∧ (∀ i, 0 ≤ i → i < k → c' 20 i = mdB (ds wd N kd) n k i) ∧ (∀ r, 0 ≤ r → r < n → c' 19 r = nm (ds wd N kd) (mdB (ds wd N kd) n k) r (k - 1).toNat) ∧ ∀ q, q ≠ 18 → q ≠ 19 → q ≠ 20 → q ≠ 21 → q ≠ 22 → c' q = c q))) wN 49 [some (qP 18), some (qP 1), some (qI kd), some (qI k), some (qI r)] [] c3 := by
          intro fu49
          induction fu49 with
          | zero => intro r c3 hm; exact absurd hm (Nat.not_lt_zero _)
          | succ fu49 ih49 =>
            intro r c3 hm49 r0 r1 ff3 hl3
            have e3 : c3 1 3 = n := by rw [ff3 1 (by decide)]; exact hT2.1
            have hT3 : Tb c3 n wd N := hT2.fr (ff3 1 (by decide)) (ff3 2 (by decide)) (ff3 3 (by decide))
            have h34 : c3 18 4 = k := by rw [ff3 18 (by decide)]; exact w1
            have h35 : ∀ i, 0 ≤ i → i < k → c3 20 i = mdB (ds wd N kd) n k i ∧ 0 ≤ mdB (ds wd N kd) n k i ∧ mdB (ds wd N kd) n k i < n := fun i i0 i1 => by rw [ff3 20 (by decide)]; exact hmb i i0 i1
            refine g_iload dX0_search_49 rfl ?_
            refine g_aload_n (i := 1) dX0_search_51 rfl rfl ?_
            refine g_getI (ji := 3) dX0_search_52 fl0_32 (by first | rfl | assumption) (by first | decide | (show _ < 62; omega)) (by first | rfl | assumption) (by decide) rfl (by first | assumption | rfl) ?_
            refine g_icmp_ge 79 dX0_search_55 (by decide) (fun b55 => ?_) (fun b55 => ?_)
            · skip
              refine g_aload_n (i := 0) dX0_search_79 rfl rfl ?_
              refine g_getI (ji := 5) dX0_search_80 fl0_28 (by first | rfl | assumption) (by first | decide | (show _ < 62; omega)) (by first | rfl | assumption) (by decide) rfl (by first | assumption | rfl) ?_
              exact n_reti dX0_search_83 rfl (⟨by rw [ff3 18 (by decide), w4], h34, fun i i0 i1 => (h35 i i0 i1).1, fun x q0 q1 => hl3 x q0 (by omega), fun q k1 k2 k3 k4 k5 => by
        rw [ff3 q k2, w0 q k1 k3 k4 k5, ff q k5, qu_ne k1, qu_ne k1]⟩)
            · skip
              refine g_aload_n (i := 0) dX0_search_58 rfl rfl ?_
              refine g_getP dX0_search_59 fl0_9 (by first | rfl | assumption) (by first | decide | (show _ < 62; omega)) (by first | rfl | assumption) ?_
              refine g_iload dX0_search_62 rfl ?_
              refine g_aload_n (i := 0) dX0_search_64 rfl rfl ?_
              refine g_aload_n (i := 1) dX0_search_65 rfl rfl ?_
              refine g_iload_n (i := 2) dX0_search_66 rfl rfl ?_
              refine g_iload dX0_search_67 rfl ?_
              refine n_callVi (k_X0_nearestBest _ n wd kd N hT3 d0 d1 _ k _ k0 h34 r0 (by omega) h35) dX0_search_69 lk0_41 im_X0_nearestBest (by first | rfl | assumption) (by first | decide | (show _ < 62; omega)) rfl rfl rfl rfl (Nat.le_of_ble_eq_true rfl) (fun z c' hz => ?_)
              obtain ⟨rfl, hz2⟩ := hz
              have hz2 := hz2.symm
              subst hz2
              refine g_iastore dX0_search_72 (by first | rfl | assumption) (by first | decide | (show _ < 62; omega)) ?_
              refine g_iinc4 dX0_search_73 rfl ?_
              refine g_goto 49 dX0_search_76 (by decide) ?_
              exact ih49 _ _ (by omega) (by first | assumption | omega) (by first | assumption | omega) (fun q hq => by rw [qu_ne hq]; exact ff3 q hq) (fun x q0 q1 => by
        rw [qu_at]; split
        · rename_i h; rw [h]
        · exact hl3 x q0 (by omega))
        exact L49 _ _ _ (Nat.lt_succ_self _) (by first | assumption | omega) (by first | assumption | omega) (fun q _ => rfl) (fun x q0 q1 => by omega)
      · skip
        refine g_aload_n (i := 0) dX0_search_23 rfl rfl ?_
        refine g_getP dX0_search_24 fl0_21 (by first | rfl | assumption) (by first | decide | (show _ < 62; omega)) (by first | rfl | assumption) ?_
        refine g_iload dX0_search_27 rfl ?_
        refine g_ldc (z := 2000000000) dX0_search_29 cw0_31 ?_
        refine g_iastore dX0_search_31 (by first | rfl | assumption) (by first | decide | (show _ < 62; omega)) ?_
        refine g_iinc4 dX0_search_32 rfl ?_
        refine g_goto 14 dX0_search_35 (by decide) ?_
        exact ih14 _ _ (by omega) (by first | assumption | omega) (by first | assumption | omega) (fun q hq => by rw [qu_ne hq]; exact ff q hq) (fun x q0 q1 => by
        rw [qu_at]; split
        · rfl
        · exact hl x q0 (by omega))
  exact L14 _ _ _ (Nat.lt_succ_self _) (by first | assumption | omega) (by first | assumption | omega) (fun q _ => rfl) (fun x q0 q1 => by omega)
set_option maxHeartbeats 4000000 in
set_option maxRecDepth 100000 in
theorem k_X7_medoids (c : qC) (n wd : Int) (N : Int → Int → Int) (S : Sl) (mm : Int) (md : Int → Int) (T : Tr) (hS : CS c n wd N S mm md T) (s kd k : Int) (s0 : iR s) (d0 : iR kd) (k0 : iR k) : qN X7_medoids 6 [qP 0, qI s, qI kd, qI k] c (pI (fun z c' => z = a_mds n wd N s kd k ∧ CS c' n wd N (s_mds n wd N S s kd k) (m_mds n mm s kd k) (d_mds n wd N md s kd k) T ∧ FrC c c')) := by
  have hS0 := hS
  obtain ⟨hT, hSl, hMd, hTr⟩ := hS
  have hT0 := hT
  obtain ⟨t1, t2, t3, t4, t5, t6, t7⟩ := hT
  refine qN.of [some (qP 0), some (qI s), some (qI kd), some (qI k), none] (by decide) rfl (fun _ => rfl) (fun _ => Nat.le_of_ble_eq_true rfl) ?_
  refine g_iload_n (i := 1) dX7_medoids_0 rfl rfl ?_
  refine n_callSi (k_X7_isSlot _ _ (by omega)) dX7_medoids_1 lk7_100 sm_X7_isSlot rfl rfl rfl (Nat.le_of_ble_eq_true rfl) (fun z c' hz => ?_)
  obtain ⟨hz2, hz⟩ := hz
  have hz2 := hz2.symm
  subst hz2
  refine g_if_eq 24 dX7_medoids_4 (by decide) (fun b4 => ?_) (fun b4 => ?_)
  · skip
    refine g_ldc (z := -2000000002) dX7_medoids_24 cw7_58 ?_
    exact n_reti dX7_medoids_26 rfl (by unfold a_mds s_mds m_mds d_mds; rw [if_neg (show ¬ ((0 ≤ s ∧ s ≤ 1) ∧ (0 ≤ kd ∧ kd ≤ 2) ∧ 1 ≤ k ∧ k ≤ 3) by omega), if_neg (show ¬ ((0 ≤ s ∧ s ≤ 1) ∧ (0 ≤ kd ∧ kd ≤ 2) ∧ 1 ≤ k ∧ k ≤ 3) by omega), if_neg (show ¬ ((0 ≤ s ∧ s ≤ 1) ∧ (0 ≤ kd ∧ kd ≤ 2) ∧ 1 ≤ k ∧ k ≤ 3) by omega), if_neg (show ¬ ((0 ≤ s ∧ s ≤ 1) ∧ (0 ≤ kd ∧ kd ≤ 2) ∧ 1 ≤ k ∧ k ≤ 3) by omega)]; exact ⟨rfl, hS0, FrC.rf c⟩)
  · skip
    refine g_iload_n (i := 2) dX7_medoids_7 rfl rfl ?_
    refine n_callSi (k_X7_isKind _ _ (by omega)) dX7_medoids_8 lk7_90 sm_X7_isKind rfl rfl rfl (Nat.le_of_ble_eq_true rfl) (fun z c' hz => ?_)
    obtain ⟨hz2, hz⟩ := hz
    have hz2 := hz2.symm
    subst hz2
    refine g_if_eq 24 dX7_medoids_11 (by decide) (fun b11 => ?_) (fun b11 => ?_)
    · skip
      refine g_ldc (z := -2000000002) dX7_medoids_24 cw7_58 ?_
      exact n_reti dX7_medoids_26 rfl (by unfold a_mds s_mds m_mds d_mds; rw [if_neg (show ¬ ((0 ≤ s ∧ s ≤ 1) ∧ (0 ≤ kd ∧ kd ≤ 2) ∧ 1 ≤ k ∧ k ≤ 3) by omega), if_neg (show ¬ ((0 ≤ s ∧ s ≤ 1) ∧ (0 ≤ kd ∧ kd ≤ 2) ∧ 1 ≤ k ∧ k ≤ 3) by omega), if_neg (show ¬ ((0 ≤ s ∧ s ≤ 1) ∧ (0 ≤ kd ∧ kd ≤ 2) ∧ 1 ≤ k ∧ k ≤ 3) by omega), if_neg (show ¬ ((0 ≤ s ∧ s ≤ 1) ∧ (0 ≤ kd ∧ kd ≤ 2) ∧ 1 ≤ k ∧ k ≤ 3) by omega)]; exact ⟨rfl, hS0, FrC.rf c⟩)
    · skip
      refine g_iload_n (i := 3) dX7_medoids_14 rfl rfl ?_
      refine g_iconst dX7_medoids_15 ?_
      refine g_icmp_lt 24 dX7_medoids_16 (by decide) (fun b16 => ?_) (fun b16 => ?_)
      · skip
        refine g_ldc (z := -2000000002) dX7_medoids_24 cw7_58 ?_
        exact n_reti dX7_medoids_26 rfl (by unfold a_mds s_mds m_mds d_mds; rw [if_neg (show ¬ ((0 ≤ s ∧ s ≤ 1) ∧ (0 ≤ kd ∧ kd ≤ 2) ∧ 1 ≤ k ∧ k ≤ 3) by omega), if_neg (show ¬ ((0 ≤ s ∧ s ≤ 1) ∧ (0 ≤ kd ∧ kd ≤ 2) ∧ 1 ≤ k ∧ k ≤ 3) by omega), if_neg (show ¬ ((0 ≤ s ∧ s ≤ 1) ∧ (0 ≤ kd ∧ kd ≤ 2) ∧ 1 ≤ k ∧ k ≤ 3) by omega), if_neg (show ¬ ((0 ≤ s ∧ s ≤ 1) ∧ (0 ≤ kd ∧ kd ≤ 2) ∧ 1 ≤ k ∧ k ≤ 3) by omega)]; exact ⟨rfl, hS0, FrC.rf c⟩)
      · skip
        refine g_iload_n (i := 3) dX7_medoids_19 rfl rfl ?_
        refine g_iconst dX7_medoids_20 ?_
        refine g_icmp_le 27 dX7_medoids_21 (by decide) (fun b21 => ?_) (fun b21 => ?_)
        · skip
          refine g_aload_n (i := 0) dX7_medoids_27 rfl rfl ?_
          refine g_getP dX7_medoids_28 fl7_10 (by first | rfl | assumption) (by first | decide | (show _ < 62; omega)) (by first | rfl | assumption) ?_
          refine g_getI (ji := 3) dX7_medoids_31 fl7_59 (by first | rfl | assumption) (by first | decide | (show _ < 62; omega)) (by first | rfl | assumption) (by decide) rfl (by first | assumption | rfl) ?_
          refine g_iload_n (i := 3) dX7_medoids_34 rfl rfl ?_
          refine g_icmp_ge 41 dX7_medoids_35 (by decide) (fun b35 => ?_) (fun b35 => ?_)
          · skip
            have hok : (0 ≤ s ∧ s ≤ 1) ∧ (0 ≤ kd ∧ kd ≤ 2) ∧ 1 ≤ k ∧ k ≤ 3 := by omega
            obtain ⟨o, hoS, ho1, hLo, ho62, ho58, hL1, hL2, ho63, ho64⟩ := oS_ex (s := s) (by omega)
            refine g_aload_n (i := 0) dX7_medoids_41 rfl rfl ?_
            refine g_getP dX7_medoids_42 fl7_33 (by first | rfl | assumption) (by first | decide | (show _ < 62; omega)) (by first | rfl | assumption) ?_
            refine g_aload_n (i := 0) dX7_medoids_45 rfl rfl ?_
            refine g_getP dX7_medoids_46 fl7_10 (by first | rfl | assumption) (by first | decide | (show _ < 62; omega)) (by first | rfl | assumption) ?_
            refine g_iload_n (i := 2) dX7_medoids_49 rfl rfl ?_
            refine g_iload_n (i := 3) dX7_medoids_50 rfl rfl ?_
            refine n_callVi (k_X0_search _ n wd _ N hT0 (by omega) (by omega) k (by omega) (by omega)) dX7_medoids_51 lk7_115 im_X0_search (by first | rfl | assumption) (by first | decide | (show _ < 62; omega)) rfl rfl rfl rfl (Nat.le_of_ble_eq_true rfl) (fun z c1 hz => ?_)
            obtain ⟨rfl, v1, v2, v3, v4⟩ := hz
            have r1 : c1 1 3 = n := by rw [v4 1 (by decide) (by decide) (by decide) (by decide) (by decide)]; exact t1
            refine g_istore4 dX7_medoids_54 rfl ?_
            refine g_aload_n (i := 0) dX7_medoids_56 rfl rfl ?_
            refine g_getP dX7_medoids_57 fl7_18 (by first | rfl | assumption) (by first | decide | (show _ < 62; omega)) (by first | rfl | assumption) ?_
            refine g_iload_n (i := 1) dX7_medoids_60 rfl rfl ?_
            refine g_aaload dX7_medoids_61 rfl (by decide) ho1 ?_
            refine g_aload_n (i := 0) dX7_medoids_62 rfl rfl ?_
            refine g_getP dX7_medoids_63 fl7_33 (by first | rfl | assumption) (by first | decide | (show _ < 62; omega)) (by first | rfl | assumption) ?_
            refine g_getP dX7_medoids_66 fl7_119 (by first | rfl | assumption) (by first | decide | (show _ < 62; omega)) (by first | rfl | assumption) ?_
            refine g_aload_n (i := 0) dX7_medoids_69 rfl rfl ?_
            refine g_getP dX7_medoids_70 fl7_10 (by first | rfl | assumption) (by first | decide | (show _ < 62; omega)) (by first | rfl | assumption) ?_
            refine g_getI (ji := 3) dX7_medoids_73 fl7_59 (by first | rfl | assumption) (by first | decide | (show _ < 62; omega)) (by first | rfl | assumption) (by decide) rfl (by first | assumption | rfl) ?_
            refine g_iload_n (i := 3) dX7_medoids_76 rfl rfl ?_
            refine n_callVv (kk_fill (q := 19) (g := fun r => nm (ds wd N kd) (mdB (ds wd N kd) n k) r (k - 1).toNat) ho58 rfl (by decide) (by omega) t3 (by omega) (fun r q0 q1 => ⟨v3 r q0 q1, by have := nm_bd (D := (ds wd N kd)) (md := mdB (ds wd N kd) n k) (r := r) (k - 1).toNat; omega⟩)) dX7_medoids_77 lk7_111 im_X3_fill hLo ho62 rfl rfl rfl rfl (Nat.le_of_ble_eq_true rfl) (fun c2 hz => ?_)
            obtain ⟨hG, hf2⟩ := hz
            refine g_iload dX7_medoids_80 rfl ?_
            exact n_reti dX7_medoids_82 rfl (by
        unfold a_mds s_mds m_mds d_mds; rw [if_pos hok, if_pos hok, if_pos hok, if_pos hok, if_neg (show ¬ n < k by omega), if_neg (show ¬ n < k by omega), if_neg (show ¬ n < k by omega), if_neg (show ¬ n < k by omega)]
        have hS1 : CS c1 n wd N S k (mdB (ds wd N kd) n k) T := hS0.md (fun q hq => v4 q (by omega) (by omega) (by omega) (by omega) (by omega)) v1 (by omega) v2
        exact ⟨rfl, hS1.sup hoS (by omega) ho58 hG (fun q q0 q1 q2 q3 => hf2 q q1 q2 q3), fun q hq => by rw [hf2 q (by omega) (by omega) (by omega)]; exact v4 q (by omega) (by omega) (by omega) (by omega) (by omega)⟩)
          · skip
            refine g_ldc (z := -2000000003) dX7_medoids_38 cw7_63 ?_
            exact n_reti dX7_medoids_40 rfl (by unfold a_mds s_mds m_mds d_mds; rw [if_pos (show (0 ≤ s ∧ s ≤ 1) ∧ (0 ≤ kd ∧ kd ≤ 2) ∧ 1 ≤ k ∧ k ≤ 3 by omega), if_pos (show (0 ≤ s ∧ s ≤ 1) ∧ (0 ≤ kd ∧ kd ≤ 2) ∧ 1 ≤ k ∧ k ≤ 3 by omega), if_pos (show (0 ≤ s ∧ s ≤ 1) ∧ (0 ≤ kd ∧ kd ≤ 2) ∧ 1 ≤ k ∧ k ≤ 3 by omega), if_pos (show (0 ≤ s ∧ s ≤ 1) ∧ (0 ≤ kd ∧ kd ≤ 2) ∧ 1 ≤ k ∧ k ≤ 3 by omega), if_pos (show n < k by omega), if_pos (show n < k by omega), if_pos (show n < k by omega), if_pos (show n < k by omega)]; exact ⟨rfl, hS0, FrC.rf c⟩)
        · skip
          refine g_ldc (z := -2000000002) dX7_medoids_24 cw7_58 ?_
          exact n_reti dX7_medoids_26 rfl (by unfold a_mds s_mds m_mds d_mds; rw [if_neg (show ¬ ((0 ≤ s ∧ s ≤ 1) ∧ (0 ≤ kd ∧ kd ≤ 2) ∧ 1 ≤ k ∧ k ≤ 3) by omega), if_neg (show ¬ ((0 ≤ s ∧ s ≤ 1) ∧ (0 ≤ kd ∧ kd ≤ 2) ∧ 1 ≤ k ∧ k ≤ 3) by omega), if_neg (show ¬ ((0 ≤ s ∧ s ≤ 1) ∧ (0 ≤ kd ∧ kd ≤ 2) ∧ 1 ≤ k ∧ k ≤ 3) by omega), if_neg (show ¬ ((0 ≤ s ∧ s ≤ 1) ∧ (0 ≤ kd ∧ kd ≤ 2) ∧ 1 ≤ k ∧ k ≤ 3) by omega)]; exact ⟨rfl, hS0, FrC.rf c⟩)
set_option maxHeartbeats 4000000 in
set_option maxRecDepth 100000 in
theorem k_X8_nearestOf (c : qC) (n wd kd k : Int) (N : Int → Int → Int) (hM : Md c n wd N) (k0 : 1 ≤ k ∧ k ≤ 3) (hl : ∀ i j, 0 ≤ i → i < n → 0 ≤ j → j < n → c 50 (30 * i + j) = (ds wd N kd) i j) (i a b e : Int) (i0 : 0 ≤ i) (i1 : i < n) (hV : Vd k n a b e) : qN X8_nearestOf 0 [qP 39, qI i, qI k, qI a, qI b, qI e] c (pI (fun z c' => z = nd (ds wd N kd) k a b e i ∧ c' = c)) := by
  have hM0 := hM
  obtain ⟨t1, t2, t3, t4, t5, t6⟩ := hM
  have hV2 := hV
  unfold Vd at hV2
  refine qN.of [some (qP 39), some (qI i), some (qI k), some (qI a), some (qI b), some (qI e), none, none] (by decide) rfl (fun _ => rfl) (fun _ => Nat.le_of_ble_eq_true rfl) ?_
  refine g_aload_n (i := 0) dX8_nearestOf_0 rfl rfl ?_
  refine g_getP dX8_nearestOf_1 fl8_46 (by first | rfl | assumption) (by first | decide | (show _ < 62; omega)) (by first | rfl | assumption) ?_
  refine g_bipush dX8_nearestOf_4 (by decide) ?_
  refine g_iload_n (i := 1) dX8_nearestOf_6 rfl rfl ?_
  refine g_imul dX8_nearestOf_7 ?_
  refine g_iload_n (i := 3) dX8_nearestOf_8 rfl rfl ?_
  refine g_iadd dX8_nearestOf_9 ?_
  refine g_iaload dX8_nearestOf_10 rfl (by decide) ?_
  rw [hl i a i0 i1 (by omega) (by omega), ds_comm wd N kd i a]
  have hb1 := hM0.bd (kd := kd) (show 0 ≤ a by omega) (show a < n by omega) i0 i1
  skip -- ?_
  refine g_istore6 dX8_nearestOf_11 rfl ?_
  refine g_iload_n (i := 2) dX8_nearestOf_13 rfl rfl ?_
  refine g_iconst dX8_nearestOf_14 ?_
  refine g_icmp_le 33 dX8_nearestOf_15 (by decide) (fun b15 => ?_) (fun b15 => ?_)
  · skip
    refine g_iload dX8_nearestOf_33 rfl ?_
    refine g_istore7 dX8_nearestOf_35 rfl ?_
    refine g_iload dX8_nearestOf_37 rfl ?_
    refine g_iload dX8_nearestOf_39 rfl ?_
    refine g_icmp_ge 49 dX8_nearestOf_41 (by decide) (fun b41 => ?_) (fun b41 => ?_)
    · skip
      refine g_iload dX8_nearestOf_49 rfl ?_
      refine g_istore6 dX8_nearestOf_51 rfl ?_
      refine g_iload_n (i := 2) dX8_nearestOf_53 rfl rfl ?_
      refine g_iconst dX8_nearestOf_54 ?_
      refine g_icmp_le 73 dX8_nearestOf_55 (by decide) (fun b55 => ?_) (fun b55 => ?_)
      · skip
        refine g_iload dX8_nearestOf_73 rfl ?_
        refine g_istore7 dX8_nearestOf_75 rfl ?_
        refine g_iload dX8_nearestOf_77 rfl ?_
        refine g_iload dX8_nearestOf_79 rfl ?_
        refine g_icmp_ge 89 dX8_nearestOf_81 (by decide) (fun b81 => ?_) (fun b81 => ?_)
        · skip
          refine g_iload dX8_nearestOf_89 rfl ?_
          exact n_reti dX8_nearestOf_91 rfl (⟨by
        unfold nd
        first
          | (exfalso; omega)
          | (rw [if_pos (by omega)])
          | (rw [if_neg (by omega), if_pos (by omega)]; unfold mn; (repeat' split) <;> omega)
          | (rw [if_neg (by omega), if_neg (by omega)]; unfold mn; (repeat' split) <;> omega), rfl⟩)
        · skip
          refine g_iload dX8_nearestOf_84 rfl ?_
          refine g_goto 91 dX8_nearestOf_86 (by decide) ?_
          exact n_reti dX8_nearestOf_91 rfl (⟨by
        unfold nd
        first
          | (exfalso; omega)
          | (rw [if_pos (by omega)])
          | (rw [if_neg (by omega), if_pos (by omega)]; unfold mn; (repeat' split) <;> omega)
          | (rw [if_neg (by omega), if_neg (by omega)]; unfold mn; (repeat' split) <;> omega), rfl⟩)
      · skip
        refine g_aload_n (i := 0) dX8_nearestOf_58 rfl rfl ?_
        refine g_getP dX8_nearestOf_59 fl8_46 (by first | rfl | assumption) (by first | decide | (show _ < 62; omega)) (by first | rfl | assumption) ?_
        refine g_bipush dX8_nearestOf_62 (by decide) ?_
        refine g_iload_n (i := 1) dX8_nearestOf_64 rfl rfl ?_
        refine g_imul dX8_nearestOf_65 ?_
        refine g_iload dX8_nearestOf_66 rfl ?_
        refine g_iadd dX8_nearestOf_68 ?_
        refine g_iaload dX8_nearestOf_69 rfl (by decide) ?_
        rw [hl i e i0 i1 (by omega) (by omega), ds_comm wd N kd i e]
        have hb3 := hM0.bd (kd := kd) (show 0 ≤ e by omega) (show e < n by omega) i0 i1
        skip -- ?_
        refine g_goto 75 dX8_nearestOf_70 (by decide) ?_
        refine g_istore7 dX8_nearestOf_75 rfl ?_
        refine g_iload dX8_nearestOf_77 rfl ?_
        refine g_iload dX8_nearestOf_79 rfl ?_
        refine g_icmp_ge 89 dX8_nearestOf_81 (by decide) (fun b81 => ?_) (fun b81 => ?_)
        · skip
          refine g_iload dX8_nearestOf_89 rfl ?_
          exact n_reti dX8_nearestOf_91 rfl (⟨by
        unfold nd
        first
          | (exfalso; omega)
          | (rw [if_pos (by omega)])
          | (rw [if_neg (by omega), if_pos (by omega)]; unfold mn; (repeat' split) <;> omega)
          | (rw [if_neg (by omega), if_neg (by omega)]; unfold mn; (repeat' split) <;> omega), rfl⟩)
        · skip
          refine g_iload dX8_nearestOf_84 rfl ?_
          refine g_goto 91 dX8_nearestOf_86 (by decide) ?_
          exact n_reti dX8_nearestOf_91 rfl (⟨by
        unfold nd
        first
          | (exfalso; omega)
          | (rw [if_pos (by omega)])
          | (rw [if_neg (by omega), if_pos (by omega)]; unfold mn; (repeat' split) <;> omega)
          | (rw [if_neg (by omega), if_neg (by omega)]; unfold mn; (repeat' split) <;> omega), rfl⟩)
    · skip
      refine g_iload dX8_nearestOf_44 rfl ?_
      refine g_goto 51 dX8_nearestOf_46 (by decide) ?_
      refine g_istore6 dX8_nearestOf_51 rfl ?_
      refine g_iload_n (i := 2) dX8_nearestOf_53 rfl rfl ?_
      refine g_iconst dX8_nearestOf_54 ?_
      refine g_icmp_le 73 dX8_nearestOf_55 (by decide) (fun b55 => ?_) (fun b55 => ?_)
      · skip
        refine g_iload dX8_nearestOf_73 rfl ?_
        refine g_istore7 dX8_nearestOf_75 rfl ?_
        refine g_iload dX8_nearestOf_77 rfl ?_
        refine g_iload dX8_nearestOf_79 rfl ?_
        refine g_icmp_ge 89 dX8_nearestOf_81 (by decide) (fun b81 => ?_) (fun b81 => ?_)
        · skip
          refine g_iload dX8_nearestOf_89 rfl ?_
          exact n_reti dX8_nearestOf_91 rfl (⟨by
        unfold nd
        first
          | (exfalso; omega)
          | (rw [if_pos (by omega)])
          | (rw [if_neg (by omega), if_pos (by omega)]; unfold mn; (repeat' split) <;> omega)
          | (rw [if_neg (by omega), if_neg (by omega)]; unfold mn; (repeat' split) <;> omega), rfl⟩)
        · skip
          refine g_iload dX8_nearestOf_84 rfl ?_
          refine g_goto 91 dX8_nearestOf_86 (by decide) ?_
          exact n_reti dX8_nearestOf_91 rfl (⟨by
        unfold nd
        first
          | (exfalso; omega)
          | (rw [if_pos (by omega)])
          | (rw [if_neg (by omega), if_pos (by omega)]; unfold mn; (repeat' split) <;> omega)
          | (rw [if_neg (by omega), if_neg (by omega)]; unfold mn; (repeat' split) <;> omega), rfl⟩)
      · skip
        refine g_aload_n (i := 0) dX8_nearestOf_58 rfl rfl ?_
        refine g_getP dX8_nearestOf_59 fl8_46 (by first | rfl | assumption) (by first | decide | (show _ < 62; omega)) (by first | rfl | assumption) ?_
        refine g_bipush dX8_nearestOf_62 (by decide) ?_
        refine g_iload_n (i := 1) dX8_nearestOf_64 rfl rfl ?_
        refine g_imul dX8_nearestOf_65 ?_
        refine g_iload dX8_nearestOf_66 rfl ?_
        refine g_iadd dX8_nearestOf_68 ?_
        refine g_iaload dX8_nearestOf_69 rfl (by decide) ?_
        rw [hl i e i0 i1 (by omega) (by omega), ds_comm wd N kd i e]
        have hb3 := hM0.bd (kd := kd) (show 0 ≤ e by omega) (show e < n by omega) i0 i1
        skip -- ?_
        refine g_goto 75 dX8_nearestOf_70 (by decide) ?_
        refine g_istore7 dX8_nearestOf_75 rfl ?_
        refine g_iload dX8_nearestOf_77 rfl ?_
        refine g_iload dX8_nearestOf_79 rfl ?_
        refine g_icmp_ge 89 dX8_nearestOf_81 (by decide) (fun b81 => ?_) (fun b81 => ?_)
        · skip
          refine g_iload dX8_nearestOf_89 rfl ?_
          exact n_reti dX8_nearestOf_91 rfl (⟨by
        unfold nd
        first
          | (exfalso; omega)
          | (rw [if_pos (by omega)])
          | (rw [if_neg (by omega), if_pos (by omega)]; unfold mn; (repeat' split) <;> omega)
          | (rw [if_neg (by omega), if_neg (by omega)]; unfold mn; (repeat' split) <;> omega), rfl⟩)
        · skip
          refine g_iload dX8_nearestOf_84 rfl ?_
          refine g_goto 91 dX8_nearestOf_86 (by decide) ?_
          exact n_reti dX8_nearestOf_91 rfl (⟨by
        unfold nd
        first
          | (exfalso; omega)
          | (rw [if_pos (by omega)])
          | (rw [if_neg (by omega), if_pos (by omega)]; unfold mn; (repeat' split) <;> omega)
          | (rw [if_neg (by omega), if_neg (by omega)]; unfold mn; (repeat' split) <;> omega), rfl⟩)
  · skip
    refine g_aload_n (i := 0) dX8_nearestOf_18 rfl rfl ?_
    refine g_getP dX8_nearestOf_19 fl8_46 (by first | rfl | assumption) (by first | decide | (show _ < 62; omega)) (by first | rfl | assumption) ?_
    refine g_bipush dX8_nearestOf_22 (by decide) ?_
    refine g_iload_n (i := 1) dX8_nearestOf_24 rfl rfl ?_
    refine g_imul dX8_nearestOf_25 ?_
    refine g_iload dX8_nearestOf_26 rfl ?_
    refine g_iadd dX8_nearestOf_28 ?_
    refine g_iaload dX8_nearestOf_29 rfl (by decide) ?_
    rw [hl i b i0 i1 (by omega) (by omega), ds_comm wd N kd i b]
    have hb2 := hM0.bd (kd := kd) (show 0 ≤ b by omega) (show b < n by omega) i0 i1
    skip -- ?_
    refine g_goto 35 dX8_nearestOf_30 (by decide) ?_
    refine g_istore7 dX8_nearestOf_35 rfl ?_
    refine g_iload dX8_nearestOf_37 rfl ?_
    refine g_iload dX8_nearestOf_39 rfl ?_
    refine g_icmp_ge 49 dX8_nearestOf_41 (by decide) (fun b41 => ?_) (fun b41 => ?_)
    · skip
      refine g_iload dX8_nearestOf_49 rfl ?_
      refine g_istore6 dX8_nearestOf_51 rfl ?_
      refine g_iload_n (i := 2) dX8_nearestOf_53 rfl rfl ?_
      refine g_iconst dX8_nearestOf_54 ?_
      refine g_icmp_le 73 dX8_nearestOf_55 (by decide) (fun b55 => ?_) (fun b55 => ?_)
      · skip
        refine g_iload dX8_nearestOf_73 rfl ?_
        refine g_istore7 dX8_nearestOf_75 rfl ?_
        refine g_iload dX8_nearestOf_77 rfl ?_
        refine g_iload dX8_nearestOf_79 rfl ?_
        refine g_icmp_ge 89 dX8_nearestOf_81 (by decide) (fun b81 => ?_) (fun b81 => ?_)
        · skip
          refine g_iload dX8_nearestOf_89 rfl ?_
          exact n_reti dX8_nearestOf_91 rfl (⟨by
        unfold nd
        first
          | (exfalso; omega)
          | (rw [if_pos (by omega)])
          | (rw [if_neg (by omega), if_pos (by omega)]; unfold mn; (repeat' split) <;> omega)
          | (rw [if_neg (by omega), if_neg (by omega)]; unfold mn; (repeat' split) <;> omega), rfl⟩)
        · skip
          refine g_iload dX8_nearestOf_84 rfl ?_
          refine g_goto 91 dX8_nearestOf_86 (by decide) ?_
          exact n_reti dX8_nearestOf_91 rfl (⟨by
        unfold nd
        first
          | (exfalso; omega)
          | (rw [if_pos (by omega)])
          | (rw [if_neg (by omega), if_pos (by omega)]; unfold mn; (repeat' split) <;> omega)
          | (rw [if_neg (by omega), if_neg (by omega)]; unfold mn; (repeat' split) <;> omega), rfl⟩)
      · skip
        refine g_aload_n (i := 0) dX8_nearestOf_58 rfl rfl ?_
        refine g_getP dX8_nearestOf_59 fl8_46 (by first | rfl | assumption) (by first | decide | (show _ < 62; omega)) (by first | rfl | assumption) ?_
        refine g_bipush dX8_nearestOf_62 (by decide) ?_
        refine g_iload_n (i := 1) dX8_nearestOf_64 rfl rfl ?_
        refine g_imul dX8_nearestOf_65 ?_
        refine g_iload dX8_nearestOf_66 rfl ?_
        refine g_iadd dX8_nearestOf_68 ?_
        refine g_iaload dX8_nearestOf_69 rfl (by decide) ?_
        rw [hl i e i0 i1 (by omega) (by omega), ds_comm wd N kd i e]
        have hb3 := hM0.bd (kd := kd) (show 0 ≤ e by omega) (show e < n by omega) i0 i1
        skip -- ?_
        refine g_goto 75 dX8_nearestOf_70 (by decide) ?_
        refine g_istore7 dX8_nearestOf_75 rfl ?_
        refine g_iload dX8_nearestOf_77 rfl ?_
        refine g_iload dX8_nearestOf_79 rfl ?_
        refine g_icmp_ge 89 dX8_nearestOf_81 (by decide) (fun b81 => ?_) (fun b81 => ?_)
        · skip
          refine g_iload dX8_nearestOf_89 rfl ?_
          exact n_reti dX8_nearestOf_91 rfl (⟨by
        unfold nd
        first
          | (exfalso; omega)
          | (rw [if_pos (by omega)])
          | (rw [if_neg (by omega), if_pos (by omega)]; unfold mn; (repeat' split) <;> omega)
          | (rw [if_neg (by omega), if_neg (by omega)]; unfold mn; (repeat' split) <;> omega), rfl⟩)
        · skip
          refine g_iload dX8_nearestOf_84 rfl ?_
          refine g_goto 91 dX8_nearestOf_86 (by decide) ?_
          exact n_reti dX8_nearestOf_91 rfl (⟨by
        unfold nd
        first
          | (exfalso; omega)
          | (rw [if_pos (by omega)])
          | (rw [if_neg (by omega), if_pos (by omega)]; unfold mn; (repeat' split) <;> omega)
          | (rw [if_neg (by omega), if_neg (by omega)]; unfold mn; (repeat' split) <;> omega), rfl⟩)
    · skip
      refine g_iload dX8_nearestOf_44 rfl ?_
      refine g_goto 51 dX8_nearestOf_46 (by decide) ?_
      refine g_istore6 dX8_nearestOf_51 rfl ?_
      refine g_iload_n (i := 2) dX8_nearestOf_53 rfl rfl ?_
      refine g_iconst dX8_nearestOf_54 ?_
      refine g_icmp_le 73 dX8_nearestOf_55 (by decide) (fun b55 => ?_) (fun b55 => ?_)
      · skip
        refine g_iload dX8_nearestOf_73 rfl ?_
        refine g_istore7 dX8_nearestOf_75 rfl ?_
        refine g_iload dX8_nearestOf_77 rfl ?_
        refine g_iload dX8_nearestOf_79 rfl ?_
        refine g_icmp_ge 89 dX8_nearestOf_81 (by decide) (fun b81 => ?_) (fun b81 => ?_)
        · skip
          refine g_iload dX8_nearestOf_89 rfl ?_
          exact n_reti dX8_nearestOf_91 rfl (⟨by
        unfold nd
        first
          | (exfalso; omega)
          | (rw [if_pos (by omega)])
          | (rw [if_neg (by omega), if_pos (by omega)]; unfold mn; (repeat' split) <;> omega)
          | (rw [if_neg (by omega), if_neg (by omega)]; unfold mn; (repeat' split) <;> omega), rfl⟩)
        · skip
          refine g_iload dX8_nearestOf_84 rfl ?_
          refine g_goto 91 dX8_nearestOf_86 (by decide) ?_
          exact n_reti dX8_nearestOf_91 rfl (⟨by
        unfold nd
        first
          | (exfalso; omega)
          | (rw [if_pos (by omega)])
          | (rw [if_neg (by omega), if_pos (by omega)]; unfold mn; (repeat' split) <;> omega)
          | (rw [if_neg (by omega), if_neg (by omega)]; unfold mn; (repeat' split) <;> omega), rfl⟩)
      · skip
        refine g_aload_n (i := 0) dX8_nearestOf_58 rfl rfl ?_
        refine g_getP dX8_nearestOf_59 fl8_46 (by first | rfl | assumption) (by first | decide | (show _ < 62; omega)) (by first | rfl | assumption) ?_
        refine g_bipush dX8_nearestOf_62 (by decide) ?_
        refine g_iload_n (i := 1) dX8_nearestOf_64 rfl rfl ?_
        refine g_imul dX8_nearestOf_65 ?_
        refine g_iload dX8_nearestOf_66 rfl ?_
        refine g_iadd dX8_nearestOf_68 ?_
        refine g_iaload dX8_nearestOf_69 rfl (by decide) ?_
        rw [hl i e i0 i1 (by omega) (by omega), ds_comm wd N kd i e]
        have hb3 := hM0.bd (kd := kd) (show 0 ≤ e by omega) (show e < n by omega) i0 i1
        skip -- ?_
        refine g_goto 75 dX8_nearestOf_70 (by decide) ?_
        refine g_istore7 dX8_nearestOf_75 rfl ?_
        refine g_iload dX8_nearestOf_77 rfl ?_
        refine g_iload dX8_nearestOf_79 rfl ?_
        refine g_icmp_ge 89 dX8_nearestOf_81 (by decide) (fun b81 => ?_) (fun b81 => ?_)
        · skip
          refine g_iload dX8_nearestOf_89 rfl ?_
          exact n_reti dX8_nearestOf_91 rfl (⟨by
        unfold nd
        first
          | (exfalso; omega)
          | (rw [if_pos (by omega)])
          | (rw [if_neg (by omega), if_pos (by omega)]; unfold mn; (repeat' split) <;> omega)
          | (rw [if_neg (by omega), if_neg (by omega)]; unfold mn; (repeat' split) <;> omega), rfl⟩)
        · skip
          refine g_iload dX8_nearestOf_84 rfl ?_
          refine g_goto 91 dX8_nearestOf_86 (by decide) ?_
          exact n_reti dX8_nearestOf_91 rfl (⟨by
        unfold nd
        first
          | (exfalso; omega)
          | (rw [if_pos (by omega)])
          | (rw [if_neg (by omega), if_pos (by omega)]; unfold mn; (repeat' split) <;> omega)
          | (rw [if_neg (by omega), if_neg (by omega)]; unfold mn; (repeat' split) <;> omega), rfl⟩)
set_option maxHeartbeats 4000000 in
set_option maxRecDepth 100000 in
theorem k_X8_sumOf (c : qC) (n wd kd k : Int) (N : Int → Int → Int) (hM : Md c n wd N) (k0 : 1 ≤ k ∧ k ≤ 3) (hl : ∀ i j, 0 ≤ i → i < n → 0 ≤ j → j < n → c 50 (30 * i + j) = (ds wd N kd) i j) (a b e : Int) (hV : Vd k n a b e) : qN X8_sumOf 1 [qP 39, qI k, qI a, qI b, qI e] c (pI (fun z c' => z = co (ds wd N kd) n k a b e ∧ c' = c)) := by
  have hM0 := hM
  obtain ⟨t1, t2, t3, t4, t5, t6⟩ := hM
  refine qN.of [some (qP 39), some (qI k), some (qI a), some (qI b), some (qI e), none, none] (by decide) rfl (fun _ => rfl) (fun _ => Nat.le_of_ble_eq_true rfl) ?_
  refine g_iconst dX8_sumOf_0 ?_
  refine g_istore5 dX8_sumOf_1 rfl ?_
  refine g_iconst dX8_sumOf_3 ?_
  refine g_istore6 dX8_sumOf_4 rfl ?_
  have L6 : ∀ (fu6 : Nat) (u i : Int), (n - i).toNat < fu6 → (0 ≤ i) → (i ≤ n) → (u = sI (nd (ds wd N kd) k a b e) i) → qG (qYn X8_sumOf 1 (pI (fun z c' => z = co (ds wd N kd) n k a b e ∧ c' = c))) wN 6 [some (qP 39), some (qI k), some (qI a), some (qI b), some (qI e), some (qI u), some (qI i)] [] c := by
    intro fu6
    induction fu6 with
    | zero => intro u i hm; exact absurd hm (Nat.not_lt_zero _)
    | succ fu6 ih6 =>
      intro u i hm6 i0 i1 ha
      refine g_iload dX8_sumOf_6 rfl ?_
      refine g_aload_n (i := 0) dX8_sumOf_8 rfl rfl ?_
      refine g_getI (ji := 0) dX8_sumOf_9 fl8_82 (by first | rfl | assumption) (by first | decide | (show _ < 62; omega)) (by first | rfl | assumption) (by decide) rfl (by first | assumption | rfl) ?_
      refine g_icmp_ge 37 dX8_sumOf_12 (by decide) (fun b12 => ?_) (fun b12 => ?_)
      · skip
        refine g_iload dX8_sumOf_37 rfl ?_
        exact n_reti dX8_sumOf_39 rfl (⟨by rw [ha, show i = n by omega]; rfl, rfl⟩)
      · skip
        refine g_iload dX8_sumOf_15 rfl ?_
        refine g_aload_n (i := 0) dX8_sumOf_17 rfl rfl ?_
        refine g_iload dX8_sumOf_18 rfl ?_
        refine g_iload_n (i := 1) dX8_sumOf_20 rfl rfl ?_
        refine g_iload_n (i := 2) dX8_sumOf_21 rfl rfl ?_
        refine g_iload_n (i := 3) dX8_sumOf_22 rfl rfl ?_
        refine g_iload dX8_sumOf_23 rfl ?_
        refine n_callVi (k_X8_nearestOf _ n wd kd k N hM0 k0 hl _ _ _ _ (by omega) (by omega) hV) dX8_sumOf_25 lk8_143 im_X8_nearestOf (by first | rfl | assumption) (by first | decide | (show _ < 62; omega)) rfl rfl rfl rfl (Nat.le_of_ble_eq_true rfl) (fun z c' hz => ?_)
        obtain ⟨rfl, hz2⟩ := hz
        have hz2 := hz2.symm
        subst hz2
        refine g_iadd dX8_sumOf_28 ?_
        refine g_istore5 dX8_sumOf_29 rfl ?_
        refine g_iinc6 dX8_sumOf_31 rfl ?_
        refine g_goto 6 dX8_sumOf_34 (by decide) ?_
        exact ih6 _ _ (by omega) (by first | assumption | omega) (by first | assumption | omega) (by rw [sI_s i0, ha])
  exact L6 _ _ _ (Nat.lt_succ_self _) (by first | assumption | omega) (by first | assumption | omega) rfl
set_option maxHeartbeats 4000000 in
set_option maxRecDepth 100000 in
theorem k_X8_medoids (c : qC) (n wd : Int) (N : Int → Int → Int) (S : Sl) (mm : Int) (md : Int → Int) (T : Tr) (hS : TS c n wd N S mm md T) (s kd k : Int) (s0 : iR s) (d0 : iR kd) (k0 : iR k) : qN X8_medoids 2 [qP 39, qI s, qI kd, qI k] c (pI (fun z c' => z = a_mds n wd N s kd k ∧ TS c' n wd N (s_mds n wd N S s kd k) (m_mds n mm s kd k) (d_mds n wd N md s kd k) T ∧ FrT c c')) := by
  have hS0 := hS
  obtain ⟨hM, hSl, hMd, hTr⟩ := hS
  have hM0 := hM
  obtain ⟨t1, t2, t3, t4, t5, t6⟩ := hM
  have hD : Db (ds wd N kd) n := fun i j i0 i1 j0 j1 => hM0.bd (kd := kd) i0 i1 j0 j1
  refine qN.of [some (qP 39), some (qI s), some (qI kd), some (qI k), none, none, none, none, none] (by decide) rfl (fun _ => rfl) (fun _ => Nat.le_of_ble_eq_true rfl) ?_
  refine g_iload_n (i := 1) dX8_medoids_0 rfl rfl ?_
  refine g_iconst dX8_medoids_1 ?_
  refine g_iconst dX8_medoids_2 ?_
  refine n_callSi (k_X8_within _ _ _ _ (by omega) (by omega) (by omega)) dX8_medoids_3 lk8_85 sm_X8_within rfl rfl rfl (Nat.le_of_ble_eq_true rfl) (fun z c' hz => ?_)
  obtain ⟨hz2, hz⟩ := hz
  have hz2 := hz2.symm
  subst hz2
  refine g_if_eq 27 dX8_medoids_6 (by decide) (fun b6 => ?_) (fun b6 => ?_)
  · skip
    refine g_ldc (z := -2000000002) dX8_medoids_27 cw8_96 ?_
    exact n_reti dX8_medoids_29 rfl (by unfold a_mds s_mds m_mds d_mds; rw [if_neg (show ¬ ((0 ≤ s ∧ s ≤ 1) ∧ (0 ≤ kd ∧ kd ≤ 2) ∧ 1 ≤ k ∧ k ≤ 3) by omega), if_neg (show ¬ ((0 ≤ s ∧ s ≤ 1) ∧ (0 ≤ kd ∧ kd ≤ 2) ∧ 1 ≤ k ∧ k ≤ 3) by omega), if_neg (show ¬ ((0 ≤ s ∧ s ≤ 1) ∧ (0 ≤ kd ∧ kd ≤ 2) ∧ 1 ≤ k ∧ k ≤ 3) by omega), if_neg (show ¬ ((0 ≤ s ∧ s ≤ 1) ∧ (0 ≤ kd ∧ kd ≤ 2) ∧ 1 ≤ k ∧ k ≤ 3) by omega)]; exact ⟨rfl, hS0, FrT.rf c⟩)
  · skip
    refine g_iload_n (i := 2) dX8_medoids_9 rfl rfl ?_
    refine g_iconst dX8_medoids_10 ?_
    refine g_iconst dX8_medoids_11 ?_
    refine n_callSi (k_X8_within _ _ _ _ (by omega) (by omega) (by omega)) dX8_medoids_12 lk8_85 sm_X8_within rfl rfl rfl (Nat.le_of_ble_eq_true rfl) (fun z c' hz => ?_)
    obtain ⟨hz2, hz⟩ := hz
    have hz2 := hz2.symm
    subst hz2
    refine g_if_eq 27 dX8_medoids_15 (by decide) (fun b15 => ?_) (fun b15 => ?_)
    · skip
      refine g_ldc (z := -2000000002) dX8_medoids_27 cw8_96 ?_
      exact n_reti dX8_medoids_29 rfl (by unfold a_mds s_mds m_mds d_mds; rw [if_neg (show ¬ ((0 ≤ s ∧ s ≤ 1) ∧ (0 ≤ kd ∧ kd ≤ 2) ∧ 1 ≤ k ∧ k ≤ 3) by omega), if_neg (show ¬ ((0 ≤ s ∧ s ≤ 1) ∧ (0 ≤ kd ∧ kd ≤ 2) ∧ 1 ≤ k ∧ k ≤ 3) by omega), if_neg (show ¬ ((0 ≤ s ∧ s ≤ 1) ∧ (0 ≤ kd ∧ kd ≤ 2) ∧ 1 ≤ k ∧ k ≤ 3) by omega), if_neg (show ¬ ((0 ≤ s ∧ s ≤ 1) ∧ (0 ≤ kd ∧ kd ≤ 2) ∧ 1 ≤ k ∧ k ≤ 3) by omega)]; exact ⟨rfl, hS0, FrT.rf c⟩)
    · skip
      refine g_iload_n (i := 3) dX8_medoids_18 rfl rfl ?_
      refine g_iconst dX8_medoids_19 ?_
      refine g_iconst dX8_medoids_20 ?_
      refine n_callSi (k_X8_within _ _ _ _ (by omega) (by omega) (by omega)) dX8_medoids_21 lk8_85 sm_X8_within rfl rfl rfl (Nat.le_of_ble_eq_true rfl) (fun z c' hz => ?_)
      obtain ⟨hz2, hz⟩ := hz
      have hz2 := hz2.symm
      subst hz2
      refine g_if_ne 30 dX8_medoids_24 (by decide) (fun b24 => ?_) (fun b24 => ?_)
      · skip
        refine g_aload_n (i := 0) dX8_medoids_30 rfl rfl ?_
        refine g_getI (ji := 0) dX8_medoids_31 fl8_82 (by first | rfl | assumption) (by first | decide | (show _ < 62; omega)) (by first | rfl | assumption) (by decide) rfl (by first | assumption | rfl) ?_
        refine g_iload_n (i := 3) dX8_medoids_34 rfl rfl ?_
        refine g_icmp_ge 41 dX8_medoids_35 (by decide) (fun b35 => ?_) (fun b35 => ?_)
        · skip
          have hok : (0 ≤ s ∧ s ≤ 1) ∧ (0 ≤ kd ∧ kd ≤ 2) ∧ 1 ≤ k ∧ k ≤ 3 := by omega
          refine g_aload_n (i := 0) dX8_medoids_41 rfl rfl ?_
          refine g_iload_n (i := 2) dX8_medoids_42 rfl rfl ?_
          refine n_callVv (k_X8_lay _ _ _ _ _ (by assumption) (by omega) (by omega)) dX8_medoids_43 lk8_114 im_X8_lay (by first | rfl | assumption) (by first | decide | (show _ < 62; omega)) rfl rfl rfl rfl (Nat.le_of_ble_eq_true rfl) (fun c' hz => ?_)
          obtain ⟨hf, hl⟩ := hz
          refine g_iconst dX8_medoids_46 ?_
          refine g_istore4 dX8_medoids_47 rfl ?_
          refine g_iconst dX8_medoids_49 ?_
          refine g_istore5 dX8_medoids_50 rfl ?_
          have L52 : ∀ (fu52 : Nat) (t a : Int) (c1 : qC), (n - a).toNat < fu52 → (0 ≤ a) → (a ≤ n) → (∀ q, q ≠ 44 → q ≠ 50 → c1 q = c q) → (∀ i j, 0 ≤ i → i < n → 0 ≤ j → j < n → c1 50 (30 * i + j) = (ds wd N kd) i j) → (BB (ds wd N kd) n k (900 * a) (-1) t (c1 44 0) (c1 44 1) (c1 44 2)) → qG (qYn X8_medoids 2 (pI (fun z c' => z = a_mds n wd N s kd k ∧ TS c' n wd N (s_mds n wd N S s kd k) (m_mds n mm s kd k) (d_mds n wd N md s kd k) T ∧ FrT c c'))) wN 52 [some (qP 39), some (qI s), some (qI kd), some (qI k), some (qI t), some (qI a), none, none, none] [] c1 := by
            intro fu52
            induction fu52 with
            | zero => intro t a c1 hm; exact absurd hm (Nat.not_lt_zero _)
            | succ fu52 ih52 =>
              intro t a c1 hm52 a0 a1 ff hl hB
              have e1 : c1 39 0 = n := by rw [ff 39 (by decide) (by decide)]; exact t1
              have hM1 : Md c1 n wd N := hM0.fr (by rw [ff 39 (by decide) (by decide)]) (by rw [ff 39 (by decide) (by decide)]) (ff 40 (by decide) (by decide))
              refine g_iload dX8_medoids_52 rfl ?_
              refine g_aload_n (i := 0) dX8_medoids_54 rfl rfl ?_
              refine g_getI (ji := 0) dX8_medoids_55 fl8_82 (by first | rfl | assumption) (by first | decide | (show _ < 62; omega)) (by first | rfl | assumption) (by decide) rfl (by first | assumption | rfl) ?_
              refine g_icmp_ge 191 dX8_medoids_58 (by decide) (fun b58 => ?_) (fun b58 => ?_)
              · skip
                rw [show a = n by omega] at hB
                have w3 := BB.en (by omega) (by omega) hB
                have w4 := bp_eq t3.2 (by omega) w3
                rw [show t = (bp (ds wd N kd) n k).1 by rw [w4]]
                have hmb : ∀ i, 0 ≤ i → i < k → c1 44 i = mdB (ds wd N kd) n k i ∧ 0 ≤ mdB (ds wd N kd) n k i ∧ mdB (ds wd N kd) n k i < n := fun i i0 i1 => by
                  have hV := w3.1
                  unfold mdB
                  rw [w4]
                  unfold mdF Vd at *
                  dsimp only
                  obtain rfl | rfl | rfl : i = 0 ∨ i = 1 ∨ i = 2 := by omega
                  · rw [if_pos rfl]; omega
                  · rw [if_neg (by decide), if_pos rfl]; omega
                  · rw [if_neg (by decide), if_neg (by decide)]; omega
                refine g_aload_n (i := 0) dX8_medoids_191 rfl rfl ?_
                refine g_iload_n (i := 3) dX8_medoids_192 rfl rfl ?_
                refine g_putI 6 dX8_medoids_193 fl8_89 fw8_6 (by first | rfl | assumption) (by first | decide | (show _ < 62; omega)) (by first | rfl | assumption) (by decide) rfl ?_
                refine g_iconst dX8_medoids_196 ?_
                refine g_istore5 dX8_medoids_197 rfl ?_
                have L199 : ∀ (fu199 : Nat) (i : Int) (c4 : qC), (n - i).toNat < fu199 → (0 ≤ i) → (i ≤ n) → (∀ q, q ≠ 43 → c4 q = qu c1 39 6 k q) → (∀ r, 0 ≤ r → r < i → c4 43 (30 * s + r) = nm (ds wd N kd) (mdB (ds wd N kd) n k) r (k - 1).toNat) → (∀ t r, 0 ≤ t → t ≤ 1 → ¬ t = s → 0 ≤ r → r < n → c4 43 (30 * t + r) = c1 43 (30 * t + r)) → qG (qYn X8_medoids 2 (pI (fun z c' => z = a_mds n wd N s kd k ∧ TS c' n wd N (s_mds n wd N S s kd k) (m_mds n mm s kd k) (d_mds n wd N md s kd k) T ∧ FrT c c'))) wN 199 [some (qP 39), some (qI s), some (qI kd), some (qI k), some (qI (bp (ds wd N kd) n k).1), some (qI i), none, none, none] [] c4 := by
                  intro fu199
                  induction fu199 with
                  | zero => intro i c4 hm; exact absurd hm (Nat.not_lt_zero _)
                  | succ fu199 ih199 =>
                    intro i c4 hm199 i0 i1 ff4 h43 h43o
                    have e4 : c4 39 0 = n := by rw [ff4 39 (by decide), qu_off (by decide)]; exact e1
                    refine g_iload dX8_medoids_199 rfl ?_
                    refine g_aload_n (i := 0) dX8_medoids_201 rfl rfl ?_
                    refine g_getI (ji := 0) dX8_medoids_202 fl8_82 (by first | rfl | assumption) (by first | decide | (show _ < 62; omega)) (by first | rfl | assumption) (by decide) rfl (by first | assumption | rfl) ?_
                    refine g_icmp_ge 286 dX8_medoids_205 (by decide) (fun b205 => ?_) (fun b205 => ?_)
                    · skip
                      refine g_aload_n (i := 0) dX8_medoids_286 rfl rfl ?_
                      refine g_getP dX8_medoids_287 fl8_21 (by first | rfl | assumption) (by first | decide | (show _ < 62; omega)) (by first | rfl | assumption) ?_
                      refine g_iload_n (i := 1) dX8_medoids_290 rfl rfl ?_
                      refine g_iload_n (i := 3) dX8_medoids_291 rfl rfl ?_
                      refine g_iastore dX8_medoids_292 (by first | rfl | assumption) (by first | decide | (show _ < 62; omega)) ?_
                      refine g_aload_n (i := 0) dX8_medoids_293 rfl rfl ?_
                      refine g_getP dX8_medoids_294 fl8_17 (by first | rfl | assumption) (by first | decide | (show _ < 62; omega)) (by first | rfl | assumption) ?_
                      refine g_iload_n (i := 1) dX8_medoids_297 rfl rfl ?_
                      refine g_iconst dX8_medoids_298 ?_
                      refine g_bastore dX8_medoids_299 (by first | rfl | assumption) (by first | decide | (show _ < 62; omega)) (by first | exact Or.inl rfl | exact Or.inr rfl | omega) ?_
                      refine g_iload dX8_medoids_300 rfl ?_
                      exact n_reti dX8_medoids_302 rfl (by
        unfold a_mds s_mds m_mds d_mds; rw [if_pos hok, if_pos hok, if_pos hok, if_pos hok, if_neg (show ¬ n < k by omega), if_neg (show ¬ n < k by omega), if_neg (show ¬ n < k by omega), if_neg (show ¬ n < k by omega)]
        have hS1 : TS (qu c1 39 6 k) n wd N S k (mdB (ds wd N kd) n k) T := hS0.md (fun q q0 q1 q2 => by rw [qu_ne (by omega)]; exact ff q q2 (by omega)) (fun i hi => by rw [qu_off hi, ff 39 (by decide) (by decide)]) (by rw [qu_eq]) (by omega) (fun i i0 i1 => (hmb i i0 i1).1)
        refine ⟨rfl, hS1.sup (by omega) (by omega) ?_ ?_ ?_ ?_ ?_, ?_⟩
        · show (fun b => if b = s then 1 else c4 41 b) = fun b => if b = s then 1 else c1 41 b
          rw [ff4 41 (by decide)]; rfl
        · show (fun b => if b = s then k else c4 42 b) = fun b => if b = s then k else c1 42 b
          rw [ff4 42 (by decide)]; rfl
        · intro r q0 q1
          have := nm_bd (D := (ds wd N kd)) (md := mdB (ds wd N kd) n k) (r := r) (k - 1).toNat
          exact ⟨h43 r q0 (by omega), by omega, by omega⟩
        · exact h43o
        · intro q q0 q1 q2 q3 q4
          rw [qu_ne q2, qu_ne q3]; exact ff4 q q4
        · intro q hq
          rw [qu_ne (by omega), qu_ne (by omega), ff4 q (by omega), qu_ne (by omega)]
          exact ff q (by omega) (by omega))
                    · skip
                      have hM4 : Md c4 n wd N := hM1.fr (by rw [ff4 39 (by decide), qu_off (by decide)]) (by rw [ff4 39 (by decide), qu_off (by decide)]) (by rw [ff4 40 (by decide)]; rfl)
                      have hm4 : ∀ i, 0 ≤ i → i < k → c4 44 i = mdB (ds wd N kd) n k i ∧ 0 ≤ mdB (ds wd N kd) n k i ∧ mdB (ds wd N kd) n k i < n := fun i i0 i1 => by rw [ff4 44 (by decide)]; exact hmb i i0 i1
                      refine g_iconst dX8_medoids_208 ?_
                      refine g_istore6 dX8_medoids_209 rfl ?_
                      refine g_iconst dX8_medoids_211 ?_
                      refine g_istore7 dX8_medoids_212 rfl ?_
                      have L214 : ∀ (fu214 : Nat) (g h : Int), (k - h).toNat < fu214 → (1 ≤ h) → (h ≤ k) → (g = nm (ds wd N kd) (mdB (ds wd N kd) n k) i (h - 1).toNat) → qG (qYn X8_medoids 2 (pI (fun z c' => z = a_mds n wd N s kd k ∧ TS c' n wd N (s_mds n wd N S s kd k) (m_mds n mm s kd k) (d_mds n wd N md s kd k) T ∧ FrT c c'))) wN 214 [some (qP 39), some (qI s), some (qI kd), some (qI k), some (qI (bp (ds wd N kd) n k).1), some (qI i), some (qI g), some (qI h), none] [] c4 := by
                        intro fu214
                        induction fu214 with
                        | zero => intro g h hm; exact absurd hm (Nat.not_lt_zero _)
                        | succ fu214 ih214 =>
                          intro g h hm214 h0 h1 hg5
                          have hnb := nm_bd (D := (ds wd N kd)) (md := mdB (ds wd N kd) n k) (r := i) (h - 1).toNat
                          rw [← hg5] at hnb
                          have hgg := hg5
                          refine g_iload dX8_medoids_214 rfl ?_
                          refine g_iload_n (i := 3) dX8_medoids_216 rfl rfl ?_
                          refine g_icmp_ge 266 dX8_medoids_217 (by decide) (fun b217 => ?_) (fun b217 => ?_)
                          · skip
                            refine g_aload_n (i := 0) dX8_medoids_266 rfl rfl ?_
                            refine g_getP dX8_medoids_267 fl8_24 (by first | rfl | assumption) (by first | decide | (show _ < 62; omega)) (by first | rfl | assumption) ?_
                            refine g_bipush dX8_medoids_270 (by decide) ?_
                            refine g_iload_n (i := 1) dX8_medoids_272 rfl rfl ?_
                            refine g_imul dX8_medoids_273 ?_
                            refine g_iload dX8_medoids_274 rfl ?_
                            refine g_iadd dX8_medoids_276 ?_
                            refine g_iload dX8_medoids_277 rfl ?_
                            refine g_iastore dX8_medoids_279 (by first | rfl | assumption) (by first | decide | (show _ < 62; omega)) ?_
                            refine g_iinc5 dX8_medoids_280 rfl ?_
                            refine g_goto 199 dX8_medoids_283 (by decide) ?_
                            refine g_fg6 ?_
                            refine g_fg7 ?_
                            exact ih199 _ _ (by omega) (by first | assumption | omega) (by first | assumption | omega) (fun q hq => by rw [qu_ne hq]; exact ff4 q hq) (fun r q0 q1 => by
          rw [qu_at]; split
          · rename_i hh; rw [hg5, show r = i by omega, show h = k by omega]
          · exact h43 r q0 (by omega)) (fun t r t0 t1 t2 q0 q1 => by rw [qu_off (by omega)]; exact h43o t r t0 t1 t2 q0 q1)
                          · skip
                            have J258 : ∀ (g : Int), (g = nm (ds wd N kd) (mdB (ds wd N kd) n k) i (h + 1 - 1).toNat) → qG (qYn X8_medoids 2 (pI (fun z c' => z = a_mds n wd N s kd k ∧ TS c' n wd N (s_mds n wd N S s kd k) (m_mds n mm s kd k) (d_mds n wd N md s kd k) T ∧ FrT c c'))) wN 258 [some (qP 39), some (qI s), some (qI kd), some (qI k), some (qI (bp (ds wd N kd) n k).1), some (qI i), none, some (qI h), none] [qI g] c4 := by
                              intro g hg0
                              refine g_istore6 dX8_medoids_258 rfl ?_
                              refine g_iinc7 dX8_medoids_260 rfl ?_
                              refine g_goto 214 dX8_medoids_263 (by decide) ?_
                              exact ih214 _ _ (by omega) (by first | assumption | omega) (by first | assumption | omega) hg0
                            refine g_aload_n (i := 0) dX8_medoids_220 rfl rfl ?_
                            refine g_iload_n (i := 2) dX8_medoids_221 rfl rfl ?_
                            refine g_iload dX8_medoids_222 rfl ?_
                            refine g_aload_n (i := 0) dX8_medoids_224 rfl rfl ?_
                            refine g_getP dX8_medoids_225 fl8_27 (by first | rfl | assumption) (by first | decide | (show _ < 62; omega)) (by first | rfl | assumption) ?_
                            refine g_iload dX8_medoids_228 rfl ?_
                            refine g_iaload dX8_medoids_230 rfl (by decide) ?_
                            rw [(hm4 h (by omega) (by omega)).1]
                            have hm41 := hm4 h (by omega) (by omega)
                            skip -- ?_
                            refine n_callVi (k_X8_apart _ n wd kd _ _ N hM4 (by omega) (by omega) (by omega) (by omega) (by omega) (by omega)) dX8_medoids_231 lk8_105 im_X8_apart (by first | rfl | assumption) (by first | decide | (show _ < 62; omega)) rfl rfl rfl rfl (Nat.le_of_ble_eq_true rfl) (fun z c' hz => ?_)
                            obtain ⟨rfl, hz2⟩ := hz
                            have hz2 := hz2.symm
                            subst hz2
                            rw [ds_comm]
                            have hab := hD (mdB (ds wd N kd) n k h) i (by omega) (by omega) i0 (by omega)
                            refine g_aload_n (i := 0) dX8_medoids_234 rfl rfl ?_
                            refine g_iload_n (i := 2) dX8_medoids_235 rfl rfl ?_
                            refine g_iload dX8_medoids_236 rfl ?_
                            refine g_aload_n (i := 0) dX8_medoids_238 rfl rfl ?_
                            refine g_getP dX8_medoids_239 fl8_27 (by first | rfl | assumption) (by first | decide | (show _ < 62; omega)) (by first | rfl | assumption) ?_
                            refine g_iload dX8_medoids_242 rfl ?_
                            refine g_iaload dX8_medoids_244 rfl (by decide) ?_
                            rw [(hm4 g (by omega) (by omega)).1]
                            have hm42 := hm4 g (by omega) (by omega)
                            skip -- ?_
                            refine n_callVi (k_X8_apart _ n wd kd _ _ N hM4 (by omega) (by omega) (by omega) (by omega) (by omega) (by omega)) dX8_medoids_245 lk8_105 im_X8_apart (by first | rfl | assumption) (by first | decide | (show _ < 62; omega)) rfl rfl rfl rfl (Nat.le_of_ble_eq_true rfl) (fun z c' hz => ?_)
                            obtain ⟨rfl, hz2⟩ := hz
                            have hz2 := hz2.symm
                            subst hz2
                            rw [ds_comm wd N kd i (mdB (ds wd N kd) n k g)]
                            have hab2 := hD (mdB (ds wd N kd) n k g) i (by omega) (by omega) i0 (by omega)
                            refine g_icmp_ge 256 dX8_medoids_248 (by decide) (fun b248 => ?_) (fun b248 => ?_)
                            · skip
                              refine g_iload dX8_medoids_256 rfl ?_
                              refine g_fg6 ?_
                              exact J258 _ (by rw [nm_s h0, ← hgg]; first | (rw [if_pos (by omega)]) | (rw [if_neg (by omega)]))
                            · skip
                              refine g_iload dX8_medoids_251 rfl ?_
                              refine g_goto 258 dX8_medoids_253 (by decide) ?_
                              refine g_fg6 ?_
                              exact J258 _ (by rw [nm_s h0, ← hgg]; first | (rw [if_pos (by omega)]) | (rw [if_neg (by omega)]))
                      exact L214 _ _ _ (Nat.lt_succ_self _) (by first | assumption | omega) (by first | assumption | omega) rfl
                exact L199 _ _ _ (Nat.lt_succ_self _) (by first | assumption | omega) (by first | assumption | omega) (fun q _ => rfl) (fun r q0 q1 => by omega) (fun t r _ _ _ _ _ => rfl)
              · skip
                have J79 : ∀ (b : Int), ((k = 1 ∧ b = n - 1) ∨ (¬ k = 1 ∧ b = a + 1)) → qG (qYn X8_medoids 2 (pI (fun z c' => z = a_mds n wd N s kd k ∧ TS c' n wd N (s_mds n wd N S s kd k) (m_mds n mm s kd k) (d_mds n wd N md s kd k) T ∧ FrT c c'))) wN 79 [some (qP 39), some (qI s), some (qI kd), some (qI k), some (qI t), some (qI a), none, none, none] [qI b] c1 := by
                  intro b hb0
                  refine g_istore6 dX8_medoids_79 rfl ?_
                  have L81 : ∀ (fu81 : Nat) (t b : Int) (c2 : qC), (n - b).toNat < fu81 → ((k = 1 ∧ n - 1 ≤ b) ∨ (¬ k = 1 ∧ a + 1 ≤ b)) → (b ≤ n) → (∀ q, q ≠ 44 → q ≠ 50 → c2 q = c q) → (∀ i j, 0 ≤ i → i < n → 0 ≤ j → j < n → c2 50 (30 * i + j) = (ds wd N kd) i j) → (BB (ds wd N kd) n k (900 * a + 30 * b) (-1) t (c2 44 0) (c2 44 1) (c2 44 2)) → qG (qYn X8_medoids 2 (pI (fun z c' => z = a_mds n wd N s kd k ∧ TS c' n wd N (s_mds n wd N S s kd k) (m_mds n mm s kd k) (d_mds n wd N md s kd k) T ∧ FrT c c'))) wN 81 [some (qP 39), some (qI s), some (qI kd), some (qI k), some (qI t), some (qI a), some (qI b), none, none] [] c2 := by
                    intro fu81
                    induction fu81 with
                    | zero => intro t b c2 hm; exact absurd hm (Nat.not_lt_zero _)
                    | succ fu81 ih81 =>
                      intro t b c2 hm81 b0 b1 ff2 hl2 hB2
                      have e2 : c2 39 0 = n := by rw [ff2 39 (by decide) (by decide)]; exact t1
                      have hM2 : Md c2 n wd N := hM0.fr (by rw [ff2 39 (by decide) (by decide)]) (by rw [ff2 39 (by decide) (by decide)]) (ff2 40 (by decide) (by decide))
                      refine g_iload dX8_medoids_81 rfl ?_
                      refine g_aload_n (i := 0) dX8_medoids_83 rfl rfl ?_
                      refine g_getI (ji := 0) dX8_medoids_84 fl8_82 (by first | rfl | assumption) (by first | decide | (show _ < 62; omega)) (by first | rfl | assumption) (by decide) rfl (by first | assumption | rfl) ?_
                      refine g_icmp_ge 185 dX8_medoids_87 (by decide) (fun b87 => ?_) (fun b87 => ?_)
                      · skip
                        refine g_iinc5 dX8_medoids_185 rfl ?_
                        refine g_goto 52 dX8_medoids_188 (by decide) ?_
                        refine g_fg6 ?_
                        exact ih52 _ _ _ (by omega) (by first | assumption | omega) (by first | assumption | omega) ff2 hl2 (hB2.mv (by omega) (fun x y z hx q => by have hx2 := hx.b t3.2; unfold Vd at hx; rcases Int.lt_trichotomy x a with e | e | e <;> omega))
                      · skip
                        have J108 : ∀ (e : Int), ((¬ k = 3 ∧ e = n - 1) ∨ (k = 3 ∧ e = b + 1)) → qG (qYn X8_medoids 2 (pI (fun z c' => z = a_mds n wd N s kd k ∧ TS c' n wd N (s_mds n wd N S s kd k) (m_mds n mm s kd k) (d_mds n wd N md s kd k) T ∧ FrT c c'))) wN 108 [some (qP 39), some (qI s), some (qI kd), some (qI k), some (qI t), some (qI a), some (qI b), none, none] [qI e] c2 := by
                          intro e he0
                          refine g_istore7 dX8_medoids_108 rfl ?_
                          have L110 : ∀ (fu110 : Nat) (t e : Int) (c3 : qC), (n - e).toNat < fu110 → ((¬ k = 3 ∧ n - 1 ≤ e) ∨ (k = 3 ∧ b + 1 ≤ e)) → (e ≤ n) → (∀ q, q ≠ 44 → q ≠ 50 → c3 q = c q) → (∀ i j, 0 ≤ i → i < n → 0 ≤ j → j < n → c3 50 (30 * i + j) = (ds wd N kd) i j) → (BB (ds wd N kd) n k (900 * a + 30 * b + e) (-1) t (c3 44 0) (c3 44 1) (c3 44 2)) → qG (qYn X8_medoids 2 (pI (fun z c' => z = a_mds n wd N s kd k ∧ TS c' n wd N (s_mds n wd N S s kd k) (m_mds n mm s kd k) (d_mds n wd N md s kd k) T ∧ FrT c c'))) wN 110 [some (qP 39), some (qI s), some (qI kd), some (qI k), some (qI t), some (qI a), some (qI b), some (qI e), none] [] c3 := by
                            intro fu110
                            induction fu110 with
                            | zero => intro t e c3 hm; exact absurd hm (Nat.not_lt_zero _)
                            | succ fu110 ih110 =>
                              intro t e c3 hm110 e0 e1 ff3 hl3 hB3
                              have e3 : c3 39 0 = n := by rw [ff3 39 (by decide) (by decide)]; exact t1
                              have hM3 : Md c3 n wd N := hM0.fr (by rw [ff3 39 (by decide) (by decide)]) (by rw [ff3 39 (by decide) (by decide)]) (ff3 40 (by decide) (by decide))
                              refine g_iload dX8_medoids_110 rfl ?_
                              refine g_aload_n (i := 0) dX8_medoids_112 rfl rfl ?_
                              refine g_getI (ji := 0) dX8_medoids_113 fl8_82 (by first | rfl | assumption) (by first | decide | (show _ < 62; omega)) (by first | rfl | assumption) (by decide) rfl (by first | assumption | rfl) ?_
                              refine g_icmp_ge 179 dX8_medoids_116 (by decide) (fun b116 => ?_) (fun b116 => ?_)
                              · skip
                                refine g_iinc6 dX8_medoids_179 rfl ?_
                                refine g_goto 81 dX8_medoids_182 (by decide) ?_
                                refine g_fg7 ?_
                                exact ih81 _ _ _ (by omega) (by first | assumption | omega) (by first | assumption | omega) ff3 hl3 (hB3.mv (by omega) (fun x y z hx q => by have hx2 := hx.b t3.2; unfold Vd at hx; rcases Int.lt_trichotomy x a with e | e | e <;> first | omega | (rcases Int.lt_trichotomy y b with e2 | e2 | e2 <;> omega)))
                              · skip
                                have hV : Vd k n a b e := by unfold Vd; omega
                                have hcb := co_bd hD t3 (show 1 ≤ k ∧ k ≤ 3 by omega) hV
                                have htb : -1 ≤ t ∧ t ≤ 480000000 := by
                                  rcases hB3 with h | h
                                  · omega
                                  · have q1 := co_bd hD t3 (show 1 ≤ k ∧ k ≤ 3 by omega) h.1
                                    have q2 := h.2.2.1
                                    omega
                                refine g_aload_n (i := 0) dX8_medoids_119 rfl rfl ?_
                                refine g_iload_n (i := 3) dX8_medoids_120 rfl rfl ?_
                                refine g_iload dX8_medoids_121 rfl ?_
                                refine g_iload dX8_medoids_123 rfl ?_
                                refine g_iload dX8_medoids_125 rfl ?_
                                refine n_callVi (k_X8_sumOf _ n wd kd k N hM3 (by omega) hl3 _ _ _ hV) dX8_medoids_127 lk8_147 im_X8_sumOf (by first | rfl | assumption) (by first | decide | (show _ < 62; omega)) rfl rfl rfl rfl (Nat.le_of_ble_eq_true rfl) (fun z c' hz => ?_)
                                obtain ⟨rfl, hz2⟩ := hz
                                have hz2 := hz2.symm
                                subst hz2
                                refine g_istore8 dX8_medoids_130 rfl ?_
                                refine g_iload dX8_medoids_132 rfl ?_
                                refine g_iconst dX8_medoids_134 ?_
                                refine g_icmp_eq 145 dX8_medoids_135 (by decide) (fun b135 => ?_) (fun b135 => ?_)
                                · skip
                                  have hBnew : BB (ds wd N kd) n k (900 * a + 30 * b + (e + 1)) (-1) (co (ds wd N kd) n k a b e) ((qu (qu (qu c3 44 0 a) 44 1 b) 44 2 e) 44 0) ((qu (qu (qu c3 44 0 a) 44 1 b) 44 2 e) 44 1) ((qu (qu (qu c3 44 0 a) 44 1 b) 44 2 e) 44 2) := (hB3.nw t3 (by omega) hD (by omega) hV (fun x y z hx q => by have hx2 := hx.b t3.2; unfold Vd at hx; rcases Int.lt_trichotomy x a with e | e | e <;> first | omega | (rcases Int.lt_trichotomy y b with e2 | e2 | e2 <;> omega)) (by omega)).mv (by omega) (fun x y z hx q => by have hx2 := hx.b t3.2; unfold Vd at hx; rcases Int.lt_trichotomy x a with e | e | e <;> first | omega | (rcases Int.lt_trichotomy y b with e2 | e2 | e2 <;> omega))
                                  refine g_iload dX8_medoids_145 rfl ?_
                                  refine g_istore4 dX8_medoids_147 rfl ?_
                                  refine g_aload_n (i := 0) dX8_medoids_149 rfl rfl ?_
                                  refine g_getP dX8_medoids_150 fl8_27 (by first | rfl | assumption) (by first | decide | (show _ < 62; omega)) (by first | rfl | assumption) ?_
                                  refine g_iconst dX8_medoids_153 ?_
                                  refine g_iload dX8_medoids_154 rfl ?_
                                  refine g_iastore dX8_medoids_156 (by first | rfl | assumption) (by first | decide | (show _ < 62; omega)) ?_
                                  refine g_aload_n (i := 0) dX8_medoids_157 rfl rfl ?_
                                  refine g_getP dX8_medoids_158 fl8_27 (by first | rfl | assumption) (by first | decide | (show _ < 62; omega)) (by first | rfl | assumption) ?_
                                  refine g_iconst dX8_medoids_161 ?_
                                  refine g_iload dX8_medoids_162 rfl ?_
                                  refine g_iastore dX8_medoids_164 (by first | rfl | assumption) (by first | decide | (show _ < 62; omega)) ?_
                                  refine g_aload_n (i := 0) dX8_medoids_165 rfl rfl ?_
                                  refine g_getP dX8_medoids_166 fl8_27 (by first | rfl | assumption) (by first | decide | (show _ < 62; omega)) (by first | rfl | assumption) ?_
                                  refine g_iconst dX8_medoids_169 ?_
                                  refine g_iload dX8_medoids_170 rfl ?_
                                  refine g_iastore dX8_medoids_172 (by first | rfl | assumption) (by first | decide | (show _ < 62; omega)) ?_
                                  first
                                    | (have hBnew2 := hBnew)
                                    | (have hBold : BB (ds wd N kd) n k (900 * a + 30 * b + (e + 1)) (-1) t (c3 44 0) (c3 44 1) (c3 44 2) := (hB3.od t3 (by omega) hV (by omega) (fun x y z hx q => by have hx2 := hx.b t3.2; unfold Vd at hx; rcases Int.lt_trichotomy x a with e | e | e <;> first | omega | (rcases Int.lt_trichotomy y b with e2 | e2 | e2 <;> omega)) (by omega) (by omega)).mv (by omega) (fun x y z hx q => by have hx2 := hx.b t3.2; unfold Vd at hx; rcases Int.lt_trichotomy x a with e | e | e <;> first | omega | (rcases Int.lt_trichotomy y b with e2 | e2 | e2 <;> omega)))
                                  refine g_iinc7 dX8_medoids_173 rfl ?_
                                  refine g_goto 110 dX8_medoids_176 (by decide) ?_
                                  refine g_fg8 ?_
                                  exact ih110 _ _ _ (by omega) (by first | assumption | omega) (by first | assumption | omega) (by first | exact ff3 | exact fun q q1 q2 => by rw [qu_ne q1, qu_ne q1, qu_ne q1]; exact ff3 q q1 q2) (by first | exact hl3 | exact fun i j i0 i1 j0 j1 => hl3 i j i0 i1 j0 j1) (by first | exact hBnew | exact hBold)
                                · skip
                                  refine g_iload dX8_medoids_138 rfl ?_
                                  refine g_iload dX8_medoids_140 rfl ?_
                                  refine g_icmp_ge 173 dX8_medoids_142 (by decide) (fun b142 => ?_) (fun b142 => ?_)
                                  · skip
                                    first
                                      | (have hBnew2 := hBnew)
                                      | (have hBold : BB (ds wd N kd) n k (900 * a + 30 * b + (e + 1)) (-1) t (c3 44 0) (c3 44 1) (c3 44 2) := (hB3.od t3 (by omega) hV (by omega) (fun x y z hx q => by have hx2 := hx.b t3.2; unfold Vd at hx; rcases Int.lt_trichotomy x a with e | e | e <;> first | omega | (rcases Int.lt_trichotomy y b with e2 | e2 | e2 <;> omega)) (by omega) (by omega)).mv (by omega) (fun x y z hx q => by have hx2 := hx.b t3.2; unfold Vd at hx; rcases Int.lt_trichotomy x a with e | e | e <;> first | omega | (rcases Int.lt_trichotomy y b with e2 | e2 | e2 <;> omega)))
                                    refine g_iinc7 dX8_medoids_173 rfl ?_
                                    refine g_goto 110 dX8_medoids_176 (by decide) ?_
                                    refine g_fg8 ?_
                                    exact ih110 _ _ _ (by omega) (by first | assumption | omega) (by first | assumption | omega) (by first | exact ff3 | exact fun q q1 q2 => by rw [qu_ne q1, qu_ne q1, qu_ne q1]; exact ff3 q q1 q2) (by first | exact hl3 | exact fun i j i0 i1 j0 j1 => hl3 i j i0 i1 j0 j1) (by first | exact hBnew | exact hBold)
                                  · skip
                                    have hBnew : BB (ds wd N kd) n k (900 * a + 30 * b + (e + 1)) (-1) (co (ds wd N kd) n k a b e) ((qu (qu (qu c3 44 0 a) 44 1 b) 44 2 e) 44 0) ((qu (qu (qu c3 44 0 a) 44 1 b) 44 2 e) 44 1) ((qu (qu (qu c3 44 0 a) 44 1 b) 44 2 e) 44 2) := (hB3.nw t3 (by omega) hD (by omega) hV (fun x y z hx q => by have hx2 := hx.b t3.2; unfold Vd at hx; rcases Int.lt_trichotomy x a with e | e | e <;> first | omega | (rcases Int.lt_trichotomy y b with e2 | e2 | e2 <;> omega)) (by omega)).mv (by omega) (fun x y z hx q => by have hx2 := hx.b t3.2; unfold Vd at hx; rcases Int.lt_trichotomy x a with e | e | e <;> first | omega | (rcases Int.lt_trichotomy y b with e2 | e2 | e2 <;> omega))
                                    refine g_iload dX8_medoids_145 rfl ?_
                                    refine g_istore4 dX8_medoids_147 rfl ?_
                                    refine g_aload_n (i := 0) dX8_medoids_149 rfl rfl ?_
                                    refine g_getP dX8_medoids_150 fl8_27 (by first | rfl | assumption) (by first | decide | (show _ < 62; omega)) (by first | rfl | assumption) ?_
                                    refine g_iconst dX8_medoids_153 ?_
                                    refine g_iload dX8_medoids_154 rfl ?_
                                    refine g_iastore dX8_medoids_156 (by first | rfl | assumption) (by first | decide | (show _ < 62; omega)) ?_
                                    refine g_aload_n (i := 0) dX8_medoids_157 rfl rfl ?_
                                    refine g_getP dX8_medoids_158 fl8_27 (by first | rfl | assumption) (by first | decide | (show _ < 62; omega)) (by first | rfl | assumption) ?_
                                    refine g_iconst dX8_medoids_161 ?_
                                    refine g_iload dX8_medoids_162 rfl ?_
                                    refine g_iastore dX8_medoids_164 (by first | rfl | assumption) (by first | decide | (show _ < 62; omega)) ?_
                                    refine g_aload_n (i := 0) dX8_medoids_165 rfl rfl ?_
                                    refine g_getP dX8_medoids_166 fl8_27 (by first | rfl | assumption) (by first | decide | (show _ < 62; omega)) (by first | rfl | assumption) ?_
                                    refine g_iconst dX8_medoids_169 ?_
                                    refine g_iload dX8_medoids_170 rfl ?_
                                    refine g_iastore dX8_medoids_172 (by first | rfl | assumption) (by first | decide | (show _ < 62; omega)) ?_
                                    first
                                      | (have hBnew2 := hBnew)
                                      | (have hBold : BB (ds wd N kd) n k (900 * a + 30 * b + (e + 1)) (-1) t (c3 44 0) (c3 44 1) (c3 44 2) := (hB3.od t3 (by omega) hV (by omega) (fun x y z hx q => by have hx2 := hx.b t3.2; unfold Vd at hx; rcases Int.lt_trichotomy x a with e | e | e <;> first | omega | (rcases Int.lt_trichotomy y b with e2 | e2 | e2 <;> omega)) (by omega) (by omega)).mv (by omega) (fun x y z hx q => by have hx2 := hx.b t3.2; unfold Vd at hx; rcases Int.lt_trichotomy x a with e | e | e <;> first | omega | (rcases Int.lt_trichotomy y b with e2 | e2 | e2 <;> omega)))
                                    refine g_iinc7 dX8_medoids_173 rfl ?_
                                    refine g_goto 110 dX8_medoids_176 (by decide) ?_
                                    refine g_fg8 ?_
                                    exact ih110 _ _ _ (by omega) (by first | assumption | omega) (by first | assumption | omega) (by first | exact ff3 | exact fun q q1 q2 => by rw [qu_ne q1, qu_ne q1, qu_ne q1]; exact ff3 q q1 q2) (by first | exact hl3 | exact fun i j i0 i1 j0 j1 => hl3 i j i0 i1 j0 j1) (by first | exact hBnew | exact hBold)
                          exact L110 _ _ _ _ (Nat.lt_succ_self _) (by first | assumption | omega) (by first | assumption | omega) ff2 hl2 (hB2.mv (by omega) (fun x y z hx q => by have hx2 := hx.b t3.2; unfold Vd at hx; rcases Int.lt_trichotomy x a with e | e | e <;> first | omega | (rcases Int.lt_trichotomy y b with e2 | e2 | e2 <;> omega)))
                        refine g_iload_n (i := 3) dX8_medoids_90 rfl rfl ?_
                        refine g_iconst dX8_medoids_91 ?_
                        refine g_icmp_le 102 dX8_medoids_92 (by decide) (fun b92 => ?_) (fun b92 => ?_)
                        · skip
                          refine g_aload_n (i := 0) dX8_medoids_102 rfl rfl ?_
                          refine g_getI (ji := 0) dX8_medoids_103 fl8_82 (by first | rfl | assumption) (by first | decide | (show _ < 62; omega)) (by first | rfl | assumption) (by decide) rfl (by first | assumption | rfl) ?_
                          refine g_iconst dX8_medoids_106 ?_
                          refine g_isub dX8_medoids_107 ?_
                          exact J108 _ (by first | assumption | omega)
                        · skip
                          refine g_iload dX8_medoids_95 rfl ?_
                          refine g_iconst dX8_medoids_97 ?_
                          refine g_iadd dX8_medoids_98 ?_
                          refine g_goto 108 dX8_medoids_99 (by decide) ?_
                          exact J108 _ (by first | assumption | omega)
                  exact L81 _ _ _ _ (Nat.lt_succ_self _) (by first | assumption | omega) (by first | assumption | omega) ff hl (hB.mv (by omega) (fun x y z hx q => by have hx2 := hx.b t3.2; unfold Vd at hx; rcases Int.lt_trichotomy x a with e | e | e <;> omega))
                refine g_iload_n (i := 3) dX8_medoids_61 rfl rfl ?_
                refine g_iconst dX8_medoids_62 ?_
                refine g_icmp_le 73 dX8_medoids_63 (by decide) (fun b63 => ?_) (fun b63 => ?_)
                · skip
                  refine g_aload_n (i := 0) dX8_medoids_73 rfl rfl ?_
                  refine g_getI (ji := 0) dX8_medoids_74 fl8_82 (by first | rfl | assumption) (by first | decide | (show _ < 62; omega)) (by first | rfl | assumption) (by decide) rfl (by first | assumption | rfl) ?_
                  refine g_iconst dX8_medoids_77 ?_
                  refine g_isub dX8_medoids_78 ?_
                  exact J79 _ (by first | assumption | omega)
                · skip
                  refine g_iload dX8_medoids_66 rfl ?_
                  refine g_iconst dX8_medoids_68 ?_
                  refine g_iadd dX8_medoids_69 ?_
                  refine g_goto 79 dX8_medoids_70 (by decide) ?_
                  exact J79 _ (by first | assumption | omega)
          exact L52 _ _ _ _ (Nat.lt_succ_self _) (by first | assumption | omega) (by first | assumption | omega) (fun q q1 q2 => hf q q2) hl (Or.inl ⟨rfl, fun x y z h => by unfold Vd at h; omega⟩)
        · skip
          refine g_ldc (z := -2000000003) dX8_medoids_38 cw8_97 ?_
          exact n_reti dX8_medoids_40 rfl (by unfold a_mds s_mds m_mds d_mds; rw [if_pos (show (0 ≤ s ∧ s ≤ 1) ∧ (0 ≤ kd ∧ kd ≤ 2) ∧ 1 ≤ k ∧ k ≤ 3 by omega), if_pos (show (0 ≤ s ∧ s ≤ 1) ∧ (0 ≤ kd ∧ kd ≤ 2) ∧ 1 ≤ k ∧ k ≤ 3 by omega), if_pos (show (0 ≤ s ∧ s ≤ 1) ∧ (0 ≤ kd ∧ kd ≤ 2) ∧ 1 ≤ k ∧ k ≤ 3 by omega), if_pos (show (0 ≤ s ∧ s ≤ 1) ∧ (0 ≤ kd ∧ kd ≤ 2) ∧ 1 ≤ k ∧ k ≤ 3 by omega), if_pos (show n < k by omega), if_pos (show n < k by omega), if_pos (show n < k by omega), if_pos (show n < k by omega)]; exact ⟨rfl, hS0, FrT.rf c⟩)
      · skip
        refine g_ldc (z := -2000000002) dX8_medoids_27 cw8_96 ?_
        exact n_reti dX8_medoids_29 rfl (by unfold a_mds s_mds m_mds d_mds; rw [if_neg (show ¬ ((0 ≤ s ∧ s ≤ 1) ∧ (0 ≤ kd ∧ kd ≤ 2) ∧ 1 ≤ k ∧ k ≤ 3) by omega), if_neg (show ¬ ((0 ≤ s ∧ s ≤ 1) ∧ (0 ≤ kd ∧ kd ≤ 2) ∧ 1 ≤ k ∧ k ≤ 3) by omega), if_neg (show ¬ ((0 ≤ s ∧ s ≤ 1) ∧ (0 ≤ kd ∧ kd ≤ 2) ∧ 1 ≤ k ∧ k ≤ 3) by omega), if_neg (show ¬ ((0 ≤ s ∧ s ≤ 1) ∧ (0 ≤ kd ∧ kd ≤ 2) ∧ 1 ≤ k ∧ k ≤ 3) by omega)]; exact ⟨rfl, hS0, FrT.rf c⟩)
