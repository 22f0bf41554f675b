def wn (D : Int → Int → Int) (e n r : Int) : Int := sI (fun j => if D r j ≤ e then 1 else 0) n
/-- a CORE -/
def cr (D : Int → Int → Int) (e n m r : Int) : Prop := m ≤ wn D e n r
def rk (D : Int → Int → Int) (e n m : Int) (lab : Int → Int) (r : Int) : Nat → Int → Prop
  | 0, x => x = r
  | t + 1, x => rk D e n m lab r t x ∨ ((0 ≤ x ∧ x < n) ∧ cr D e n m x ∧ lab x = -1 ∧ ∃ y, (0 ≤ y ∧ y < n) ∧ rk D e n m lab r t y ∧ D y x ≤ e)
/-- reached from r through COREs that have no GROUP yet -/
def Rch (D : Int → Int → Int) (e n m : Int) (lab : Int → Int) (r x : Int) : Prop := ∃ t, rk D e n m lab r t x
noncomputable def nl (D : Int → Int → Int) (e n m : Int) (lab : Int → Int) (r g : Int) : Int → Int := fun x => @ite Int (Rch D e n m lab r x) (Classical.propDecidable _) g (lab x)
theorem Rch.self {D : Int → Int → Int} {e n m : Int} {lab : Int → Int} {r : Int} : Rch D e n m lab r r := ⟨0, rfl⟩
theorem Rch.step {D : Int → Int → Int} {e n m : Int} {lab : Int → Int} {r x y : Int} (h : Rch D e n m lab r y) (hy : 0 ≤ y ∧ y < n) (hx : 0 ≤ x ∧ x < n) (hc : cr D e n m x) (hl : lab x = -1) (hd : D y x ≤ e) : Rch D e n m lab r x := by
  obtain ⟨t, ht⟩ := h
  exact ⟨t + 1, Or.inr ⟨hx, hc, hl, y, hy, ht, hd⟩⟩
theorem nl_char {D : Int → Int → Int} {e n m : Int} {lab lab1 : Int → Int} {r g : Int} (hr : lab1 r = g) (hb : ∀ x, 0 ≤ x → x < n → lab1 x = lab x ∨ (lab1 x = g ∧ Rch D e n m lab r x)) (hg : ∀ x, 0 ≤ x → x < n → ¬ lab x = g) (hg1 : ¬ g = -1) (hc : ∀ y x, 0 ≤ y → y < n → 0 ≤ x → x < n → lab1 y = g → cr D e n m x → lab1 x = -1 → ¬ D y x ≤ e) : ∀ x, 0 ≤ x → x < n → lab1 x = nl D e n m lab r g x := by
  have key : ∀ (t : Nat) (x : Int), rk D e n m lab r t x → lab1 x = g := by
    intro t
    induction t with
    | zero => intro x h; rw [show x = r from h]; exact hr
    | succ t ih =>
      intro x h
      rcases h with h | ⟨hx, hcx, hlx, y, hy, hty, hd⟩
      · exact ih x h
      · have h1 := ih y hty
        rcases hb x hx.1 hx.2 with h2 | h2
        · exact absurd hd (hc y x hy.1 hy.2 hx.1 hx.2 h1 hcx (h2.trans hlx))
        · exact h2.1
  intro x x0 x1
  unfold nl
  by_cases h : Rch D e n m lab r x
  · rw [if_pos h]
    obtain ⟨t, ht⟩ := h
    exact key t x ht
  · rw [if_neg h]
    rcases hb x x0 x1 with h2 | h2
    · exact h2
    · exact absurd h2.2 h
theorem rk_cr {D : Int → Int → Int} {e n m : Int} {lab : Int → Int} {r : Int} (hr : cr D e n m r) : ∀ (t : Nat) (x : Int), rk D e n m lab r t x → cr D e n m x
  | 0, x, h => by rw [show x = r from h]; exact hr
  | t + 1, x, h => by
    rcases h with h | h
    · exact rk_cr hr t x h
    · exact h.2.1
/-- the labels and the number of GROUPS when the first k ROWS have been looked at -/
noncomputable def LB (D : Int → Int → Int) (e n m : Int) : Nat → (Int → Int) × Int
  | 0 => (fun _ => -1, 0)
  | k + 1 => @ite ((Int → Int) × Int) (cr D e n m k ∧ (LB D e n m k).1 k = -1) (Classical.propDecidable _) (nl D e n m (LB D e n m k).1 k (LB D e n m k).2, (LB D e n m k).2 + 1) (LB D e n m k)
theorem LB_yes {D : Int → Int → Int} {e n m k : Int} (k0 : 0 ≤ k) (h : cr D e n m k ∧ (LB D e n m k.toNat).1 k = -1) : LB D e n m (k + 1).toNat = (nl D e n m (LB D e n m k.toNat).1 k (LB D e n m k.toNat).2, (LB D e n m k.toNat).2 + 1) := by
  rw [show (k + 1).toNat = k.toNat + 1 by omega, LB, show ((k.toNat : Nat) : Int) = k by omega]
  exact if_pos h
theorem LB_no {D : Int → Int → Int} {e n m k : Int} (k0 : 0 ≤ k) (h : ¬ (cr D e n m k ∧ (LB D e n m k.toNat).1 k = -1)) : LB D e n m (k + 1).toNat = LB D e n m k.toNat := by
  rw [show (k + 1).toNat = k.toNat + 1 by omega, LB, show ((k.toNat : Nat) : Int) = k by omega]
  exact if_neg h
theorem LB_bd {D : Int → Int → Int} {e n m : Int} : ∀ k : Nat, (0 ≤ (LB D e n m k).2 ∧ (LB D e n m k).2 ≤ k) ∧ (∀ x, (0 ≤ (LB D e n m k).1 x ∧ (LB D e n m k).1 x < (LB D e n m k).2) ∨ (LB D e n m k).1 x = -1) ∧ (∀ x, ¬ cr D e n m x → (LB D e n m k).1 x = -1)
  | 0 => by
    refine ⟨⟨by show (0 : Int) ≤ 0; omega, by show (0 : Int) ≤ ((0 : Nat) : Int); omega⟩, fun x => Or.inr rfl, fun x _ => rfl⟩
  | k + 1 => by
    obtain ⟨h1, h2, h3⟩ := LB_bd (D := D) (e := e) (n := n) (m := m) k
    rw [LB]
    by_cases hc : cr D e n m k ∧ (LB D e n m k).1 k = -1
    · rw [if_pos hc]
      dsimp only
      refine ⟨⟨by omega, by omega⟩, fun x => ?_, fun x hx => ?_⟩
      · unfold nl
        by_cases h : Rch D e n m (LB D e n m k).1 k x
        · rw [if_pos h]; left; omega
        · rw [if_neg h]
          have := h2 x
          omega
      · unfold nl
        by_cases h : Rch D e n m (LB D e n m k).1 k x
        · obtain ⟨t, ht⟩ := h
          exact absurd (rk_cr hc.1 t x ht) hx
        · rw [if_neg h]; exact h3 x hx
    · rw [if_neg hc]
      exact ⟨⟨h1.1, by omega⟩, h2, h3⟩
theorem LB_lt {D : Int → Int → Int} {e n m : Int} (k : Nat) (x : Int) : ¬ (LB D e n m k).1 x = (LB D e n m k).2 ∧ -1 ≤ (LB D e n m k).1 x ∧ (LB D e n m k).1 x < (LB D e n m k).2 ∨ (LB D e n m k).1 x = -1 := by
  have h := (LB_bd (D := D) (e := e) (n := n) (m := m) k).2.1 x
  omega
/-- the least GROUP of the first j ROWS that has a CORE near enough to ROW r -/
noncomputable def lg (D : Int → Int → Int) (e n m : Int) (lab : Int → Int) (r : Int) : Nat → Int
  | 0 => -1
  | j + 1 => @ite Int (cr D e n m j ∧ D r j ≤ e ∧ (lg D e n m lab r j = -1 ∨ lab j < lg D e n m lab r j)) (Classical.propDecidable _) (lab j) (lg D e n m lab r j)
theorem lg_yes {D : Int → Int → Int} {e n m : Int} {lab : Int → Int} {r j : Int} (j0 : 0 ≤ j) (h : cr D e n m j ∧ D r j ≤ e ∧ (lg D e n m lab r j.toNat = -1 ∨ lab j < lg D e n m lab r j.toNat)) : lg D e n m lab r (j + 1).toNat = lab j := by
  rw [show (j + 1).toNat = j.toNat + 1 by omega, lg, show ((j.toNat : Nat) : Int) = j by omega]
  exact if_pos h
theorem lg_no {D : Int → Int → Int} {e n m : Int} {lab : Int → Int} {r j : Int} (j0 : 0 ≤ j) (h : ¬ (cr D e n m j ∧ D r j ≤ e ∧ (lg D e n m lab r j.toNat = -1 ∨ lab j < lg D e n m lab r j.toNat))) : lg D e n m lab r (j + 1).toNat = lg D e n m lab r j.toNat := by
  rw [show (j + 1).toNat = j.toNat + 1 by omega, lg, show ((j.toNat : Nat) : Int) = j by omega]
  exact if_neg h
theorem lg_bd {D : Int → Int → Int} {e n m q : Int} {lab : Int → Int} {r : Int} (hq : 0 ≤ q) (hl : ∀ x, -1 ≤ lab x ∧ lab x < q ∨ lab x = -1) : ∀ j : Nat, -1 ≤ lg D e n m lab r j ∧ (lg D e n m lab r j < q ∨ lg D e n m lab r j = -1)
  | 0 => by show -1 ≤ (-1 : Int) ∧ ((-1 : Int) < q ∨ (-1 : Int) = -1); omega
  | j + 1 => by
    have ih := lg_bd (D := D) (e := e) (n := n) (m := m) (lab := lab) (r := r) hq hl j
    have h := hl j
    rw [lg]
    by_cases hc : cr D e n m j ∧ D r j ≤ e ∧ (lg D e n m lab r j = -1 ∨ lab j < lg D e n m lab r j)
    · rw [if_pos hc]; omega
    · rw [if_neg hc]; exact ih
noncomputable def dnG (D : Int → Int → Int) (e n m : Int) : Int → Int := fun x => @ite Int (cr D e n m x) (Classical.propDecidable _) ((LB D e n m n.toNat).1 x) (lg D e n m (LB D e n m n.toNat).1 x n.toNat)
noncomputable def dnM (D : Int → Int → Int) (e n m : Int) : Int := (LB D e n m n.toNat).2
theorem cn_up {f : Int → Int} {x g : Int} (hx : ¬ f x = g) : ∀ n : Nat, 0 ≤ x → cn (fun b => if b = x then g else f b) n g = cn f n g + (if x < n then 1 else 0)
  | 0, h => by rw [if_neg (by omega)]; rfl
  | n + 1, h => by
    rw [show ((n + 1 : Nat) : Int) = (n : Int) + 1 by omega, cn_s (by omega), cn_s (by omega), cn_up hx n h]
    by_cases e : (n : Int) = x
    · subst e
      rw [if_neg (by omega), if_pos (by rw [if_pos rfl]), if_neg hx, if_pos (by omega)]
    · rw [if_neg e]
      by_cases e2 : x < n
      · rw [if_pos e2, if_pos (show x < (n : Int) + 1 by omega)]; omega
      · rw [if_neg e2, if_neg (show ¬ x < (n : Int) + 1 by omega)]; omega
theorem cn_lt {f : Int → Int} {x g n : Int} (x0 : 0 ≤ x) (x1 : x < n) (hx : ¬ f x = g) : cn f n g < n := by
  have h := cn_up hx n.toNat x0
  rw [show ((n.toNat : Nat) : Int) = n by omega, if_pos x1] at h
  have h2 := cn_bd (g := fun b => if b = x then g else f b) (n := n) (k := g) (by omega)
  omega
theorem cn_0 {f : Int → Int} {g n : Int} (hn : 0 ≤ n) (h : ∀ x, 0 ≤ x → x < n → ¬ f x = g) : cn f n g = 0 := sI_zero hn (fun r r0 r1 => if_neg (h r r0 r1))
theorem wn_bd {D : Int → Int → Int} {e n r : Int} (hn : 0 ≤ n) : 0 ≤ wn D e n r ∧ wn D e n r ≤ n := by
  have := sI_bd (f := fun j => if D r j ≤ e then 1 else 0) (lo := 0) (hi := 1) hn (fun j _ _ => by split <;> omega)
  unfold wn; omega
theorem dn_bd {D : Int → Int → Int} {e n m : Int} (hn : 0 ≤ n) : (0 ≤ dnM D e n m ∧ dnM D e n m ≤ n) ∧ ∀ x, -1 ≤ dnG D e n m x ∧ (dnG D e n m x < dnM D e n m ∨ dnG D e n m x = -1) := by
  have h := LB_bd (D := D) (e := e) (n := n) (m := m) n.toNat
  have hl := LB_lt (D := D) (e := e) (n := n) (m := m) n.toNat
  refine ⟨⟨h.1.1, by unfold dnM; omega⟩, fun x => ?_⟩
  unfold dnG dnM
  by_cases hc : cr D e n m x
  · rw [if_pos hc]; have := hl x; omega
  · rw [if_neg hc]
    exact lg_bd h.1.1 (fun y => by have := hl y; omega) n.toNat
noncomputable def a_den (n wd : Int) (N : Int → Int → Int) (s kd e m : Int) : Int := if (0 ≤ s ∧ s ≤ 1) ∧ (0 ≤ kd ∧ kd ≤ 2) ∧ (0 ≤ e ∧ e ≤ 20000000) ∧ 1 ≤ m ∧ m ≤ 30 then (if n = 0 then -2000000003 else dnM (ds wd N kd) e n m) else -2000000002
/-- a SLOT is filled -/
def Sup (S : Sl) (s : Int) (g : Int → Int) (m : Int) : Sl := fun t => if t = s then some (g, m) else S t
noncomputable def s_den (n wd : Int) (N : Int → Int → Int) (S : Sl) (s kd e m : Int) : Sl := if (0 ≤ s ∧ s ≤ 1) ∧ (0 ≤ kd ∧ kd ≤ 2) ∧ (0 ≤ e ∧ e ≤ 20000000) ∧ 1 ≤ m ∧ m ≤ 30 then (if n = 0 then S else Sup S s (dnG (ds wd N kd) e n m) (dnM (ds wd N kd) e n m)) else S
/-- a class's SLOT filled, all else as it was -/
theorem CS.sup {c c' : qC} {n wd : Int} {N : Int → Int → Int} {S : Sl} {mm : Int} {md : Int → Int} {T : Tr} {s m : Int} {g : Int → Int} {o : Nat} (h : CS c n wd N S mm md T) (hoS : oS s = o) (hs : 0 ≤ s ∧ s ≤ 1) (ho58 : o = 5 ∨ o = 8) (hG : Gr c' o n g m) (hf : ∀ k, (k < 11 ∨ k = 18 ∨ k = 20 ∨ (27 ≤ k ∧ k < 33)) → k ≠ o → k ≠ o + 1 → k ≠ o + 2 → c' k = c k) : CS c' n wd N (Sup S s g m) mm md T := by
  obtain ⟨h1, h2, h3, h4⟩ := h
  refine ⟨h1.fr (hf 1 (by decide) (by omega) (by omega) (by omega)) (hf 2 (by decide) (by omega) (by omega) (by omega)) (hf 3 (by decide) (by omega) (by omega) (by omega)), fun t t0 t1 => ?_, ?_, ?_⟩
  · unfold Sup
    by_cases e : t = s
    · subst e
      rw [if_pos rfl, hoS]
      exact hG
    · rw [if_neg e]
      have h5 := h2 t t0 t1
      obtain ⟨o2, e2, -, -, -, h58, -⟩ := oS_ex (s := t) ⟨t0, t1⟩
      have hne : o2 ≠ o := by
        intro q
        have h6 : oS t = oS s := by rw [e2, hoS, q]
        unfold oS at h6
        obtain rfl | rfl : t = 0 ∨ t = 1 := by omega
        · obtain rfl : s = 1 := by omega
          exact absurd h6 (by decide)
        · obtain rfl : s = 0 := by omega
          exact absurd h6 (by decide)
      rw [e2] at h5 ⊢
      have f0 := hf o2 (by omega) (by omega) (by omega) (by omega)
      have f1 := hf (o2 + 1) (by omega) (by omega) (by omega) (by omega)
      have f2 := hf (o2 + 2) (by omega) (by omega) (by omega) (by omega)
      unfold CSl at h5 ⊢
      cases hs2 : S t with
      | none => rw [hs2] at h5; show c' o2 3 = -1; rw [f0]; exact h5
      | some p => rw [hs2] at h5; exact Gr.fr h5 f0 f1 f2
  · unfold CMd at h3 ⊢
    rw [hf 18 (by decide) (by omega) (by omega) (by omega), hf 20 (by decide) (by omega) (by omega) (by omega)]
    exact h3
  · unfold CTr at h4 ⊢
    rw [hf 27 (by decide) (by omega) (by omega) (by omega), hf 28 (by decide) (by omega) (by omega) (by omega), hf 29 (by decide) (by omega) (by omega) (by omega), hf 30 (by decide) (by omega) (by omega) (by omega), hf 31 (by decide) (by omega) (by omega) (by omega), hf 32 (by decide) (by omega) (by omega) (by omega)]
    exact h4
/-- the reference's SLOT filled -/
theorem TS.sup {c c' : qC} {n wd : Int} {N : Int → Int → Int} {S : Sl} {mm : Int} {md : Int → Int} {T : Tr} {s m : Int} {g : Int → Int} (h : TS c n wd N S mm md T) (hs : 0 ≤ s ∧ s ≤ 1) (m0 : 0 ≤ m ∧ m ≤ 30) (h41 : c' 41 = qu c 41 s 1 41) (h42 : c' 42 = qu c 42 s m 42) (h43 : ∀ r, 0 ≤ r → r < n → c' 43 (30 * s + r) = g r ∧ -1 ≤ g r ∧ g r < m) (h43o : ∀ t r, 0 ≤ t → t ≤ 1 → ¬ t = s → 0 ≤ r → r < n → c' 43 (30 * t + r) = c 43 (30 * t + r)) (hf : ∀ k, 39 ≤ k → k < 50 → k ≠ 41 → k ≠ 42 → k ≠ 43 → c' k = c k) : TS c' n wd N (Sup S s g m) mm md T := by
  obtain ⟨h1, h2, h3, h4⟩ := h
  refine ⟨h1.fr (by rw [hf 39 (by decide) (by decide) (by decide) (by decide) (by decide)]) (by rw [hf 39 (by decide) (by decide) (by decide) (by decide) (by decide)]) (hf 40 (by decide) (by decide) (by decide) (by decide) (by decide)), fun t t0 t1 => ?_, ?_, ?_⟩
  · unfold Sup
    by_cases e : t = s
    · subst e
      rw [if_pos rfl]
      exact ⟨by rw [h41, qu_eq], by rw [h42, qu_eq], m0, h43⟩
    · rw [if_neg e]
      have h5 := h2 t t0 t1
      unfold TSl at h5 ⊢
      cases hs2 : S t with
      | none => rw [hs2] at h5; show c' 41 t = 0; rw [h41, qu_off e]; exact h5
      | some p =>
        rw [hs2] at h5
        refine ⟨by rw [h41, qu_off e]; exact h5.1, by rw [h42, qu_off e]; exact h5.2.1, h5.2.2.1, fun r r0 r1 => ?_⟩
        rw [h43o t r t0 t1 e r0 r1]
        exact h5.2.2.2 r r0 r1
  · unfold TMd at h3 ⊢
    rw [hf 39 (by decide) (by decide) (by decide) (by decide) (by decide), hf 44 (by decide) (by decide) (by decide) (by decide) (by decide)]
    exact h3
  · unfold TTr at h4 ⊢
    rw [hf 39 (by decide) (by decide) (by decide) (by decide) (by decide), hf 45 (by decide) (by decide) (by decide) (by decide) (by decide), hf 46 (by decide) (by decide) (by decide) (by decide) (by decide), hf 47 (by decide) (by decide) (by decide) (by decide) (by decide), hf 48 (by decide) (by decide) (by decide) (by decide) (by decide), hf 49 (by decide) (by decide) (by decide) (by decide) (by decide)]
    exact h4
set_option maxHeartbeats 4000000 in
set_option maxRecDepth 100000 in
theorem k_X1_rowsWithin (c : qC) (n wd kd e r : Int) (N : Int → Int → Int) (hT : Tb c n wd N) (d0 : 0 ≤ kd) (d1 : kd < 3) (e0 : 0 ≤ e) (e1 : e ≤ 20000000) (r0 : 0 ≤ r) (r1 : r < n) : qN X1_rowsWithin 2 [qP 23, qP 1, qI kd, qI e, qI r] c (pI (fun z c' => z = wn (ds wd N kd) e n r ∧ c' = c)) := by
  have hT0 := hT
  obtain ⟨t1, t2, t3, t4, t5, t6, t7⟩ := hT
  refine qN.of [some (qP 23), some (qP 1), some (qI kd), some (qI e), some (qI r), none, none] (by decide) rfl (fun _ => rfl) (fun _ => Nat.le_of_ble_eq_true rfl) ?_
  refine g_iconst dX1_rowsWithin_0 ?_
  refine g_istore5 dX1_rowsWithin_1 rfl ?_
  refine g_iconst dX1_rowsWithin_3 ?_
  refine g_istore6 dX1_rowsWithin_4 rfl ?_
  have L6 : ∀ (fu6 : Nat) (a j : Int), (n - j).toNat < fu6 → (0 ≤ j) → (j ≤ n) → (a = sI (fun j => if (ds wd N kd) r j ≤ e then 1 else 0) j) → qG (qYn X1_rowsWithin 2 (pI (fun z c' => z = wn (ds wd N kd) e n r ∧ c' = c))) wN 6 [some (qP 23), some (qP 1), some (qI kd), some (qI e), some (qI r), some (qI a), some (qI j)] [] c := by
    intro fu6
    induction fu6 with
    | zero => intro a j hm; exact absurd hm (Nat.not_lt_zero _)
    | succ fu6 ih6 =>
      intro a j hm6 j0 j1 ha
      refine g_iload dX1_rowsWithin_6 rfl ?_
      refine g_aload_n (i := 1) dX1_rowsWithin_8 rfl rfl ?_
      refine g_getI (ji := 3) dX1_rowsWithin_9 fl1_22 (by first | rfl | assumption) (by first | decide | (show _ < 62; omega)) (by first | rfl | assumption) (by decide) rfl (by first | assumption | rfl) ?_
      refine g_icmp_ge 37 dX1_rowsWithin_12 (by decide) (fun b12 => ?_) (fun b12 => ?_)
      · skip
        refine g_iload dX1_rowsWithin_37 rfl ?_
        exact n_reti dX1_rowsWithin_39 rfl (⟨by rw [ha, show j = n by omega]; rfl, rfl⟩)
      · skip
        refine g_aload_n (i := 1) dX1_rowsWithin_15 rfl rfl ?_
        refine g_iload_n (i := 2) dX1_rowsWithin_16 rfl rfl ?_
        refine g_iload dX1_rowsWithin_17 rfl ?_
        refine g_iload dX1_rowsWithin_19 rfl ?_
        refine n_callVi (k_X6_apart _ _ _ _ (by omega) (by omega) (by omega) (by omega) (by omega) (by omega)) dX1_rowsWithin_21 lk1_39 im_X6_apart (by first | rfl | assumption) (by first | decide | (show _ < 62; omega)) rfl rfl rfl rfl (Nat.le_of_ble_eq_true rfl) (fun z c' hz => ?_)
        obtain ⟨rfl, hz2⟩ := hz
        have hz2 := hz2.symm
        subst hz2
        rw [t7 kd r j d0 d1 (by omega) (by omega) (by omega) (by omega)]
        have hab := hT0.bd (kd := kd) (show 0 ≤ r by omega) (show r < n by omega) (show 0 ≤ j by omega) (show j < n by omega)
        refine g_iload_n (i := 3) dX1_rowsWithin_24 rfl rfl ?_
        refine g_icmp_gt 31 dX1_rowsWithin_25 (by decide) (fun b25 => ?_) (fun b25 => ?_)
        · skip
          refine g_iinc6 dX1_rowsWithin_31 rfl ?_
          refine g_goto 6 dX1_rowsWithin_34 (by decide) ?_
          exact ih6 _ _ (by omega) (by first | assumption | omega) (by first | assumption | omega) (by rw [ha, sI_s j0]; first | (rw [if_pos (by omega)]) | (rw [if_neg (by omega)]; omega))
        · skip
          refine g_iinc5 dX1_rowsWithin_28 rfl ?_
          refine g_iinc6 dX1_rowsWithin_31 rfl ?_
          refine g_goto 6 dX1_rowsWithin_34 (by decide) ?_
          exact ih6 _ _ (by omega) (by first | assumption | omega) (by first | assumption | omega) (by rw [ha, sI_s j0]; first | (rw [if_pos (by omega)]) | (rw [if_neg (by omega)]; omega))
  exact L6 _ _ _ (Nat.lt_succ_self _) (by first | assumption | omega) (by first | assumption | omega) rfl
set_option maxHeartbeats 4000000 in
set_option maxRecDepth 100000 in
theorem k_X1_leastGroupWithin (c : qC) (n wd kd e m : Int) (N : Int → Int → Int) (hT : Tb c n wd N) (d0 : 0 ≤ kd) (d1 : kd < 3) (e0 : 0 ≤ e) (e1 : e ≤ 20000000) (r : Int) (lab : Int → Int) (q : Int) (q0 : 0 ≤ q ∧ q ≤ 30) (r0 : 0 ≤ r) (r1 : r < n) (hc : ∀ x, 0 ≤ x → x < n → (c 25 x = 1 ∧ cr (ds wd N kd) e n m x) ∨ (c 25 x = 0 ∧ ¬ cr (ds wd N kd) e n m x)) (hlab : ∀ x, 0 ≤ lab x ∧ lab x < q ∨ lab x = -1) (hl : ∀ x, 0 ≤ x → x < n → cr (ds wd N kd) e n m x → c 24 x = lab x) : qN X1_leastGroupWithin 2 [qP 23, qP 1, qI kd, qI e, qI r] c (pI (fun z c' => z = lg (ds wd N kd) e n m lab r n.toNat ∧ c' = c)) := by
  have hT0 := hT
  obtain ⟨t1, t2, t3, t4, t5, t6, t7⟩ := hT
  refine qN.of [some (qP 23), some (qP 1), some (qI kd), some (qI e), some (qI r), none, none] (by decide) rfl (fun _ => rfl) (fun _ => Nat.le_of_ble_eq_true rfl) ?_
  refine g_iconst dX1_leastGroupWithin_0 ?_
  refine g_istore5 dX1_leastGroupWithin_1 rfl ?_
  refine g_iconst dX1_leastGroupWithin_3 ?_
  refine g_istore6 dX1_leastGroupWithin_4 rfl ?_
  have L6 : ∀ (fu6 : Nat) (a j : Int), (n - j).toNat < fu6 → (0 ≤ j) → (j ≤ n) → (a = lg (ds wd N kd) e n m lab r j.toNat) → qG (qYn X1_leastGroupWithin 2 (pI (fun z c' => z = lg (ds wd N kd) e n m lab r n.toNat ∧ c' = c))) wN 6 [some (qP 23), some (qP 1), some (qI kd), some (qI e), some (qI r), some (qI a), some (qI j)] [] c := by
    intro fu6
    induction fu6 with
    | zero => intro a j hm; exact absurd hm (Nat.not_lt_zero _)
    | succ fu6 ih6 =>
      intro a j hm6 j0 j1 ha
      have hlb := lg_bd (D := (ds wd N kd)) (e := e) (n := n) (m := m) (lab := lab) (r := r) q0.1 (fun x => by have := hlab x; omega) j.toNat
      rw [← ha] at hlb
      refine g_iload dX1_leastGroupWithin_6 rfl ?_
      refine g_aload_n (i := 1) dX1_leastGroupWithin_8 rfl rfl ?_
      refine g_getI (ji := 3) dX1_leastGroupWithin_9 fl1_22 (by first | rfl | assumption) (by first | decide | (show _ < 62; omega)) (by first | rfl | assumption) (by decide) rfl (by first | assumption | rfl) ?_
      refine g_icmp_ge 71 dX1_leastGroupWithin_12 (by decide) (fun b12 => ?_) (fun b12 => ?_)
      · skip
        refine g_iload dX1_leastGroupWithin_71 rfl ?_
        exact n_reti dX1_leastGroupWithin_73 rfl (⟨by rw [ha, show j = n by omega], rfl⟩)
      · skip
        have hcj := hc j j0 (by omega)
        have hlj := hlab j
        refine g_aload_n (i := 0) dX1_leastGroupWithin_15 rfl rfl ?_
        refine g_getP dX1_leastGroupWithin_16 fl1_15 (by first | rfl | assumption) (by first | decide | (show _ < 62; omega)) (by first | rfl | assumption) ?_
        refine g_iload dX1_leastGroupWithin_19 rfl ?_
        refine g_baload dX1_leastGroupWithin_21 (by first | rfl | assumption) (by first | decide | (show _ < 62; omega)) ?_
        refine g_if_eq 65 dX1_leastGroupWithin_22 (by decide) (fun b22 => ?_) (fun b22 => ?_)
        · skip
          refine g_iinc6 dX1_leastGroupWithin_65 rfl ?_
          refine g_goto 6 dX1_leastGroupWithin_68 (by decide) ?_
          exact ih6 _ _ (by omega) (by first | assumption | omega) (by first | assumption | omega) (by
        first
          | (rw [lg_yes j0 ⟨hcrj, by omega, by rw [← ha]; omega⟩])
          | (rw [lg_no j0 (fun h => by rw [← ha] at h; omega)]; exact ha)
          | (rw [lg_no j0 (fun h => absurd h.1 (hcj.elim (fun q => absurd q.1 (by omega)) (fun q => q.2)))]; exact ha))
        · skip
          have hcrj : cr (ds wd N kd) e n m j := hcj.elim (fun h => h.2) (fun h => absurd h.1 (by omega))
          have hclj := hl j j0 (by omega) hcrj
          refine g_aload_n (i := 1) dX1_leastGroupWithin_25 rfl rfl ?_
          refine g_iload_n (i := 2) dX1_leastGroupWithin_26 rfl rfl ?_
          refine g_iload dX1_leastGroupWithin_27 rfl ?_
          refine g_iload dX1_leastGroupWithin_29 rfl ?_
          refine n_callVi (k_X6_apart _ _ _ _ (by omega) (by omega) (by omega) (by omega) (by omega) (by omega)) dX1_leastGroupWithin_31 lk1_39 im_X6_apart (by first | rfl | assumption) (by first | decide | (show _ < 62; omega)) rfl rfl rfl rfl (Nat.le_of_ble_eq_true rfl) (fun z c' hz => ?_)
          obtain ⟨rfl, hz2⟩ := hz
          have hz2 := hz2.symm
          subst hz2
          rw [t7 kd r j d0 d1 (by omega) (by omega) (by omega) (by omega)]
          have hab := hT0.bd (kd := kd) (show 0 ≤ r by omega) (show r < n by omega) (show 0 ≤ j by omega) (show j < n by omega)
          refine g_iload_n (i := 3) dX1_leastGroupWithin_34 rfl rfl ?_
          refine g_icmp_gt 65 dX1_leastGroupWithin_35 (by decide) (fun b35 => ?_) (fun b35 => ?_)
          · skip
            refine g_iinc6 dX1_leastGroupWithin_65 rfl ?_
            refine g_goto 6 dX1_leastGroupWithin_68 (by decide) ?_
            exact ih6 _ _ (by omega) (by first | assumption | omega) (by first | assumption | omega) (by
        first
          | (rw [lg_yes j0 ⟨hcrj, by omega, by rw [← ha]; omega⟩])
          | (rw [lg_no j0 (fun h => by rw [← ha] at h; omega)]; exact ha)
          | (rw [lg_no j0 (fun h => absurd h.1 (hcj.elim (fun q => absurd q.1 (by omega)) (fun q => q.2)))]; exact ha))
          · skip
            refine g_iload dX1_leastGroupWithin_38 rfl ?_
            refine g_iconst dX1_leastGroupWithin_40 ?_
            refine g_icmp_eq 56 dX1_leastGroupWithin_41 (by decide) (fun b41 => ?_) (fun b41 => ?_)
            · skip
              refine g_aload_n (i := 0) dX1_leastGroupWithin_56 rfl rfl ?_
              refine g_getP dX1_leastGroupWithin_57 fl1_9 (by first | rfl | assumption) (by first | decide | (show _ < 62; omega)) (by first | rfl | assumption) ?_
              refine g_iload dX1_leastGroupWithin_60 rfl ?_
              refine g_iaload dX1_leastGroupWithin_62 rfl (by decide) ?_
              rw [hclj]
              skip -- ?_
              refine g_istore5 dX1_leastGroupWithin_63 rfl ?_
              refine g_iinc6 dX1_leastGroupWithin_65 rfl ?_
              refine g_goto 6 dX1_leastGroupWithin_68 (by decide) ?_
              exact ih6 _ _ (by omega) (by first | assumption | omega) (by first | assumption | omega) (by
        first
          | (rw [lg_yes j0 ⟨hcrj, by omega, by rw [← ha]; omega⟩])
          | (rw [lg_no j0 (fun h => by rw [← ha] at h; omega)]; exact ha)
          | (rw [lg_no j0 (fun h => absurd h.1 (hcj.elim (fun q => absurd q.1 (by omega)) (fun q => q.2)))]; exact ha))
            · skip
              refine g_aload_n (i := 0) dX1_leastGroupWithin_44 rfl rfl ?_
              refine g_getP dX1_leastGroupWithin_45 fl1_9 (by first | rfl | assumption) (by first | decide | (show _ < 62; omega)) (by first | rfl | assumption) ?_
              refine g_iload dX1_leastGroupWithin_48 rfl ?_
              refine g_iaload dX1_leastGroupWithin_50 rfl (by decide) ?_
              rw [hclj]
              skip -- ?_
              refine g_iload dX1_leastGroupWithin_51 rfl ?_
              refine g_icmp_ge 65 dX1_leastGroupWithin_53 (by decide) (fun b53 => ?_) (fun b53 => ?_)
              · skip
                refine g_iinc6 dX1_leastGroupWithin_65 rfl ?_
                refine g_goto 6 dX1_leastGroupWithin_68 (by decide) ?_
                exact ih6 _ _ (by omega) (by first | assumption | omega) (by first | assumption | omega) (by
        first
          | (rw [lg_yes j0 ⟨hcrj, by omega, by rw [← ha]; omega⟩])
          | (rw [lg_no j0 (fun h => by rw [← ha] at h; omega)]; exact ha)
          | (rw [lg_no j0 (fun h => absurd h.1 (hcj.elim (fun q => absurd q.1 (by omega)) (fun q => q.2)))]; exact ha))
              · skip
                refine g_aload_n (i := 0) dX1_leastGroupWithin_56 rfl rfl ?_
                refine g_getP dX1_leastGroupWithin_57 fl1_9 (by first | rfl | assumption) (by first | decide | (show _ < 62; omega)) (by first | rfl | assumption) ?_
                refine g_iload dX1_leastGroupWithin_60 rfl ?_
                refine g_iaload dX1_leastGroupWithin_62 rfl (by decide) ?_
                rw [hclj]
                skip -- ?_
                refine g_istore5 dX1_leastGroupWithin_63 rfl ?_
                refine g_iinc6 dX1_leastGroupWithin_65 rfl ?_
                refine g_goto 6 dX1_leastGroupWithin_68 (by decide) ?_
                exact ih6 _ _ (by omega) (by first | assumption | omega) (by first | assumption | omega) (by
        first
          | (rw [lg_yes j0 ⟨hcrj, by omega, by rw [← ha]; omega⟩])
          | (rw [lg_no j0 (fun h => by rw [← ha] at h; omega)]; exact ha)
          | (rw [lg_no j0 (fun h => absurd h.1 (hcj.elim (fun q => absurd q.1 (by omega)) (fun q => q.2)))]; exact ha))
  exact L6 _ _ _ (Nat.lt_succ_self _) (by first | assumption | omega) (by first | assumption | omega) rfl
set_option maxHeartbeats 4000000 in
set_option maxRecDepth 100000 in
theorem k_X1_spreadFrom (c : qC) (n wd kd e m : Int) (N : Int → Int → Int) (hT : Tb c n wd N) (d0 : 0 ≤ kd) (d1 : kd < 3) (e0 : 0 ≤ e) (e1 : e ≤ 20000000) (r g : Int) (lab : Int → Int) (g0 : 0 ≤ g) (g1 : g < 30) (r0 : 0 ≤ r) (r1 : r < n) (hc : ∀ x, 0 ≤ x → x < n → (c 25 x = 1 ∧ cr (ds wd N kd) e n m x) ∨ (c 25 x = 0 ∧ ¬ cr (ds wd N kd) e n m x)) (hlr : lab r = -1) (hl : ∀ x, 0 ≤ x → x < n → c 24 x = lab x) (hlab : ∀ x, (0 ≤ lab x ∧ lab x < g) ∨ lab x = -1) : qN X1_spreadFrom 2 [qP 23, qP 1, qI kd, qI e, qI r, qI g] c (pV (fun c' => (∀ k, k ≠ 24 → k ≠ 26 → c' k = c k) ∧ ∀ x, 0 ≤ x → x < n → c' 24 x = nl (ds wd N kd) e n m lab r g x)) := by
  have hT0 := hT
  obtain ⟨t1, t2, t3, t4, t5, t6, t7⟩ := hT
  refine qN.of [some (qP 23), some (qP 1), some (qI kd), some (qI e), some (qI r), some (qI g), none, none, none] (by decide) rfl (fun _ => rfl) (fun _ => Nat.le_of_ble_eq_true rfl) ?_
  refine g_aload_n (i := 0) dX1_spreadFrom_0 rfl rfl ?_
  refine g_getP dX1_spreadFrom_1 fl1_9 (by first | rfl | assumption) (by first | decide | (show _ < 62; omega)) (by first | rfl | assumption) ?_
  refine g_iload dX1_spreadFrom_4 rfl ?_
  refine g_iload dX1_spreadFrom_6 rfl ?_
  refine g_iastore dX1_spreadFrom_8 (by first | rfl | assumption) (by first | decide | (show _ < 62; omega)) ?_
  refine g_aload_n (i := 0) dX1_spreadFrom_9 rfl rfl ?_
  refine g_getP dX1_spreadFrom_10 fl1_19 (by first | rfl | assumption) (by first | decide | (show _ < 62; omega)) (by first | rfl | assumption) ?_
  refine g_iconst dX1_spreadFrom_13 ?_
  refine g_iload dX1_spreadFrom_14 rfl ?_
  refine g_iastore dX1_spreadFrom_16 (by first | rfl | assumption) (by first | decide | (show _ < 62; omega)) ?_
  refine g_iconst dX1_spreadFrom_17 ?_
  refine g_istore6 dX1_spreadFrom_18 rfl ?_
  refine g_iconst dX1_spreadFrom_20 ?_
  refine g_istore7 dX1_spreadFrom_21 rfl ?_
  have L23 : ∀ (fu23 : Nat) (kn nx : Int) (c1 : qC), (n - nx).toNat < fu23 → (0 ≤ nx) → (nx ≤ kn) → (∀ k, k ≠ 24 → k ≠ 26 → c1 k = c k) → (kn = cn (c1 24) n g) → (1 ≤ kn) → (∀ q, 0 ≤ q → q < kn → (0 ≤ c1 26 q ∧ c1 26 q < n) ∧ c1 24 (c1 26 q) = g ∧ Rch (ds wd N kd) e n m lab r (c1 26 q)) → (∀ x, 0 ≤ x → x < n → c1 24 x = lab x ∨ (c1 24 x = g ∧ Rch (ds wd N kd) e n m lab r x ∧ ∃ q, 0 ≤ q ∧ q < kn ∧ c1 26 q = x)) → (c1 24 r = g) → (∀ q x, 0 ≤ q → q < nx → 0 ≤ x → x < n → cr (ds wd N kd) e n m x → c1 24 x = -1 → ¬ (ds wd N kd) (c1 26 q) x ≤ e) → qG (qYn X1_spreadFrom 2 (pV (fun c' => (∀ k, k ≠ 24 → k ≠ 26 → c' k = c k) ∧ ∀ x, 0 ≤ x → x < n → c' 24 x = nl (ds wd N kd) e n m lab r g x))) wN 23 [some (qP 23), some (qP 1), some (qI kd), some (qI e), some (qI r), some (qI g), some (qI kn), some (qI nx), none] [] c1 := by
    intro fu23
    induction fu23 with
    | zero => intro kn nx c1 hm; exact absurd hm (Nat.not_lt_zero _)
    | succ fu23 ih23 =>
      intro kn nx c1 hm23 x0 x1 ff kn k1 hw hb hr hcl
      have hkb := cn_bd (g := c1 24) (k := g) t3.1
      have hr1 : c1 1 3 = n := by rw [ff 1 (by decide) (by decide)]; exact t1
      refine g_iload dX1_spreadFrom_23 rfl ?_
      refine g_iload dX1_spreadFrom_25 rfl ?_
      refine g_icmp_ge 121 dX1_spreadFrom_27 (by decide) (fun b27 => ?_) (fun b27 => ?_)
      · skip
        exact n_retv dX1_spreadFrom_121 rfl (⟨ff, nl_char hr (fun x q0 q1 => (hb x q0 q1).elim Or.inl (fun h => Or.inr ⟨h.1, h.2.1⟩)) (fun x _ _ h => by have := hlab x; omega) (by omega) (fun y x y0 y1 h0 h1 hy hx hx2 => by
        rcases hb y y0 y1 with h | ⟨-, -, q, q0, q1, q2⟩
        · have := hlab y; omega
        · rw [← q2]; exact hcl q x q0 (by omega) h0 h1 hx hx2)⟩)
      · skip
        refine g_iload dX1_spreadFrom_30 rfl ?_
        refine g_bipush dX1_spreadFrom_32 (by decide) ?_
        refine g_icmp_ge 121 dX1_spreadFrom_34 (by decide) (fun b34 => ?_) (fun b34 => ?_)
        · skip
          exact n_retv dX1_spreadFrom_121 rfl (⟨ff, nl_char hr (fun x q0 q1 => (hb x q0 q1).elim Or.inl (fun h => Or.inr ⟨h.1, h.2.1⟩)) (fun x _ _ h => by have := hlab x; omega) (by omega) (fun y x y0 y1 h0 h1 hy hx hx2 => by
        rcases hb y y0 y1 with h | ⟨-, -, q, q0, q1, q2⟩
        · have := hlab y; omega
        · rw [← q2]; exact hcl q x q0 (by omega) h0 h1 hx hx2)⟩)
        · skip
          refine g_iconst dX1_spreadFrom_37 ?_
          refine g_istore8 dX1_spreadFrom_38 rfl ?_
          have L40 : ∀ (fu40 : Nat) (kn j : Int) (c2 : qC), (n - j).toNat < fu40 → (0 ≤ j) → (j ≤ n) → (nx < kn) → (∀ k, k ≠ 24 → k ≠ 26 → c2 k = c k) → (kn = cn (c2 24) n g) → (1 ≤ kn) → (∀ q, 0 ≤ q → q < kn → (0 ≤ c2 26 q ∧ c2 26 q < n) ∧ c2 24 (c2 26 q) = g ∧ Rch (ds wd N kd) e n m lab r (c2 26 q)) → (∀ x, 0 ≤ x → x < n → c2 24 x = lab x ∨ (c2 24 x = g ∧ Rch (ds wd N kd) e n m lab r x ∧ ∃ q, 0 ≤ q ∧ q < kn ∧ c2 26 q = x)) → (c2 24 r = g) → (∀ q x, 0 ≤ q → q < nx → 0 ≤ x → x < n → cr (ds wd N kd) e n m x → c2 24 x = -1 → ¬ (ds wd N kd) (c2 26 q) x ≤ e) → (∀ x, 0 ≤ x → x < j → cr (ds wd N kd) e n m x → c2 24 x = -1 → ¬ (ds wd N kd) (c2 26 nx) x ≤ e) → qG (qYn X1_spreadFrom 2 (pV (fun c' => (∀ k, k ≠ 24 → k ≠ 26 → c' k = c k) ∧ ∀ x, 0 ≤ x → x < n → c' 24 x = nl (ds wd N kd) e n m lab r g x))) wN 40 [some (qP 23), some (qP 1), some (qI kd), some (qI e), some (qI r), some (qI g), some (qI kn), some (qI nx), some (qI j)] [] c2 := by
            intro fu40
            induction fu40 with
            | zero => intro kn j c2 hm; exact absurd hm (Nat.not_lt_zero _)
            | succ fu40 ih40 =>
              intro kn j c2 hm40 j0 j1 x2 ff2 kn2 k12 hw2 hb2 hr2 hcl2 hin
              have hkb2 := cn_bd (g := c2 24) (k := g) t3.1
              have hr3 : c2 1 3 = n := by rw [ff2 1 (by decide) (by decide)]; exact t1
              have h25 : c2 25 = c 25 := ff2 25 (by decide) (by decide)
              have h3 : c2 3 = c 3 := ff2 3 (by decide) (by decide)
              have hwn := hw2 nx (by omega) (by omega)
              refine g_iload dX1_spreadFrom_40 rfl ?_
              refine g_aload_n (i := 1) dX1_spreadFrom_42 rfl rfl ?_
              refine g_getI (ji := 3) dX1_spreadFrom_43 fl1_22 (by first | rfl | assumption) (by first | decide | (show _ < 62; omega)) (by first | rfl | assumption) (by decide) rfl (by first | assumption | rfl) ?_
              refine g_icmp_ge 115 dX1_spreadFrom_46 (by decide) (fun b46 => ?_) (fun b46 => ?_)
              · skip
                refine g_iinc7 dX1_spreadFrom_115 rfl ?_
                refine g_goto 23 dX1_spreadFrom_118 (by decide) ?_
                refine g_fg8 ?_
                exact ih23 _ _ _ (by omega) (by first | assumption | omega) (by first | assumption | omega) ff2 kn2 (by omega) hw2 hb2 hr2 (fun q x q0 q1 h0 h1 hx hx2 => by
        by_cases hq : q = nx
        · subst hq; exact hin x h0 (by omega) hx hx2
        · exact hcl2 q x q0 (by omega) h0 h1 hx hx2)
              · skip
                have hcj := hc j j0 (by omega)
                rw [← h25] at hcj
                have hlj : -1 ≤ c2 24 j ∧ c2 24 j < 30 := by
                  rcases hb2 j j0 (by omega) with h | h
                  · have := hlab j; omega
                  · omega
                refine g_aload_n (i := 0) dX1_spreadFrom_49 rfl rfl ?_
                refine g_getP dX1_spreadFrom_50 fl1_15 (by first | rfl | assumption) (by first | decide | (show _ < 62; omega)) (by first | rfl | assumption) ?_
                refine g_iload dX1_spreadFrom_53 rfl ?_
                refine g_baload dX1_spreadFrom_55 rfl (by decide) ?_
                refine g_if_eq 109 dX1_spreadFrom_56 (by decide) (fun b56 => ?_) (fun b56 => ?_)
                · skip
                  first
                    | (have hinNN := hinN)
                    | (have hinO : ∀ x, 0 ≤ x → x < j + 1 → cr (ds wd N kd) e n m x → c2 24 x = -1 → ¬ (ds wd N kd) (c2 26 nx) x ≤ e := fun x q0 q1 hx hx2 => by
                        by_cases h : x = j
                        · subst h
                          first
                            | omega
                            | exact hcj.elim (fun q => absurd q.1 (by omega)) (fun q => absurd hx q.2)
                        · exact hin x q0 (by omega) hx hx2)
                  refine g_iinc8 dX1_spreadFrom_109 rfl ?_
                  refine g_goto 40 dX1_spreadFrom_112 (by decide) ?_
                  exact ih40 _ _ _ (by omega) (by first | assumption | omega) (by first | assumption | omega) (by first | assumption | omega) (by first | exact ff2 | exact fun k k1 k2 => by rw [qu_ne k2, qu_ne k1]; exact ff2 k k1 k2) (by
            first
              | exact kn2
              | (show kn + 1 = cn (fun b => if b = j then g else c2 24 b) n g
                 have h := cn_up (f := c2 24) (x := j) (g := g) (by omega) n.toNat j0
                 rw [show ((n.toNat : Nat) : Int) = n by omega, if_pos (by omega)] at h
                 omega)) (by omega) (by first | exact hw2 | exact hwN) (by first | exact hb2 | exact hbN) (by first | exact hr2 | exact hrN) (by first | exact hcl2 | exact hclN) (by first | exact hinN | exact hinO)
                · skip
                  refine g_aload_n (i := 0) dX1_spreadFrom_59 rfl rfl ?_
                  refine g_getP dX1_spreadFrom_60 fl1_9 (by first | rfl | assumption) (by first | decide | (show _ < 62; omega)) (by first | rfl | assumption) ?_
                  refine g_iload dX1_spreadFrom_63 rfl ?_
                  refine g_iaload dX1_spreadFrom_65 (by first | rfl | assumption) (by first | decide | (show _ < 62; omega)) ?_
                  refine g_iconst dX1_spreadFrom_66 ?_
                  refine g_icmp_ne 109 dX1_spreadFrom_67 (by decide) (fun b67 => ?_) (fun b67 => ?_)
                  · skip
                    first
                      | (have hinNN := hinN)
                      | (have hinO : ∀ x, 0 ≤ x → x < j + 1 → cr (ds wd N kd) e n m x → c2 24 x = -1 → ¬ (ds wd N kd) (c2 26 nx) x ≤ e := fun x q0 q1 hx hx2 => by
                          by_cases h : x = j
                          · subst h
                            first
                              | omega
                              | exact hcj.elim (fun q => absurd q.1 (by omega)) (fun q => absurd hx q.2)
                          · exact hin x q0 (by omega) hx hx2)
                    refine g_iinc8 dX1_spreadFrom_109 rfl ?_
                    refine g_goto 40 dX1_spreadFrom_112 (by decide) ?_
                    exact ih40 _ _ _ (by omega) (by first | assumption | omega) (by first | assumption | omega) (by first | assumption | omega) (by first | exact ff2 | exact fun k k1 k2 => by rw [qu_ne k2, qu_ne k1]; exact ff2 k k1 k2) (by
            first
              | exact kn2
              | (show kn + 1 = cn (fun b => if b = j then g else c2 24 b) n g
                 have h := cn_up (f := c2 24) (x := j) (g := g) (by omega) n.toNat j0
                 rw [show ((n.toNat : Nat) : Int) = n by omega, if_pos (by omega)] at h
                 omega)) (by omega) (by first | exact hw2 | exact hwN) (by first | exact hb2 | exact hbN) (by first | exact hr2 | exact hrN) (by first | exact hcl2 | exact hclN) (by first | exact hinN | exact hinO)
                  · skip
                    refine g_aload_n (i := 1) dX1_spreadFrom_70 rfl rfl ?_
                    refine g_iload_n (i := 2) dX1_spreadFrom_71 rfl rfl ?_
                    refine g_aload_n (i := 0) dX1_spreadFrom_72 rfl rfl ?_
                    refine g_getP dX1_spreadFrom_73 fl1_19 (by first | rfl | assumption) (by first | decide | (show _ < 62; omega)) (by first | rfl | assumption) ?_
                    refine g_iload dX1_spreadFrom_76 rfl ?_
                    refine g_iaload dX1_spreadFrom_78 rfl (by decide) ?_
                    refine g_iload dX1_spreadFrom_79 rfl ?_
                    refine n_callVi (k_X6_apart _ _ _ _ (by omega) (by omega) (by omega) (by omega) (by omega) (by omega)) dX1_spreadFrom_81 lk1_39 im_X6_apart (by first | rfl | assumption) (by first | decide | (show _ < 62; omega)) rfl rfl rfl rfl (Nat.le_of_ble_eq_true rfl) (fun z c' hz => ?_)
                    obtain ⟨rfl, hz2⟩ := hz
                    have hz2 := hz2.symm
                    subst hz2
                    rw [h3, t7 kd (c2 26 nx) j d0 d1 hwn.1.1 hwn.1.2 j0 (by omega)]
                    have hab := hT0.bd (kd := kd) hwn.1.1 hwn.1.2 j0 (show j < n by omega)
                    refine g_iload_n (i := 3) dX1_spreadFrom_84 rfl rfl ?_
                    refine g_icmp_gt 109 dX1_spreadFrom_85 (by decide) (fun b85 => ?_) (fun b85 => ?_)
                    · skip
                      first
                        | (have hinNN := hinN)
                        | (have hinO : ∀ x, 0 ≤ x → x < j + 1 → cr (ds wd N kd) e n m x → c2 24 x = -1 → ¬ (ds wd N kd) (c2 26 nx) x ≤ e := fun x q0 q1 hx hx2 => by
                            by_cases h : x = j
                            · subst h
                              first
                                | omega
                                | exact hcj.elim (fun q => absurd q.1 (by omega)) (fun q => absurd hx q.2)
                            · exact hin x q0 (by omega) hx hx2)
                      refine g_iinc8 dX1_spreadFrom_109 rfl ?_
                      refine g_goto 40 dX1_spreadFrom_112 (by decide) ?_
                      exact ih40 _ _ _ (by omega) (by first | assumption | omega) (by first | assumption | omega) (by first | assumption | omega) (by first | exact ff2 | exact fun k k1 k2 => by rw [qu_ne k2, qu_ne k1]; exact ff2 k k1 k2) (by
            first
              | exact kn2
              | (show kn + 1 = cn (fun b => if b = j then g else c2 24 b) n g
                 have h := cn_up (f := c2 24) (x := j) (g := g) (by omega) n.toNat j0
                 rw [show ((n.toNat : Nat) : Int) = n by omega, if_pos (by omega)] at h
                 omega)) (by omega) (by first | exact hw2 | exact hwN) (by first | exact hb2 | exact hbN) (by first | exact hr2 | exact hrN) (by first | exact hcl2 | exact hclN) (by first | exact hinN | exact hinO)
                    · skip
                      have hcrj : cr (ds wd N kd) e n m j := hcj.elim (fun h => h.2) (fun h => absurd h.1 (by omega))
                      have hjl : lab j = -1 := (hb2 j j0 (by omega)).elim (fun h => by omega) (fun h => absurd h.1 (by omega))
                      have hRj : Rch (ds wd N kd) e n m lab r j := hwn.2.2.step hwn.1 ⟨j0, by omega⟩ hcrj hjl (by omega)
                      have hkl : kn < n := by rw [kn2]; exact cn_lt j0 (by omega) (by omega)
                      have hwd : ∀ q, 0 ≤ q → q < kn → ¬ c2 26 q = j := fun q q0 q1 h => by have := (hw2 q q0 q1).2.1; rw [h] at this; omega
                      have hwN : ∀ q, 0 ≤ q → q < kn + 1 → (0 ≤ qu (qu c2 24 j g) 26 kn j 26 q ∧ qu (qu c2 24 j g) 26 kn j 26 q < n) ∧ qu (qu c2 24 j g) 26 kn j 24 (qu (qu c2 24 j g) 26 kn j 26 q) = g ∧ Rch (ds wd N kd) e n m lab r (qu (qu c2 24 j g) 26 kn j 26 q) := fun q q0 q1 => by
                        have hq24 : ∀ y, qu (qu c2 24 j g) 26 kn j 24 y = if y = j then g else c2 24 y := fun y => by show qu c2 24 j g 24 y = _; rw [qu_at]
                        rw [hq24, qu_at]
                        by_cases h : q = kn
                        · rw [if_pos h, if_pos rfl]; exact ⟨⟨j0, by omega⟩, rfl, hRj⟩
                        · rw [if_neg h]
                          have h2 := hw2 q q0 (by omega)
                          refine ⟨h2.1, ?_, h2.2.2⟩
                          show (if c2 26 q = j then g else c2 24 (c2 26 q)) = g
                          rw [if_neg (hwd q q0 (by omega))]; exact h2.2.1
                      have hbN : ∀ x, 0 ≤ x → x < n → qu (qu c2 24 j g) 26 kn j 24 x = lab x ∨ (qu (qu c2 24 j g) 26 kn j 24 x = g ∧ Rch (ds wd N kd) e n m lab r x ∧ ∃ q, 0 ≤ q ∧ q < kn + 1 ∧ qu (qu c2 24 j g) 26 kn j 26 q = x) := fun x q0 q1 => by
                        have hq24 : qu (qu c2 24 j g) 26 kn j 24 x = if x = j then g else c2 24 x := by show qu c2 24 j g 24 x = _; rw [qu_at]
                        rw [hq24]
                        by_cases h : x = j
                        · subst h; right; rw [if_pos rfl]; exact ⟨rfl, hRj, kn, by omega, by omega, by rw [qu_eq]⟩
                        · rw [if_neg h]
                          rcases hb2 x q0 q1 with h2 | ⟨h2, h3, q, h4, h5, h6⟩
                          · left; exact h2
                          · right; exact ⟨h2, h3, q, h4, by omega, by rw [qu_off (by omega)]; exact h6⟩
                      have hrN : qu (qu c2 24 j g) 26 kn j 24 r = g := by
                        show qu c2 24 j g 24 r = g
                        rw [qu_at]; split
                        · rfl
                        · exact hr2
                      have hclN : ∀ q x, 0 ≤ q → q < nx → 0 ≤ x → x < n → cr (ds wd N kd) e n m x → qu (qu c2 24 j g) 26 kn j 24 x = -1 → ¬ (ds wd N kd) (qu (qu c2 24 j g) 26 kn j 26 q) x ≤ e := fun q x q0 q1 h0 h1 hx hx2 => by
                        have hq24 : qu (qu c2 24 j g) 26 kn j 24 x = if x = j then g else c2 24 x := by show qu c2 24 j g 24 x = _; rw [qu_at]
                        rw [hq24] at hx2
                        rw [qu_off (by omega)]
                        split at hx2
                        · omega
                        · exact hcl2 q x q0 q1 h0 h1 hx hx2
                      have hinN : ∀ x, 0 ≤ x → x < j + 1 → cr (ds wd N kd) e n m x → qu (qu c2 24 j g) 26 kn j 24 x = -1 → ¬ (ds wd N kd) (qu (qu c2 24 j g) 26 kn j 26 nx) x ≤ e := fun x q0 q1 hx hx2 => by
                        have hq24 : qu (qu c2 24 j g) 26 kn j 24 x = if x = j then g else c2 24 x := by show qu c2 24 j g 24 x = _; rw [qu_at]
                        rw [hq24] at hx2
                        rw [qu_off (by omega)]
                        split at hx2
                        · omega
                        · exact hin x q0 (by omega) hx hx2
                      refine g_aload_n (i := 0) dX1_spreadFrom_88 rfl rfl ?_
                      refine g_getP dX1_spreadFrom_89 fl1_9 (by first | rfl | assumption) (by first | decide | (show _ < 62; omega)) (by first | rfl | assumption) ?_
                      refine g_iload dX1_spreadFrom_92 rfl ?_
                      refine g_iload dX1_spreadFrom_94 rfl ?_
                      refine g_iastore dX1_spreadFrom_96 (by first | rfl | assumption) (by first | decide | (show _ < 62; omega)) ?_
                      refine g_aload_n (i := 0) dX1_spreadFrom_97 rfl rfl ?_
                      refine g_getP dX1_spreadFrom_98 fl1_19 (by first | rfl | assumption) (by first | decide | (show _ < 62; omega)) (by first | rfl | assumption) ?_
                      refine g_iload dX1_spreadFrom_101 rfl ?_
                      refine g_iload dX1_spreadFrom_103 rfl ?_
                      refine g_iastore dX1_spreadFrom_105 (by first | rfl | assumption) (by first | decide | (show _ < 62; omega)) ?_
                      refine g_iinc6 dX1_spreadFrom_106 rfl ?_
                      first
                        | (have hinNN := hinN)
                        | (have hinO : ∀ x, 0 ≤ x → x < j + 1 → cr (ds wd N kd) e n m x → c2 24 x = -1 → ¬ (ds wd N kd) (c2 26 nx) x ≤ e := fun x q0 q1 hx hx2 => by
                            by_cases h : x = j
                            · subst h
                              first
                                | omega
                                | exact hcj.elim (fun q => absurd q.1 (by omega)) (fun q => absurd hx q.2)
                            · exact hin x q0 (by omega) hx hx2)
                      refine g_iinc8 dX1_spreadFrom_109 rfl ?_
                      refine g_goto 40 dX1_spreadFrom_112 (by decide) ?_
                      exact ih40 _ _ _ (by omega) (by first | assumption | omega) (by first | assumption | omega) (by first | assumption | omega) (by first | exact ff2 | exact fun k k1 k2 => by rw [qu_ne k2, qu_ne k1]; exact ff2 k k1 k2) (by
            first
              | exact kn2
              | (show kn + 1 = cn (fun b => if b = j then g else c2 24 b) n g
                 have h := cn_up (f := c2 24) (x := j) (g := g) (by omega) n.toNat j0
                 rw [show ((n.toNat : Nat) : Int) = n by omega, if_pos (by omega)] at h
                 omega)) (by omega) (by first | exact hw2 | exact hwN) (by first | exact hb2 | exact hbN) (by first | exact hr2 | exact hrN) (by first | exact hcl2 | exact hclN) (by first | exact hinN | exact hinO)
          exact L40 _ _ _ _ (Nat.lt_succ_self _) (by first | assumption | omega) (by first | assumption | omega) (by first | assumption | omega) ff kn k1 hw hb hr hcl (fun x q0 q1 => by omega)
  exact L23 _ _ _ _ (Nat.lt_succ_self _) (by first | assumption | omega) (by first | assumption | omega) (fun k k1 k2 => by rw [qu_ne k2, qu_ne k1]) (by
      show 1 = cn (fun b => if b = r then g else c 24 b) n g
      have h := cn_up (f := c 24) (x := r) (g := g) (by rw [hl r r0 r1]; omega) n.toNat r0
      rw [show ((n.toNat : Nat) : Int) = n by omega, if_pos r1] at h
      have h2 := cn_0 (f := c 24) (g := g) t3.1 (fun x q0 q1 => by rw [hl x q0 q1]; have := hlab x; omega)
      omega) (by first | assumption | omega) (fun q q0 q1 => by
      obtain rfl : q = 0 := by omega
      exact ⟨⟨r0, r1⟩, by show qu c 24 r g 24 r = g; rw [qu_eq], Rch.self⟩) (fun x q0 q1 => by
      by_cases h : x = r
      · subst h; right; exact ⟨by show qu c 24 x g 24 x = g; rw [qu_eq], Rch.self, 0, by omega, by omega, rfl⟩
      · left; show qu c 24 r g 24 x = lab x; rw [qu_off h]; exact hl x q0 q1) (by show qu c 24 r g 24 r = g; rw [qu_eq]) (fun q x q0 q1 => by omega)
set_option maxHeartbeats 4000000 in
set_option maxRecDepth 100000 in
theorem k_X1_spread (c : qC) (n wd kd e m : Int) (N : Int → Int → Int) (hT : Tb c n wd N) (d0 : 0 ≤ kd) (d1 : kd < 3) (e0 : 0 ≤ e) (e1 : e ≤ 20000000) (m0 : 1 ≤ m ∧ m ≤ 30) : qN X1_spread 3 [qP 23, qP 1, qI kd, qI e, qI m] c (pI (fun z c' => z = dnM (ds wd N kd) e n m ∧ (∀ k, k ≠ 24 → k ≠ 25 → k ≠ 26 → c' k = c k) ∧ ∀ x, 0 ≤ x → x < n → c' 24 x = dnG (ds wd N kd) e n m x)) := by
  have hT0 := hT
  obtain ⟨t1, t2, t3, t4, t5, t6, t7⟩ := hT
  refine qN.of [some (qP 23), some (qP 1), some (qI kd), some (qI e), some (qI m), none, none] (by decide) rfl (fun _ => rfl) (fun _ => Nat.le_of_ble_eq_true rfl) ?_
  refine g_iconst dX1_spread_0 ?_
  refine g_istore5 dX1_spread_1 rfl ?_
  have L3 : ∀ (fu3 : Nat) (j : Int) (c1 : qC), (n - j).toNat < fu3 → (0 ≤ j) → (j ≤ n) → (∀ k, k ≠ 24 → k ≠ 25 → k ≠ 26 → c1 k = c k) → (∀ x, 0 ≤ x → x < j → c1 24 x = -1) → (∀ x, 0 ≤ x → x < j → (c1 25 x = 1 ∧ cr (ds wd N kd) e n m x) ∨ (c1 25 x = 0 ∧ ¬ cr (ds wd N kd) e n m x)) → qG (qYn X1_spread 3 (pI (fun z c' => z = dnM (ds wd N kd) e n m ∧ (∀ k, k ≠ 24 → k ≠ 25 → k ≠ 26 → c' k = c k) ∧ ∀ x, 0 ≤ x → x < n → c' 24 x = dnG (ds wd N kd) e n m x))) wN 3 [some (qP 23), some (qP 1), some (qI kd), some (qI e), some (qI m), some (qI j), none] [] c1 := by
    intro fu3
    induction fu3 with
    | zero => intro j c1 hm; exact absurd hm (Nat.not_lt_zero _)
    | succ fu3 ih3 =>
      intro j c1 hm3 j0 j1 ff hl hc
      have r1 : c1 1 3 = n := by rw [ff 1 (by decide) (by decide) (by decide)]; exact t1
      have hTc : Tb c1 n wd N := hT0.fr (ff 1 (by decide) (by decide) (by decide)) (ff 2 (by decide) (by decide) (by decide)) (ff 3 (by decide) (by decide) (by decide))
      have hTq : ∀ v, Tb (qu c1 24 j v) n wd N := fun v => hTc.fr (qu_ne (by decide)) (qu_ne (by decide)) (qu_ne (by decide))
      have hwb := wn_bd (D := ds wd N kd) (e := e) (r := j) t3.1
      refine g_iload dX1_spread_3 rfl ?_
      refine g_aload_n (i := 1) dX1_spread_5 rfl rfl ?_
      refine g_getI (ji := 3) dX1_spread_6 fl1_22 (by first | rfl | assumption) (by first | decide | (show _ < 62; omega)) (by first | rfl | assumption) (by decide) rfl (by first | assumption | rfl) ?_
      refine g_icmp_ge 52 dX1_spread_9 (by decide) (fun b9 => ?_) (fun b9 => ?_)
      · skip
        refine g_iconst dX1_spread_52 ?_
        refine g_istore5 dX1_spread_53 rfl ?_
        refine g_iconst dX1_spread_55 ?_
        refine g_istore6 dX1_spread_56 rfl ?_
        have L58 : ∀ (fu58 : Nat) (a j : Int) (c1 : qC), (n - j).toNat < fu58 → (0 ≤ j) → (j ≤ n) → (∀ k, k ≠ 24 → k ≠ 25 → k ≠ 26 → c1 k = c k) → (∀ x, 0 ≤ x → x < n → (c1 25 x = 1 ∧ cr (ds wd N kd) e n m x) ∨ (c1 25 x = 0 ∧ ¬ cr (ds wd N kd) e n m x)) → (a = (LB (ds wd N kd) e n m j.toNat).2) → (∀ x, 0 ≤ x → x < n → c1 24 x = (LB (ds wd N kd) e n m j.toNat).1 x) → qG (qYn X1_spread 3 (pI (fun z c' => z = dnM (ds wd N kd) e n m ∧ (∀ k, k ≠ 24 → k ≠ 25 → k ≠ 26 → c' k = c k) ∧ ∀ x, 0 ≤ x → x < n → c' 24 x = dnG (ds wd N kd) e n m x))) wN 58 [some (qP 23), some (qP 1), some (qI kd), some (qI e), some (qI m), some (qI a), some (qI j)] [] c1 := by
          intro fu58
          induction fu58 with
          | zero => intro a j c1 hm; exact absurd hm (Nat.not_lt_zero _)
          | succ fu58 ih58 =>
            intro a j c1 hm58 j0 j1 ff hc ha hl
            have r1 : c1 1 3 = n := by rw [ff 1 (by decide) (by decide) (by decide)]; exact t1
            have hTc : Tb c1 n wd N := hT0.fr (ff 1 (by decide) (by decide) (by decide)) (ff 2 (by decide) (by decide) (by decide)) (ff 3 (by decide) (by decide) (by decide))
            have hbd := LB_bd (D := (ds wd N kd)) (e := e) (n := n) (m := m) j.toNat
            rw [← ha] at hbd
            refine g_iload dX1_spread_58 rfl ?_
            refine g_aload_n (i := 1) dX1_spread_60 rfl rfl ?_
            refine g_getI (ji := 3) dX1_spread_61 fl1_22 (by first | rfl | assumption) (by first | decide | (show _ < 62; omega)) (by first | rfl | assumption) (by decide) rfl (by first | assumption | rfl) ?_
            refine g_icmp_ge 108 dX1_spread_64 (by decide) (fun b64 => ?_) (fun b64 => ?_)
            · skip
              rw [show a = dnM (ds wd N kd) e n m by rw [ha, show j = n by omega]; rfl]
              refine g_iconst dX1_spread_108 ?_
              refine g_istore6 dX1_spread_109 rfl ?_
              have L111 : ∀ (fu111 : Nat) (j : Int) (c1 : qC), (n - j).toNat < fu111 → (0 ≤ j) → (j ≤ n) → (∀ k, k ≠ 24 → k ≠ 25 → k ≠ 26 → c1 k = c k) → (∀ x, 0 ≤ x → x < n → (c1 25 x = 1 ∧ cr (ds wd N kd) e n m x) ∨ (c1 25 x = 0 ∧ ¬ cr (ds wd N kd) e n m x)) → (∀ x, 0 ≤ x → x < n → (cr (ds wd N kd) e n m x ∨ j ≤ x) → c1 24 x = (LB (ds wd N kd) e n m n.toNat).1 x) → (∀ x, 0 ≤ x → x < j → c1 24 x = dnG (ds wd N kd) e n m x) → qG (qYn X1_spread 3 (pI (fun z c' => z = dnM (ds wd N kd) e n m ∧ (∀ k, k ≠ 24 → k ≠ 25 → k ≠ 26 → c' k = c k) ∧ ∀ x, 0 ≤ x → x < n → c' 24 x = dnG (ds wd N kd) e n m x))) wN 111 [some (qP 23), some (qP 1), some (qI kd), some (qI e), some (qI m), some (qI (dnM (ds wd N kd) e n m)), some (qI j)] [] c1 := by
                intro fu111
                induction fu111 with
                | zero => intro j c1 hm; exact absurd hm (Nat.not_lt_zero _)
                | succ fu111 ih111 =>
                  intro j c1 hm111 j0 j1 ff hc hl hd
                  have r1 : c1 1 3 = n := by rw [ff 1 (by decide) (by decide) (by decide)]; exact t1
                  have hTc : Tb c1 n wd N := hT0.fr (ff 1 (by decide) (by decide) (by decide)) (ff 2 (by decide) (by decide) (by decide)) (ff 3 (by decide) (by decide) (by decide))
                  have hbd := LB_bd (D := (ds wd N kd)) (e := e) (n := n) (m := m) n.toNat
                  refine g_iload dX1_spread_111 rfl ?_
                  refine g_aload_n (i := 1) dX1_spread_113 rfl rfl ?_
                  refine g_getI (ji := 3) dX1_spread_114 fl1_22 (by first | rfl | assumption) (by first | decide | (show _ < 62; omega)) (by first | rfl | assumption) (by decide) rfl (by first | assumption | rfl) ?_
                  refine g_icmp_ge 152 dX1_spread_117 (by decide) (fun b117 => ?_) (fun b117 => ?_)
                  · skip
                    refine g_iload dX1_spread_152 rfl ?_
                    exact n_reti dX1_spread_154 rfl (⟨rfl, ff, fun x q0 q1 => hd x q0 (by omega)⟩)
                  · skip
                    have hcj := hc j j0 (by omega)
                    refine g_aload_n (i := 0) dX1_spread_120 rfl rfl ?_
                    refine g_getP dX1_spread_121 fl1_15 (by first | rfl | assumption) (by first | decide | (show _ < 62; omega)) (by first | rfl | assumption) ?_
                    refine g_iload dX1_spread_124 rfl ?_
                    refine g_baload dX1_spread_126 (by first | rfl | assumption) (by first | decide | (show _ < 62; omega)) ?_
                    refine g_if_ne 146 dX1_spread_127 (by decide) (fun b127 => ?_) (fun b127 => ?_)
                    · skip
                      first
                        | (have hncrr := hncr)
                        | (have hcrj : cr (ds wd N kd) e n m j := hcj.elim (fun h => h.2) (fun h => absurd h.1 (by omega)))
                      refine g_iinc6 dX1_spread_146 rfl ?_
                      refine g_goto 111 dX1_spread_149 (by decide) ?_
                      exact ih111 _ _ (by omega) (by first | assumption | omega) (by first | assumption | omega) (by first | exact ff | exact fun k k1 k2 k3 => by rw [qu_ne k1]; exact ff k k1 k2 k3) (by first | exact hc | exact fun x q0 q1 => hc x q0 q1) (fun x q0 q1 q2 => by
          first
            | exact hl x q0 q1 (by omega)
            | (rw [qu_at]
               split
               · rename_i h; subst h; exact absurd (q2.elim (fun q => q) (fun q => by omega)) hncr
               · exact hl x q0 q1 (q2.elim Or.inl (fun q => Or.inr (by omega))))
            | exact hl x q0 q1 (q2.elim Or.inl (fun q => Or.inr (by omega)))) (fun x q0 q1 => by
          by_cases h : x = j
          · subst h
            unfold dnG
            first
              | (rw [qu_eq, if_neg hncr])
              | (rw [if_pos hcrj]; exact hl x q0 (by omega) (Or.inl hcrj))
          · first
              | (rw [qu_off h]; exact hd x q0 (by omega))
              | exact hd x q0 (by omega))
                    · skip
                      have hncr : ¬ cr (ds wd N kd) e n m j := hcj.elim (fun h => absurd h.1 (by omega)) (fun h => h.2)
                      refine g_aload_n (i := 0) dX1_spread_130 rfl rfl ?_
                      refine g_getP dX1_spread_131 fl1_9 (by first | rfl | assumption) (by first | decide | (show _ < 62; omega)) (by first | rfl | assumption) ?_
                      refine g_iload dX1_spread_134 rfl ?_
                      refine g_aload_n (i := 0) dX1_spread_136 rfl rfl ?_
                      refine g_aload_n (i := 1) dX1_spread_137 rfl rfl ?_
                      refine g_iload_n (i := 2) dX1_spread_138 rfl rfl ?_
                      refine g_iload_n (i := 3) dX1_spread_139 rfl rfl ?_
                      refine g_iload dX1_spread_140 rfl ?_
                      refine n_callVi (k_X1_leastGroupWithin _ n wd _ _ m N hTc d0 d1 e0 e1 _ (LB (ds wd N kd) e n m n.toNat).1 (LB (ds wd N kd) e n m n.toNat).2 (by omega) (by omega) (by omega) hc hbd.2.1 (fun x q0 q1 q2 => hl x q0 q1 (Or.inl q2))) dX1_spread_142 lk1_36 im_X1_leastGroupWithin (by first | rfl | assumption) (by first | decide | (show _ < 62; omega)) rfl rfl rfl rfl (Nat.le_of_ble_eq_true rfl) (fun z c' hz => ?_)
                      obtain ⟨rfl, hz2⟩ := hz
                      have hz2 := hz2.symm
                      subst hz2
                      refine g_iastore dX1_spread_145 (by first | rfl | assumption) (by first | decide | (show _ < 62; omega)) ?_
                      first
                        | (have hncrr := hncr)
                        | (have hcrj : cr (ds wd N kd) e n m j := hcj.elim (fun h => h.2) (fun h => absurd h.1 (by omega)))
                      refine g_iinc6 dX1_spread_146 rfl ?_
                      refine g_goto 111 dX1_spread_149 (by decide) ?_
                      exact ih111 _ _ (by omega) (by first | assumption | omega) (by first | assumption | omega) (by first | exact ff | exact fun k k1 k2 k3 => by rw [qu_ne k1]; exact ff k k1 k2 k3) (by first | exact hc | exact fun x q0 q1 => hc x q0 q1) (fun x q0 q1 q2 => by
          first
            | exact hl x q0 q1 (by omega)
            | (rw [qu_at]
               split
               · rename_i h; subst h; exact absurd (q2.elim (fun q => q) (fun q => by omega)) hncr
               · exact hl x q0 q1 (q2.elim Or.inl (fun q => Or.inr (by omega))))
            | exact hl x q0 q1 (q2.elim Or.inl (fun q => Or.inr (by omega)))) (fun x q0 q1 => by
          by_cases h : x = j
          · subst h
            unfold dnG
            first
              | (rw [qu_eq, if_neg hncr])
              | (rw [if_pos hcrj]; exact hl x q0 (by omega) (Or.inl hcrj))
          · first
              | (rw [qu_off h]; exact hd x q0 (by omega))
              | exact hd x q0 (by omega))
              exact L111 _ _ _ (Nat.lt_succ_self _) (by first | assumption | omega) (by first | assumption | omega) (by first | assumption | omega) (by first | assumption | omega) (fun x q0 q1 _ => by rw [hl x q0 q1, show j = n by omega]) (fun x q0 q1 => by omega)
            · skip
              have hcj := hc j j0 (by omega)
              have hlj := hl j j0 (by omega)
              have hlb := hbd.2.1 j
              refine g_aload_n (i := 0) dX1_spread_67 rfl rfl ?_
              refine g_getP dX1_spread_68 fl1_15 (by first | rfl | assumption) (by first | decide | (show _ < 62; omega)) (by first | rfl | assumption) ?_
              refine g_iload dX1_spread_71 rfl ?_
              refine g_baload dX1_spread_73 (by first | rfl | assumption) (by first | decide | (show _ < 62; omega)) ?_
              refine g_if_eq 102 dX1_spread_74 (by decide) (fun b74 => ?_) (fun b74 => ?_)
              · skip
                refine g_iinc6 dX1_spread_102 rfl ?_
                refine g_goto 58 dX1_spread_105 (by decide) ?_
                exact ih58 _ _ _ (by omega) (by first | assumption | omega) (by first | assumption | omega) (by first | exact ff | exact fun k k1 k2 k3 => by rw [hz.1 k k1 k3]; exact ff k k1 k2 k3) (by first | exact hc | exact fun x q0 q1 => by rw [hz.1 25 (by decide) (by decide)]; exact hc x q0 q1) (by
          first
            | (rw [LB_no j0 (fun h => absurd h.1 (hcj.elim (fun q => absurd q.1 (by omega)) (fun q => q.2)))]; exact ha)
            | (rw [LB_no j0 (fun h => by omega)]; exact ha)
            | (rw [LB_yes j0 ⟨hcrj, by omega⟩, ha])) (by
          first
            | (rw [LB_no j0 (fun h => absurd h.1 (hcj.elim (fun q => absurd q.1 (by omega)) (fun q => q.2)))]; exact hl)
            | (rw [LB_no j0 (fun h => by omega)]; exact hl)
            | (rw [LB_yes j0 ⟨hcrj, by omega⟩, ← ha]; exact hz.2))
              · skip
                have hcrj : cr (ds wd N kd) e n m j := hcj.elim (fun h => h.2) (fun h => absurd h.1 (by omega))
                refine g_aload_n (i := 0) dX1_spread_77 rfl rfl ?_
                refine g_getP dX1_spread_78 fl1_9 (by first | rfl | assumption) (by first | decide | (show _ < 62; omega)) (by first | rfl | assumption) ?_
                refine g_iload dX1_spread_81 rfl ?_
                refine g_iaload dX1_spread_83 rfl (by decide) ?_
                rw [hlj]
                skip -- ?_
                refine g_iconst dX1_spread_84 ?_
                refine g_icmp_ne 102 dX1_spread_85 (by decide) (fun b85 => ?_) (fun b85 => ?_)
                · skip
                  refine g_iinc6 dX1_spread_102 rfl ?_
                  refine g_goto 58 dX1_spread_105 (by decide) ?_
                  exact ih58 _ _ _ (by omega) (by first | assumption | omega) (by first | assumption | omega) (by first | exact ff | exact fun k k1 k2 k3 => by rw [hz.1 k k1 k3]; exact ff k k1 k2 k3) (by first | exact hc | exact fun x q0 q1 => by rw [hz.1 25 (by decide) (by decide)]; exact hc x q0 q1) (by
          first
            | (rw [LB_no j0 (fun h => absurd h.1 (hcj.elim (fun q => absurd q.1 (by omega)) (fun q => q.2)))]; exact ha)
            | (rw [LB_no j0 (fun h => by omega)]; exact ha)
            | (rw [LB_yes j0 ⟨hcrj, by omega⟩, ha])) (by
          first
            | (rw [LB_no j0 (fun h => absurd h.1 (hcj.elim (fun q => absurd q.1 (by omega)) (fun q => q.2)))]; exact hl)
            | (rw [LB_no j0 (fun h => by omega)]; exact hl)
            | (rw [LB_yes j0 ⟨hcrj, by omega⟩, ← ha]; exact hz.2))
                · skip
                  refine g_aload_n (i := 0) dX1_spread_88 rfl rfl ?_
                  refine g_aload_n (i := 1) dX1_spread_89 rfl rfl ?_
                  refine g_iload_n (i := 2) dX1_spread_90 rfl rfl ?_
                  refine g_iload_n (i := 3) dX1_spread_91 rfl rfl ?_
                  refine g_iload dX1_spread_92 rfl ?_
                  refine g_iload dX1_spread_94 rfl ?_
                  refine n_callVv (k_X1_spreadFrom _ n wd _ _ m N hTc d0 d1 e0 e1 _ _ (LB (ds wd N kd) e n m j.toNat).1 (by omega) (by omega) (by omega) (by omega) hc (by omega) hl (fun x => by have := hbd.2.1 x; omega)) dX1_spread_96 lk1_32 im_X1_spreadFrom (by first | rfl | assumption) (by first | decide | (show _ < 62; omega)) rfl rfl rfl rfl (Nat.le_of_ble_eq_true rfl) (fun c2 hz => ?_)
                  skip
                  refine g_iinc5 dX1_spread_99 rfl ?_
                  refine g_iinc6 dX1_spread_102 rfl ?_
                  refine g_goto 58 dX1_spread_105 (by decide) ?_
                  exact ih58 _ _ _ (by omega) (by first | assumption | omega) (by first | assumption | omega) (by first | exact ff | exact fun k k1 k2 k3 => by rw [hz.1 k k1 k3]; exact ff k k1 k2 k3) (by first | exact hc | exact fun x q0 q1 => by rw [hz.1 25 (by decide) (by decide)]; exact hc x q0 q1) (by
          first
            | (rw [LB_no j0 (fun h => absurd h.1 (hcj.elim (fun q => absurd q.1 (by omega)) (fun q => q.2)))]; exact ha)
            | (rw [LB_no j0 (fun h => by omega)]; exact ha)
            | (rw [LB_yes j0 ⟨hcrj, by omega⟩, ha])) (by
          first
            | (rw [LB_no j0 (fun h => absurd h.1 (hcj.elim (fun q => absurd q.1 (by omega)) (fun q => q.2)))]; exact hl)
            | (rw [LB_no j0 (fun h => by omega)]; exact hl)
            | (rw [LB_yes j0 ⟨hcrj, by omega⟩, ← ha]; exact hz.2))
        exact L58 _ _ _ _ (Nat.lt_succ_self _) (by first | assumption | omega) (by first | assumption | omega) (by first | assumption | omega) (fun x q0 q1 => hc x q0 (by omega)) rfl (fun x q0 q1 => hl x q0 (by omega))
      · skip
        refine g_aload_n (i := 0) dX1_spread_12 rfl rfl ?_
        refine g_getP dX1_spread_13 fl1_9 (by first | rfl | assumption) (by first | decide | (show _ < 62; omega)) (by first | rfl | assumption) ?_
        refine g_iload dX1_spread_16 rfl ?_
        refine g_iconst dX1_spread_18 ?_
        refine g_iastore dX1_spread_19 (by first | rfl | assumption) (by first | decide | (show _ < 62; omega)) ?_
        refine g_aload_n (i := 0) dX1_spread_20 rfl rfl ?_
        refine g_getP dX1_spread_21 fl1_15 (by first | rfl | assumption) (by first | decide | (show _ < 62; omega)) (by first | rfl | assumption) ?_
        refine g_iload dX1_spread_24 rfl ?_
        refine g_aload_n (i := 0) dX1_spread_26 rfl rfl ?_
        refine g_aload_n (i := 1) dX1_spread_27 rfl rfl ?_
        refine g_iload_n (i := 2) dX1_spread_28 rfl rfl ?_
        refine g_iload_n (i := 3) dX1_spread_29 rfl rfl ?_
        refine g_iload dX1_spread_30 rfl ?_
        refine n_callVi (k_X1_rowsWithin _ n wd _ _ _ N (hTq _) d0 d1 e0 e1 (by omega) (by omega)) dX1_spread_32 lk1_28 im_X1_rowsWithin (by first | rfl | assumption) (by first | decide | (show _ < 62; omega)) rfl rfl rfl rfl (Nat.le_of_ble_eq_true rfl) (fun z c' hz => ?_)
        obtain ⟨rfl, hz2⟩ := hz
        have hz2 := hz2.symm
        subst hz2
        refine g_iload dX1_spread_35 rfl ?_
        refine g_icmp_lt 44 dX1_spread_37 (by decide) (fun b37 => ?_) (fun b37 => ?_)
        · skip
          refine g_iconst dX1_spread_44 ?_
          refine g_bastore dX1_spread_45 (by first | rfl | assumption) (by first | decide | (show _ < 62; omega)) (by first | exact Or.inl rfl | exact Or.inr rfl | omega) ?_
          refine g_iinc5 dX1_spread_46 rfl ?_
          refine g_goto 3 dX1_spread_49 (by decide) ?_
          exact ih3 _ _ (by omega) (by first | assumption | omega) (by first | assumption | omega) (fun k k1 k2 k3 => by rw [qu_ne k2, qu_ne k1]; exact ff k k1 k2 k3) (fun x q0 q1 => by
          show qu c1 24 j (-1) 24 x = -1
          rw [qu_at]; split
          · rfl
          · exact hl x q0 (by omega)) (fun x q0 q1 => by
          by_cases h : x = j
          · subst h; rw [qu_eq]; first | exact Or.inl ⟨rfl, by unfold cr; omega⟩ | exact Or.inr ⟨rfl, by unfold cr; omega⟩
          · rw [qu_off h]; exact hc x q0 (by omega))
        · skip
          refine g_iconst dX1_spread_40 ?_
          refine g_goto 45 dX1_spread_41 (by decide) ?_
          refine g_bastore dX1_spread_45 (by first | rfl | assumption) (by first | decide | (show _ < 62; omega)) (by first | exact Or.inl rfl | exact Or.inr rfl | omega) ?_
          refine g_iinc5 dX1_spread_46 rfl ?_
          refine g_goto 3 dX1_spread_49 (by decide) ?_
          exact ih3 _ _ (by omega) (by first | assumption | omega) (by first | assumption | omega) (fun k k1 k2 k3 => by rw [qu_ne k2, qu_ne k1]; exact ff k k1 k2 k3) (fun x q0 q1 => by
          show qu c1 24 j (-1) 24 x = -1
          rw [qu_at]; split
          · rfl
          · exact hl x q0 (by omega)) (fun x q0 q1 => by
          by_cases h : x = j
          · subst h; rw [qu_eq]; first | exact Or.inl ⟨rfl, by unfold cr; omega⟩ | exact Or.inr ⟨rfl, by unfold cr; omega⟩
          · rw [qu_off h]; exact hc x q0 (by omega))
  exact L3 _ _ _ (Nat.lt_succ_self _) (by first | assumption | omega) (by first | assumption | omega) (fun k _ _ _ => rfl) (fun x q0 q1 => by omega) (fun x q0 q1 => by omega)
set_option maxHeartbeats 4000000 in
set_option maxRecDepth 100000 in
theorem k_X7_density (c : qC) (n wd : Int) (N : Int → Int → Int) (S : Sl) (mm : Int) (md : Int → Int) (T : Tr) (hS : CS c n wd N S mm md T) (s kd e m : Int) (s0 : iR s) (d0 : iR kd) (e0 : iR e) (m0 : iR m) : qN X7_density 4 [qP 0, qI s, qI kd, qI e, qI m] c (pI (fun z c' => z = a_den n wd N s kd e m ∧ CS c' n wd N (s_den n wd N S s kd e m) mm md T ∧ FrC c c')) := by
  have hS0 := hS
  obtain ⟨hT, hSl, hMd, hTr⟩ := hS
  have hT0 := hT
  obtain ⟨t1, t2, t3, t4, t5, t6, t7⟩ := hT
  refine qN.of [some (qP 0), some (qI s), some (qI kd), some (qI e), some (qI m), none] (by decide) rfl (fun _ => rfl) (fun _ => Nat.le_of_ble_eq_true rfl) ?_
  refine g_iload_n (i := 1) dX7_density_0 rfl rfl ?_
  refine n_callSi (k_X7_isSlot _ _ (by omega)) dX7_density_1 lk7_100 sm_X7_isSlot rfl rfl rfl (Nat.le_of_ble_eq_true rfl) (fun z c' hz => ?_)
  obtain ⟨hz2, hz⟩ := hz
  have hz2 := hz2.symm
  subst hz2
  refine g_if_eq 37 dX7_density_4 (by decide) (fun b4 => ?_) (fun b4 => ?_)
  · skip
    refine g_ldc (z := -2000000002) dX7_density_37 cw7_58 ?_
    exact n_reti dX7_density_39 rfl (⟨by unfold a_den; rw [if_neg (by omega)], by unfold s_den; rw [if_neg (by omega)]; exact hS0, FrC.rf c⟩)
  · skip
    refine g_iload_n (i := 2) dX7_density_7 rfl rfl ?_
    refine n_callSi (k_X7_isKind _ _ (by omega)) dX7_density_8 lk7_90 sm_X7_isKind rfl rfl rfl (Nat.le_of_ble_eq_true rfl) (fun z c' hz => ?_)
    obtain ⟨hz2, hz⟩ := hz
    have hz2 := hz2.symm
    subst hz2
    refine g_if_eq 37 dX7_density_11 (by decide) (fun b11 => ?_) (fun b11 => ?_)
    · skip
      refine g_ldc (z := -2000000002) dX7_density_37 cw7_58 ?_
      exact n_reti dX7_density_39 rfl (⟨by unfold a_den; rw [if_neg (by omega)], by unfold s_den; rw [if_neg (by omega)]; exact hS0, FrC.rf c⟩)
    · skip
      refine g_iload_n (i := 3) dX7_density_14 rfl rfl ?_
      refine g_if_lt 37 dX7_density_15 (by decide) (fun b15 => ?_) (fun b15 => ?_)
      · skip
        refine g_ldc (z := -2000000002) dX7_density_37 cw7_58 ?_
        exact n_reti dX7_density_39 rfl (⟨by unfold a_den; rw [if_neg (by omega)], by unfold s_den; rw [if_neg (by omega)]; exact hS0, FrC.rf c⟩)
      · skip
        refine g_iload_n (i := 3) dX7_density_18 rfl rfl ?_
        refine g_ldc (z := 20000000) dX7_density_19 cw7_126 ?_
        refine g_icmp_gt 37 dX7_density_21 (by decide) (fun b21 => ?_) (fun b21 => ?_)
        · skip
          refine g_ldc (z := -2000000002) dX7_density_37 cw7_58 ?_
          exact n_reti dX7_density_39 rfl (⟨by unfold a_den; rw [if_neg (by omega)], by unfold s_den; rw [if_neg (by omega)]; exact hS0, FrC.rf c⟩)
        · skip
          refine g_iload dX7_density_24 rfl ?_
          refine g_iconst dX7_density_26 ?_
          refine g_icmp_lt 37 dX7_density_27 (by decide) (fun b27 => ?_) (fun b27 => ?_)
          · skip
            refine g_ldc (z := -2000000002) dX7_density_37 cw7_58 ?_
            exact n_reti dX7_density_39 rfl (⟨by unfold a_den; rw [if_neg (by omega)], by unfold s_den; rw [if_neg (by omega)]; exact hS0, FrC.rf c⟩)
          · skip
            refine g_iload dX7_density_30 rfl ?_
            refine g_bipush dX7_density_32 (by decide) ?_
            refine g_icmp_le 40 dX7_density_34 (by decide) (fun b34 => ?_) (fun b34 => ?_)
            · skip
              refine g_aload_n (i := 0) dX7_density_40 rfl rfl ?_
              refine g_getP dX7_density_41 fl7_10 (by first | rfl | assumption) (by first | decide | (show _ < 62; omega)) (by first | rfl | assumption) ?_
              refine g_getI (ji := 3) dX7_density_44 fl7_59 (by first | rfl | assumption) (by first | decide | (show _ < 62; omega)) (by first | rfl | assumption) (by decide) rfl (by first | assumption | rfl) ?_
              refine g_if_ne 53 dX7_density_47 (by decide) (fun b47 => ?_) (fun b47 => ?_)
              · skip
                have hok : (0 ≤ s ∧ s ≤ 1) ∧ (0 ≤ kd ∧ kd ≤ 2) ∧ (0 ≤ e ∧ e ≤ 20000000) ∧ 1 ≤ m ∧ m ≤ 30 := by omega
                obtain ⟨o, hoS, ho1, hLo, ho62, ho58, hL1, hL2, ho63, ho64⟩ := oS_ex (s := s) (by omega)
                have hdb := dn_bd (D := ds wd N kd) (e := e) (m := m) t3.1
                refine g_aload_n (i := 0) dX7_density_53 rfl rfl ?_
                refine g_getP dX7_density_54 fl7_40 (by first | rfl | assumption) (by first | decide | (show _ < 62; omega)) (by first | rfl | assumption) ?_
                refine g_aload_n (i := 0) dX7_density_57 rfl rfl ?_
                refine g_getP dX7_density_58 fl7_10 (by first | rfl | assumption) (by first | decide | (show _ < 62; omega)) (by first | rfl | assumption) ?_
                refine g_iload_n (i := 2) dX7_density_61 rfl rfl ?_
                refine g_iload_n (i := 3) dX7_density_62 rfl rfl ?_
                refine g_iload dX7_density_63 rfl ?_
                refine n_callVi (k_X1_spread _ n wd _ _ _ N hT0 (by omega) (by omega) (by omega) (by omega) (by omega)) dX7_density_65 lk7_127 im_X1_spread (by first | rfl | assumption) (by first | decide | (show _ < 62; omega)) rfl rfl rfl rfl (Nat.le_of_ble_eq_true rfl) (fun z c1 hz => ?_)
                obtain ⟨rfl, hf, hl⟩ := hz
                have r1 : c1 1 3 = n := by rw [hf 1 (by decide) (by decide) (by decide)]; exact t1
                refine g_istore5 dX7_density_68 rfl ?_
                refine g_aload_n (i := 0) dX7_density_70 rfl rfl ?_
                refine g_getP dX7_density_71 fl7_18 (by first | rfl | assumption) (by first | decide | (show _ < 62; omega)) (by first | rfl | assumption) ?_
                refine g_iload_n (i := 1) dX7_density_74 rfl rfl ?_
                refine g_aaload dX7_density_75 rfl (by decide) ho1 ?_
                refine g_aload_n (i := 0) dX7_density_76 rfl rfl ?_
                refine g_getP dX7_density_77 fl7_40 (by first | rfl | assumption) (by first | decide | (show _ < 62; omega)) (by first | rfl | assumption) ?_
                refine g_getP dX7_density_80 fl7_131 (by first | rfl | assumption) (by first | decide | (show _ < 62; omega)) (by first | rfl | assumption) ?_
                refine g_aload_n (i := 0) dX7_density_83 rfl rfl ?_
                refine g_getP dX7_density_84 fl7_10 (by first | rfl | assumption) (by first | decide | (show _ < 62; omega)) (by first | rfl | assumption) ?_
                refine g_getI (ji := 3) dX7_density_87 fl7_59 (by first | rfl | assumption) (by first | decide | (show _ < 62; omega)) (by first | rfl | assumption) (by decide) rfl (by first | assumption | rfl) ?_
                refine g_iload dX7_density_90 rfl ?_
                refine n_callVv (kk_fill (q := 24) (g := dnG (ds wd N kd) e n m) ho58 rfl (by decide) (by omega) t3 (by omega) (fun r q0 q1 => ⟨hl r q0 q1, by have := hdb.2 r; omega⟩)) dX7_density_92 lk7_111 im_X3_fill hLo ho62 rfl rfl rfl rfl (Nat.le_of_ble_eq_true rfl) (fun c2 hz => ?_)
                obtain ⟨hG, hf2⟩ := hz
                refine g_iload dX7_density_95 rfl ?_
                exact n_reti dX7_density_97 rfl (⟨by unfold a_den; rw [if_pos hok, if_neg (by omega)], by unfold s_den; rw [if_pos hok, if_neg (by omega)]; exact hS0.sup hoS (by omega) ho58 hG (fun k k0 k1 k2 k3 => by rw [hf2 k k1 k2 k3]; exact hf k (by omega) (by omega) (by omega)), fun k hk => by rw [hf2 k (by omega) (by omega) (by omega)]; exact hf k (by omega) (by omega) (by omega)⟩)
              · skip
                refine g_ldc (z := -2000000003) dX7_density_50 cw7_63 ?_
                exact n_reti dX7_density_52 rfl (⟨by unfold a_den; rw [if_pos (by omega), if_pos (by omega)], by unfold s_den; rw [if_pos (by omega), if_pos (by omega)]; exact hS0, FrC.rf c⟩)
            · skip
              refine g_ldc (z := -2000000002) dX7_density_37 cw7_58 ?_
              exact n_reti dX7_density_39 rfl (⟨by unfold a_den; rw [if_neg (by omega)], by unfold s_den; rw [if_neg (by omega)]; exact hS0, FrC.rf c⟩)
set_option maxHeartbeats 4000000 in
set_option maxRecDepth 100000 in
theorem k_X8_spread (c : qC) (n wd kd e m : Int) (N : Int → Int → Int) (hM : Md c n wd N) (d0 : 0 ≤ kd) (d1 : kd < 3) (e0 : 0 ≤ e) (e1 : e ≤ 20000000) (r g : Int) (lab : Int → Int) (g0 : 0 ≤ g) (g1 : g < 30) (r0 : 0 ≤ r) (r1 : r < n) (hc : ∀ x, 0 ≤ x → x < n → (c 55 x = 1 ∧ cr (ds wd N kd) e n m x) ∨ (c 55 x = 0 ∧ ¬ cr (ds wd N kd) e n m x)) (hlr : lab r = -1) (hl : ∀ x, 0 ≤ x → x < n → c 53 x = if x = r then g else lab x) (hlab : ∀ x, (0 ≤ lab x ∧ lab x < g) ∨ lab x = -1) : qN X8_spread 1 [qP 39, qI kd, qI e, qI g] c (pV (fun c' => (∀ k, k ≠ 53 → c' k = c k) ∧ ∀ x, 0 ≤ x → x < n → c' 53 x = nl (ds wd N kd) e n m lab r g x)) := by
  have hM0 := hM
  obtain ⟨t1, t2, t3, t4, t5, t6⟩ := hM
  refine qN.of [some (qP 39), some (qI kd), some (qI e), some (qI g), none, none, none] (by decide) rfl (fun _ => rfl) (fun _ => Nat.le_of_ble_eq_true rfl) ?_
  refine g_iconst dX8_spread_0 ?_
  refine g_istore4 dX8_spread_1 rfl ?_
  have L3 : ∀ (fu3 : Nat) (mo : Int) (c1 : qC), (2 * (n - cn (c1 53) n g) + mo).toNat < fu3 → (mo = 0 ∨ mo = 1) → (∀ k, k ≠ 53 → c1 k = c k) → (∀ x, 0 ≤ x → x < n → c1 53 x = lab x ∨ (c1 53 x = g ∧ Rch (ds wd N kd) e n m lab r x)) → (c1 53 r = g) → (mo = 0 → ∀ y x, 0 ≤ y → y < n → 0 ≤ x → x < n → c1 53 y = g → cr (ds wd N kd) e n m x → c1 53 x = -1 → ¬ (ds wd N kd) y x ≤ e) → qG (qYn X8_spread 1 (pV (fun c' => (∀ k, k ≠ 53 → c' k = c k) ∧ ∀ x, 0 ≤ x → x < n → c' 53 x = nl (ds wd N kd) e n m lab r g x))) wN 3 [some (qP 39), some (qI kd), some (qI e), some (qI g), some (qI mo), none, none] [] c1 := by
    intro fu3
    induction fu3 with
    | zero => intro mo c1 hm; exact absurd hm (Nat.not_lt_zero _)
    | succ fu3 ih3 =>
      intro mo c1 hm3 mb ff hb hr hcl
      have hkb := cn_bd (g := c1 53) (k := g) t3.1
      refine g_iload dX8_spread_3 rfl ?_
      refine g_if_eq 106 dX8_spread_5 (by decide) (fun b5 => ?_) (fun b5 => ?_)
      · skip
        exact n_retv dX8_spread_106 rfl (⟨ff, nl_char hr hb (fun x _ _ h => by have := hlab x; omega) (by omega) (hcl (by omega))⟩)
      · skip
        refine g_iconst dX8_spread_8 ?_
        refine g_istore4 dX8_spread_9 rfl ?_
        refine g_iconst dX8_spread_11 ?_
        refine g_istore5 dX8_spread_12 rfl ?_
        have L14 : ∀ (fu14 : Nat) (mo i : Int) (c2 : qC), (n - i).toNat < fu14 → (0 ≤ i) → (i ≤ n) → (mo = 0 ∨ mo = 1) → (∀ k, k ≠ 53 → c2 k = c k) → (∀ x, 0 ≤ x → x < n → c2 53 x = lab x ∨ (c2 53 x = g ∧ Rch (ds wd N kd) e n m lab r x)) → (c2 53 r = g) → (cn (c1 53) n g + mo ≤ cn (c2 53) n g) → (mo = 0 → ∀ y x, 0 ≤ y → y < i → 0 ≤ x → x < n → c2 53 y = g → cr (ds wd N kd) e n m x → c2 53 x = -1 → ¬ (ds wd N kd) y x ≤ e) → qG (qYn X8_spread 1 (pV (fun c' => (∀ k, k ≠ 53 → c' k = c k) ∧ ∀ x, 0 ≤ x → x < n → c' 53 x = nl (ds wd N kd) e n m lab r g x))) wN 14 [some (qP 39), some (qI kd), some (qI e), some (qI g), some (qI mo), some (qI i), none] [] c2 := by
          intro fu14
          induction fu14 with
          | zero => intro mo i c2 hm; exact absurd hm (Nat.not_lt_zero _)
          | succ fu14 ih14 =>
            intro mo i c2 hm14 i0 i1 mb2 ff2 hb2 hr2 hcn hcl2
            have hr3 : c2 39 0 = n := by rw [ff2 39 (by decide)]; exact t1
            have hkb2 := cn_bd (g := c2 53) (k := g) t3.1
            refine g_iload dX8_spread_14 rfl ?_
            refine g_aload_n (i := 0) dX8_spread_16 rfl rfl ?_
            refine g_getI (ji := 0) dX8_spread_17 fl8_82 (by first | rfl | assumption) (by first | decide | (show _ < 62; omega)) (by first | rfl | assumption) (by decide) rfl (by first | assumption | rfl) ?_
            refine g_icmp_ge 103 dX8_spread_20 (by decide) (fun b20 => ?_) (fun b20 => ?_)
            · skip
              refine g_goto 3 dX8_spread_103 (by decide) ?_
              refine g_fg5 ?_
              exact ih3 _ _ (by omega) mb2 ff2 hb2 hr2 (fun h y x y0 y1 h0 h1 => hcl2 h y x y0 (by omega) h0 h1)
            · skip
              refine g_iconst dX8_spread_23 ?_
              refine g_istore6 dX8_spread_24 rfl ?_
              have L26 : ∀ (fu26 : Nat) (mo j : Int) (c3 : qC), (n - j).toNat < fu26 → (0 ≤ j) → (j ≤ n) → (mo = 0 ∨ mo = 1) → (∀ k, k ≠ 53 → c3 k = c k) → (∀ x, 0 ≤ x → x < n → c3 53 x = lab x ∨ (c3 53 x = g ∧ Rch (ds wd N kd) e n m lab r x)) → (c3 53 r = g) → (cn (c1 53) n g + mo ≤ cn (c3 53) n g) → (mo = 0 → ∀ y x, 0 ≤ y → y < i → 0 ≤ x → x < n → c3 53 y = g → cr (ds wd N kd) e n m x → c3 53 x = -1 → ¬ (ds wd N kd) y x ≤ e) → (mo = 0 → ∀ x, 0 ≤ x → x < j → c3 53 i = g → cr (ds wd N kd) e n m x → c3 53 x = -1 → ¬ (ds wd N kd) i x ≤ e) → qG (qYn X8_spread 1 (pV (fun c' => (∀ k, k ≠ 53 → c' k = c k) ∧ ∀ x, 0 ≤ x → x < n → c' 53 x = nl (ds wd N kd) e n m lab r g x))) wN 26 [some (qP 39), some (qI kd), some (qI e), some (qI g), some (qI mo), some (qI i), some (qI j)] [] c3 := by
                intro fu26
                induction fu26 with
                | zero => intro mo j c3 hm; exact absurd hm (Nat.not_lt_zero _)
                | succ fu26 ih26 =>
                  intro mo j c3 hm26 j0 j1 mb3 ff3 hb3 hr3b hcn3 hcl3 hin
                  have hr4 : c3 39 0 = n := by rw [ff3 39 (by decide)]; exact t1
                  have hM3 : Md c3 n wd N := hM0.fr (by rw [ff3 39 (by decide)]) (by rw [ff3 39 (by decide)]) (ff3 40 (by decide))
                  have h55 : c3 55 = c 55 := ff3 55 (by decide)
                  have hlb : ∀ x, 0 ≤ x → x < n → -1 ≤ c3 53 x ∧ c3 53 x < 30 := fun x q0 q1 => by
                    rcases hb3 x q0 q1 with h | h
                    · have := hlab x; omega
                    · omega
                  have hli := hlb i i0 (by omega)
                  refine g_iload dX8_spread_26 rfl ?_
                  refine g_aload_n (i := 0) dX8_spread_28 rfl rfl ?_
                  refine g_getI (ji := 0) dX8_spread_29 fl8_82 (by first | rfl | assumption) (by first | decide | (show _ < 62; omega)) (by first | rfl | assumption) (by decide) rfl (by first | assumption | rfl) ?_
                  refine g_icmp_ge 97 dX8_spread_32 (by decide) (fun b32 => ?_) (fun b32 => ?_)
                  · skip
                    refine g_iinc5 dX8_spread_97 rfl ?_
                    refine g_goto 14 dX8_spread_100 (by decide) ?_
                    refine g_fg6 ?_
                    exact ih14 _ _ _ (by omega) (by first | assumption | omega) (by first | assumption | omega) mb3 ff3 hb3 hr3b hcn3 (fun h y x y0 y1 h0 h1 hy hx hx2 => by
        by_cases hq : y = i
        · subst hq; first | exact absurd hy (by omega) | exact hin h x h0 (by omega) hy hx hx2
        · exact hcl3 h y x y0 (by omega) h0 h1 hy hx hx2)
                  · skip
                    refine g_aload_n (i := 0) dX8_spread_35 rfl rfl ?_
                    refine g_getP dX8_spread_36 fl8_55 (by first | rfl | assumption) (by first | decide | (show _ < 62; omega)) (by first | rfl | assumption) ?_
                    refine g_iload dX8_spread_39 rfl ?_
                    refine g_iaload dX8_spread_41 (by first | rfl | assumption) (by first | decide | (show _ < 62; omega)) ?_
                    refine g_iload_n (i := 3) dX8_spread_42 rfl rfl ?_
                    refine g_icmp_ne 97 dX8_spread_43 (by decide) (fun b43 => ?_) (fun b43 => ?_)
                    · skip
                      refine g_iinc5 dX8_spread_97 rfl ?_
                      refine g_goto 14 dX8_spread_100 (by decide) ?_
                      refine g_fg6 ?_
                      exact ih14 _ _ _ (by omega) (by first | assumption | omega) (by first | assumption | omega) mb3 ff3 hb3 hr3b hcn3 (fun h y x y0 y1 h0 h1 hy hx hx2 => by
        by_cases hq : y = i
        · subst hq; first | exact absurd hy (by omega) | exact hin h x h0 (by omega) hy hx hx2
        · exact hcl3 h y x y0 (by omega) h0 h1 hy hx hx2)
                    · skip
                      have hcj := hc j j0 (by omega)
                      rw [← h55] at hcj
                      have hlj := hlb j j0 (by omega)
                      refine g_aload_n (i := 0) dX8_spread_46 rfl rfl ?_
                      refine g_getP dX8_spread_47 fl8_61 (by first | rfl | assumption) (by first | decide | (show _ < 62; omega)) (by first | rfl | assumption) ?_
                      refine g_iload dX8_spread_50 rfl ?_
                      refine g_baload dX8_spread_52 (by first | rfl | assumption) (by first | decide | (show _ < 62; omega)) ?_
                      refine g_if_eq 91 dX8_spread_53 (by decide) (fun b53 => ?_) (fun b53 => ?_)
                      · skip
                        first
                          | (have hcnNN := hcnN)
                          | (have hinO : mo = 0 → ∀ x, 0 ≤ x → x < j + 1 → c3 53 i = g → cr (ds wd N kd) e n m x → c3 53 x = -1 → ¬ (ds wd N kd) i x ≤ e := fun h0 x q0 q1 hi hx hx2 => by
                              by_cases h : x = j
                              · subst h
                                first
                                  | omega
                                  | exact hcj.elim (fun q => absurd q.1 (by omega)) (fun q => absurd hx q.2)
                              · exact hin h0 x q0 (by omega) hi hx hx2)
                        refine g_iinc6 dX8_spread_91 rfl ?_
                        refine g_goto 26 dX8_spread_94 (by decide) ?_
                        exact ih26 _ _ _ (by omega) (by first | assumption | omega) (by first | assumption | omega) (by first | exact mb3 | exact Or.inr rfl) (by first | exact ff3 | exact fun k hk => by rw [qu_ne hk]; exact ff3 k hk) (by first | exact hb3 | exact hbN) (by first | exact hr3b | exact hrN) (by first | exact hcn3 | exact hcnN) (by first | exact hcl3 | exact fun h => by omega) (by first | exact hinO | exact fun h => by omega)
                      · skip
                        refine g_aload_n (i := 0) dX8_spread_56 rfl rfl ?_
                        refine g_getP dX8_spread_57 fl8_55 (by first | rfl | assumption) (by first | decide | (show _ < 62; omega)) (by first | rfl | assumption) ?_
                        refine g_iload dX8_spread_60 rfl ?_
                        refine g_iaload dX8_spread_62 (by first | rfl | assumption) (by first | decide | (show _ < 62; omega)) ?_
                        refine g_iconst dX8_spread_63 ?_
                        refine g_icmp_ne 91 dX8_spread_64 (by decide) (fun b64 => ?_) (fun b64 => ?_)
                        · skip
                          first
                            | (have hcnNN := hcnN)
                            | (have hinO : mo = 0 → ∀ x, 0 ≤ x → x < j + 1 → c3 53 i = g → cr (ds wd N kd) e n m x → c3 53 x = -1 → ¬ (ds wd N kd) i x ≤ e := fun h0 x q0 q1 hi hx hx2 => by
                                by_cases h : x = j
                                · subst h
                                  first
                                    | omega
                                    | exact hcj.elim (fun q => absurd q.1 (by omega)) (fun q => absurd hx q.2)
                                · exact hin h0 x q0 (by omega) hi hx hx2)
                          refine g_iinc6 dX8_spread_91 rfl ?_
                          refine g_goto 26 dX8_spread_94 (by decide) ?_
                          exact ih26 _ _ _ (by omega) (by first | assumption | omega) (by first | assumption | omega) (by first | exact mb3 | exact Or.inr rfl) (by first | exact ff3 | exact fun k hk => by rw [qu_ne hk]; exact ff3 k hk) (by first | exact hb3 | exact hbN) (by first | exact hr3b | exact hrN) (by first | exact hcn3 | exact hcnN) (by first | exact hcl3 | exact fun h => by omega) (by first | exact hinO | exact fun h => by omega)
                        · skip
                          refine g_aload_n (i := 0) dX8_spread_67 rfl rfl ?_
                          refine g_iload_n (i := 1) dX8_spread_68 rfl rfl ?_
                          refine g_iload dX8_spread_69 rfl ?_
                          refine g_iload dX8_spread_71 rfl ?_
                          refine n_callVi (k_X8_apart _ n wd _ _ _ N hM3 (by omega) (by omega) (by omega) (by omega) (by omega) (by omega)) dX8_spread_73 lk8_105 im_X8_apart (by first | rfl | assumption) (by first | decide | (show _ < 62; omega)) rfl rfl rfl rfl (Nat.le_of_ble_eq_true rfl) (fun z c' hz => ?_)
                          obtain ⟨rfl, hz2⟩ := hz
                          have hz2 := hz2.symm
                          subst hz2
                          have hab := hM0.bd (kd := kd) i0 (show i < n by omega) j0 (show j < n by omega)
                          refine g_iload_n (i := 2) dX8_spread_76 rfl rfl ?_
                          refine g_icmp_gt 91 dX8_spread_77 (by decide) (fun b77 => ?_) (fun b77 => ?_)
                          · skip
                            first
                              | (have hcnNN := hcnN)
                              | (have hinO : mo = 0 → ∀ x, 0 ≤ x → x < j + 1 → c3 53 i = g → cr (ds wd N kd) e n m x → c3 53 x = -1 → ¬ (ds wd N kd) i x ≤ e := fun h0 x q0 q1 hi hx hx2 => by
                                  by_cases h : x = j
                                  · subst h
                                    first
                                      | omega
                                      | exact hcj.elim (fun q => absurd q.1 (by omega)) (fun q => absurd hx q.2)
                                  · exact hin h0 x q0 (by omega) hi hx hx2)
                            refine g_iinc6 dX8_spread_91 rfl ?_
                            refine g_goto 26 dX8_spread_94 (by decide) ?_
                            exact ih26 _ _ _ (by omega) (by first | assumption | omega) (by first | assumption | omega) (by first | exact mb3 | exact Or.inr rfl) (by first | exact ff3 | exact fun k hk => by rw [qu_ne hk]; exact ff3 k hk) (by first | exact hb3 | exact hbN) (by first | exact hr3b | exact hrN) (by first | exact hcn3 | exact hcnN) (by first | exact hcl3 | exact fun h => by omega) (by first | exact hinO | exact fun h => by omega)
                          · skip
                            have hcrj : cr (ds wd N kd) e n m j := hcj.elim (fun h => h.2) (fun h => absurd h.1 (by omega))
                            have hjl : lab j = -1 := (hb3 j j0 (by omega)).elim (fun h => by omega) (fun h => absurd h.1 (by omega))
                            have hRi : Rch (ds wd N kd) e n m lab r i := (hb3 i i0 (by omega)).elim (fun h => by have := hlab i; omega) (fun h => h.2)
                            have hRj : Rch (ds wd N kd) e n m lab r j := hRi.step ⟨i0, by omega⟩ ⟨j0, by omega⟩ hcrj hjl (by omega)
                            have hbN : ∀ x, 0 ≤ x → x < n → qu c3 53 j g 53 x = lab x ∨ (qu c3 53 j g 53 x = g ∧ Rch (ds wd N kd) e n m lab r x) := fun x q0 q1 => by
                              rw [qu_at]
                              by_cases h : x = j
                              · subst h; right; rw [if_pos rfl]; exact ⟨rfl, hRj⟩
                              · rw [if_neg h]; exact hb3 x q0 q1
                            have hrN : qu c3 53 j g 53 r = g := by
                              rw [qu_at]; split
                              · rfl
                              · exact hr3b
                            have hcnN : cn (c1 53) n g + 1 ≤ cn (qu c3 53 j g 53) n g := by
                              show cn (c1 53) n g + 1 ≤ cn (fun b => if b = j then g else c3 53 b) n g
                              have h := cn_up (f := c3 53) (x := j) (g := g) (by omega) n.toNat j0
                              rw [show ((n.toNat : Nat) : Int) = n by omega, if_pos (by omega)] at h
                              omega
                            refine g_aload_n (i := 0) dX8_spread_80 rfl rfl ?_
                            refine g_getP dX8_spread_81 fl8_55 (by first | rfl | assumption) (by first | decide | (show _ < 62; omega)) (by first | rfl | assumption) ?_
                            refine g_iload dX8_spread_84 rfl ?_
                            refine g_iload_n (i := 3) dX8_spread_86 rfl rfl ?_
                            refine g_iastore dX8_spread_87 (by first | rfl | assumption) (by first | decide | (show _ < 62; omega)) ?_
                            refine g_iconst dX8_spread_88 ?_
                            refine g_istore4 dX8_spread_89 rfl ?_
                            first
                              | (have hcnNN := hcnN)
                              | (have hinO : mo = 0 → ∀ x, 0 ≤ x → x < j + 1 → c3 53 i = g → cr (ds wd N kd) e n m x → c3 53 x = -1 → ¬ (ds wd N kd) i x ≤ e := fun h0 x q0 q1 hi hx hx2 => by
                                  by_cases h : x = j
                                  · subst h
                                    first
                                      | omega
                                      | exact hcj.elim (fun q => absurd q.1 (by omega)) (fun q => absurd hx q.2)
                                  · exact hin h0 x q0 (by omega) hi hx hx2)
                            refine g_iinc6 dX8_spread_91 rfl ?_
                            refine g_goto 26 dX8_spread_94 (by decide) ?_
                            exact ih26 _ _ _ (by omega) (by first | assumption | omega) (by first | assumption | omega) (by first | exact mb3 | exact Or.inr rfl) (by first | exact ff3 | exact fun k hk => by rw [qu_ne hk]; exact ff3 k hk) (by first | exact hb3 | exact hbN) (by first | exact hr3b | exact hrN) (by first | exact hcn3 | exact hcnN) (by first | exact hcl3 | exact fun h => by omega) (by first | exact hinO | exact fun h => by omega)
              exact L26 _ _ _ _ (Nat.lt_succ_self _) (by first | assumption | omega) (by first | assumption | omega) mb2 ff2 hb2 hr2 hcn hcl2 (fun _ x q0 q1 => by omega)
        exact L14 _ _ _ _ (Nat.lt_succ_self _) (by first | assumption | omega) (by first | assumption | omega) (Or.inl rfl) ff hb hr (by omega) (fun _ y x y0 y1 => by omega)
  exact L3 _ _ _ (Nat.lt_succ_self _) (Or.inr rfl) (fun k _ => rfl) (fun x q0 q1 => by
      rw [hl x q0 q1]
      by_cases h : x = r
      · subst h; right; rw [if_pos rfl]; exact ⟨rfl, Rch.self⟩
      · left; rw [if_neg h]) (by rw [hl r r0 r1, if_pos rfl]) (fun h => by omega)
set_option maxHeartbeats 4000000 in
set_option maxRecDepth 100000 in
theorem k_X8_density (c : qC) (n wd : Int) (N : Int → Int → Int) (S : Sl) (mm : Int) (md : Int → Int) (T : Tr) (hS : TS c n wd N S mm md T) (s kd e m : Int) (s0 : iR s) (d0 : iR kd) (e0 : iR e) (m0 : iR m) : qN X8_density 2 [qP 39, qI s, qI kd, qI e, qI m] c (pI (fun z c' => z = a_den n wd N s kd e m ∧ TS c' n wd N (s_den n wd N S s kd e m) mm md T ∧ FrT c c')) := by
  have hS0 := hS
  obtain ⟨hM, hSl, hMd, hTr⟩ := hS
  have hM0 := hM
  obtain ⟨t1, t2, t3, t4, t5, t6⟩ := hM
  refine qN.of [some (qP 39), some (qI s), some (qI kd), some (qI e), some (qI m), none, none, none, none, none] (by decide) rfl (fun _ => rfl) (fun _ => Nat.le_of_ble_eq_true rfl) ?_
  refine g_iload_n (i := 1) dX8_density_0 rfl rfl ?_
  refine g_iconst dX8_density_1 ?_
  refine g_iconst dX8_density_2 ?_
  refine n_callSi (k_X8_within _ _ _ _ (by omega) (by omega) (by omega)) dX8_density_3 lk8_85 sm_X8_within rfl rfl rfl (Nat.le_of_ble_eq_true rfl) (fun z c' hz => ?_)
  obtain ⟨hz2, hz⟩ := hz
  have hz2 := hz2.symm
  subst hz2
  refine g_if_eq 39 dX8_density_6 (by decide) (fun b6 => ?_) (fun b6 => ?_)
  · skip
    refine g_ldc (z := -2000000002) dX8_density_39 cw8_96 ?_
    exact n_reti dX8_density_41 rfl (⟨by unfold a_den; rw [if_neg (by omega)], by unfold s_den; rw [if_neg (by omega)]; exact hS0, FrT.rf c⟩)
  · skip
    refine g_iload_n (i := 2) dX8_density_9 rfl rfl ?_
    refine g_iconst dX8_density_10 ?_
    refine g_iconst dX8_density_11 ?_
    refine n_callSi (k_X8_within _ _ _ _ (by omega) (by omega) (by omega)) dX8_density_12 lk8_85 sm_X8_within rfl rfl rfl (Nat.le_of_ble_eq_true rfl) (fun z c' hz => ?_)
    obtain ⟨hz2, hz⟩ := hz
    have hz2 := hz2.symm
    subst hz2
    refine g_if_eq 39 dX8_density_15 (by decide) (fun b15 => ?_) (fun b15 => ?_)
    · skip
      refine g_ldc (z := -2000000002) dX8_density_39 cw8_96 ?_
      exact n_reti dX8_density_41 rfl (⟨by unfold a_den; rw [if_neg (by omega)], by unfold s_den; rw [if_neg (by omega)]; exact hS0, FrT.rf c⟩)
    · skip
      refine g_iload_n (i := 3) dX8_density_18 rfl rfl ?_
      refine g_iconst dX8_density_19 ?_
      refine g_ldc (z := 20000000) dX8_density_20 cw8_151 ?_
      refine n_callSi (k_X8_within _ _ _ _ (by omega) (by omega) (by omega)) dX8_density_22 lk8_85 sm_X8_within rfl rfl rfl (Nat.le_of_ble_eq_true rfl) (fun z c' hz => ?_)
      obtain ⟨hz2, hz⟩ := hz
      have hz2 := hz2.symm
      subst hz2
      refine g_if_eq 39 dX8_density_25 (by decide) (fun b25 => ?_) (fun b25 => ?_)
      · skip
        refine g_ldc (z := -2000000002) dX8_density_39 cw8_96 ?_
        exact n_reti dX8_density_41 rfl (⟨by unfold a_den; rw [if_neg (by omega)], by unfold s_den; rw [if_neg (by omega)]; exact hS0, FrT.rf c⟩)
      · skip
        refine g_iload dX8_density_28 rfl ?_
        refine g_iconst dX8_density_30 ?_
        refine g_bipush dX8_density_31 (by decide) ?_
        refine n_callSi (k_X8_within _ _ _ _ (by omega) (by omega) (by omega)) dX8_density_33 lk8_85 sm_X8_within rfl rfl rfl (Nat.le_of_ble_eq_true rfl) (fun z c' hz => ?_)
        obtain ⟨hz2, hz⟩ := hz
        have hz2 := hz2.symm
        subst hz2
        refine g_if_ne 42 dX8_density_36 (by decide) (fun b36 => ?_) (fun b36 => ?_)
        · skip
          refine g_aload_n (i := 0) dX8_density_42 rfl rfl ?_
          refine g_getI (ji := 0) dX8_density_43 fl8_82 (by first | rfl | assumption) (by first | decide | (show _ < 62; omega)) (by first | rfl | assumption) (by decide) rfl (by first | assumption | rfl) ?_
          refine g_if_ne 52 dX8_density_46 (by decide) (fun b46 => ?_) (fun b46 => ?_)
          · skip
            have hok : (0 ≤ s ∧ s ≤ 1) ∧ (0 ≤ kd ∧ kd ≤ 2) ∧ (0 ≤ e ∧ e ≤ 20000000) ∧ 1 ≤ m ∧ m ≤ 30 := by omega
            have hdb := dn_bd (D := ds wd N kd) (e := e) (m := m) t3.1
            refine g_iconst dX8_density_52 ?_
            refine g_istore5 dX8_density_53 rfl ?_
            have L55 : ∀ (fu55 : Nat) (j : Int) (c1 : qC), (n - j).toNat < fu55 → (0 ≤ j) → (j ≤ n) → (∀ k, k ≠ 53 → k ≠ 55 → c1 k = c k) → (∀ x, 0 ≤ x → x < j → c1 53 x = -1) → (∀ x, 0 ≤ x → x < j → (c1 55 x = 1 ∧ cr (ds wd N kd) e n m x) ∨ (c1 55 x = 0 ∧ ¬ cr (ds wd N kd) e n m x)) → qG (qYn X8_density 2 (pI (fun z c' => z = a_den n wd N s kd e m ∧ TS c' n wd N (s_den n wd N S s kd e m) mm md T ∧ FrT c c'))) wN 55 [some (qP 39), some (qI s), some (qI kd), some (qI e), some (qI m), some (qI j), none, none, none, none] [] c1 := by
              intro fu55
              induction fu55 with
              | zero => intro j c1 hm; exact absurd hm (Nat.not_lt_zero _)
              | succ fu55 ih55 =>
                intro j c1 hm55 j0 j1 ff hl hc
                have r1 : c1 39 0 = n := by rw [ff 39 (by decide) (by decide)]; exact t1
                have hM1 : Md c1 n wd N := hM0.fr (by rw [ff 39 (by decide) (by decide)]) (by rw [ff 39 (by decide) (by decide)]) (ff 40 (by decide) (by decide))
                have hwb := wn_bd (D := ds wd N kd) (e := e) (r := j) t3.1
                refine g_iload dX8_density_55 rfl ?_
                refine g_aload_n (i := 0) dX8_density_57 rfl rfl ?_
                refine g_getI (ji := 0) dX8_density_58 fl8_82 (by first | rfl | assumption) (by first | decide | (show _ < 62; omega)) (by first | rfl | assumption) (by decide) rfl (by first | assumption | rfl) ?_
                refine g_icmp_ge 141 dX8_density_61 (by decide) (fun b61 => ?_) (fun b61 => ?_)
                · skip
                  refine g_iconst dX8_density_141 ?_
                  refine g_istore5 dX8_density_142 rfl ?_
                  refine g_iconst dX8_density_144 ?_
                  refine g_istore6 dX8_density_145 rfl ?_
                  have L147 : ∀ (fu147 : Nat) (a j : Int) (c1 : qC), (n - j).toNat < fu147 → (0 ≤ j) → (j ≤ n) → (∀ k, k ≠ 53 → k ≠ 55 → c1 k = c k) → (∀ x, 0 ≤ x → x < n → (c1 55 x = 1 ∧ cr (ds wd N kd) e n m x) ∨ (c1 55 x = 0 ∧ ¬ cr (ds wd N kd) e n m x)) → (a = (LB (ds wd N kd) e n m j.toNat).2) → (∀ x, 0 ≤ x → x < n → c1 53 x = (LB (ds wd N kd) e n m j.toNat).1 x) → qG (qYn X8_density 2 (pI (fun z c' => z = a_den n wd N s kd e m ∧ TS c' n wd N (s_den n wd N S s kd e m) mm md T ∧ FrT c c'))) wN 147 [some (qP 39), some (qI s), some (qI kd), some (qI e), some (qI m), some (qI a), some (qI j), none, none, none] [] c1 := by
                    intro fu147
                    induction fu147 with
                    | zero => intro a j c1 hm; exact absurd hm (Nat.not_lt_zero _)
                    | succ fu147 ih147 =>
                      intro a j c1 hm147 j0 j1 ff hc ha hl
                      have r1 : c1 39 0 = n := by rw [ff 39 (by decide) (by decide)]; exact t1
                      have hM1 : Md c1 n wd N := hM0.fr (by rw [ff 39 (by decide) (by decide)]) (by rw [ff 39 (by decide) (by decide)]) (ff 40 (by decide) (by decide))
                      have hbd := LB_bd (D := (ds wd N kd)) (e := e) (n := n) (m := m) j.toNat
                      rw [← ha] at hbd
                      refine g_iload dX8_density_147 rfl ?_
                      refine g_aload_n (i := 0) dX8_density_149 rfl rfl ?_
                      refine g_getI (ji := 0) dX8_density_150 fl8_82 (by first | rfl | assumption) (by first | decide | (show _ < 62; omega)) (by first | rfl | assumption) (by decide) rfl (by first | assumption | rfl) ?_
                      refine g_icmp_ge 203 dX8_density_153 (by decide) (fun b153 => ?_) (fun b153 => ?_)
                      · skip
                        rw [show a = dnM (ds wd N kd) e n m by rw [ha, show j = n by omega]; rfl]
                        refine g_iconst dX8_density_203 ?_
                        refine g_istore6 dX8_density_204 rfl ?_
                        have L206 : ∀ (fu206 : Nat) (j : Int) (c1 : qC), (n - j).toNat < fu206 → (0 ≤ j) → (j ≤ n) → (∀ k, k ≠ 53 → k ≠ 55 → k ≠ 43 → c1 k = c k) → (∀ x, 0 ≤ x → x < n → (c1 55 x = 1 ∧ cr (ds wd N kd) e n m x) ∨ (c1 55 x = 0 ∧ ¬ cr (ds wd N kd) e n m x)) → (∀ x, 0 ≤ x → x < n → c1 53 x = (LB (ds wd N kd) e n m n.toNat).1 x) → (∀ x, 0 ≤ x → x < j → c1 43 (30 * s + x) = dnG (ds wd N kd) e n m x) → (∀ t x, 0 ≤ t → t ≤ 1 → ¬ t = s → 0 ≤ x → x < n → c1 43 (30 * t + x) = c 43 (30 * t + x)) → qG (qYn X8_density 2 (pI (fun z c' => z = a_den n wd N s kd e m ∧ TS c' n wd N (s_den n wd N S s kd e m) mm md T ∧ FrT c c'))) wN 206 [some (qP 39), some (qI s), some (qI kd), some (qI e), some (qI m), some (qI (dnM (ds wd N kd) e n m)), some (qI j), none, none, none] [] c1 := by
                          intro fu206
                          induction fu206 with
                          | zero => intro j c1 hm; exact absurd hm (Nat.not_lt_zero _)
                          | succ fu206 ih206 =>
                            intro j c1 hm206 j0 j1 ff hc hl hd ho
                            have r1 : c1 39 0 = n := by rw [ff 39 (by decide) (by decide) (by decide)]; exact t1
                            have hM1 : Md c1 n wd N := hM0.fr (by rw [ff 39 (by decide) (by decide) (by decide)]) (by rw [ff 39 (by decide) (by decide) (by decide)]) (ff 40 (by decide) (by decide) (by decide))
                            have hbd := LB_bd (D := (ds wd N kd)) (e := e) (n := n) (m := m) n.toNat
                            refine g_iload dX8_density_206 rfl ?_
                            refine g_aload_n (i := 0) dX8_density_208 rfl rfl ?_
                            refine g_getI (ji := 0) dX8_density_209 fl8_82 (by first | rfl | assumption) (by first | decide | (show _ < 62; omega)) (by first | rfl | assumption) (by decide) rfl (by first | assumption | rfl) ?_
                            refine g_icmp_ge 339 dX8_density_212 (by decide) (fun b212 => ?_) (fun b212 => ?_)
                            · skip
                              refine g_aload_n (i := 0) dX8_density_339 rfl rfl ?_
                              refine g_getP dX8_density_340 fl8_21 (by first | rfl | assumption) (by first | decide | (show _ < 62; omega)) (by first | rfl | assumption) ?_
                              refine g_iload_n (i := 1) dX8_density_343 rfl rfl ?_
                              refine g_iload dX8_density_344 rfl ?_
                              refine g_iastore dX8_density_346 (by first | rfl | assumption) (by first | decide | (show _ < 62; omega)) ?_
                              refine g_aload_n (i := 0) dX8_density_347 rfl rfl ?_
                              refine g_getP dX8_density_348 fl8_17 (by first | rfl | assumption) (by first | decide | (show _ < 62; omega)) (by first | rfl | assumption) ?_
                              refine g_iload_n (i := 1) dX8_density_351 rfl rfl ?_
                              refine g_iconst dX8_density_352 ?_
                              refine g_bastore dX8_density_353 (by first | rfl | assumption) (by first | decide | (show _ < 62; omega)) (by first | exact Or.inl rfl | exact Or.inr rfl | omega) ?_
                              refine g_iload dX8_density_354 rfl ?_
                              exact n_reti dX8_density_356 rfl (⟨by unfold a_den; rw [if_pos hok, if_neg (by omega)], by
      unfold s_den; rw [if_pos hok, if_neg (by omega)]
      exact hS0.sup (by omega) (by omega) (by show qu c1 41 s 1 41 = _; unfold qu; rw [if_pos rfl, if_pos rfl, ff 41 (by decide) (by decide) (by decide)]) (by show qu c1 42 s _ 42 = _; unfold qu; rw [if_pos rfl, if_pos rfl, ff 42 (by decide) (by decide) (by decide)]) (fun r r0 r1 => ⟨hd r r0 (by omega), by have := hdb.2 r; omega⟩) ho (fun k k0 k1 k2 k3 k4 => by rw [qu_ne k2, qu_ne k3]; exact ff k (by omega) (by omega) k4), fun k hk => by rw [qu_ne (by omega), qu_ne (by omega)]; exact ff k (by omega) (by omega) (by omega)⟩)
                            · skip
                              have hcj := hc j j0 (by omega)
                              have hlj := hl j j0 (by omega)
                              have hlbj := hbd.2.1 j
                              refine g_aload_n (i := 0) dX8_density_215 rfl rfl ?_
                              refine g_getP dX8_density_216 fl8_55 (by first | rfl | assumption) (by first | decide | (show _ < 62; omega)) (by first | rfl | assumption) ?_
                              refine g_iload dX8_density_219 rfl ?_
                              refine g_iaload dX8_density_221 (by first | rfl | assumption) (by first | decide | (show _ < 62; omega)) ?_
                              refine g_istore7 dX8_density_222 rfl ?_
                              refine g_iconst dX8_density_224 ?_
                              refine g_istore8 dX8_density_225 rfl ?_
                              have L227 : ∀ (fu227 : Nat) (g q : Int), (n - q).toNat < fu227 → (0 ≤ q) → (q ≤ n) → (cr (ds wd N kd) e n m j → g = (LB (ds wd N kd) e n m n.toNat).1 j) → (¬ cr (ds wd N kd) e n m j → g = lg (ds wd N kd) e n m (LB (ds wd N kd) e n m n.toNat).1 j q.toNat) → (-1 ≤ g ∧ g < 30) → qG (qYn X8_density 2 (pI (fun z c' => z = a_den n wd N s kd e m ∧ TS c' n wd N (s_den n wd N S s kd e m) mm md T ∧ FrT c c'))) wN 227 [some (qP 39), some (qI s), some (qI kd), some (qI e), some (qI m), some (qI (dnM (ds wd N kd) e n m)), some (qI j), some (qI g), some (qI q), none] [] c1 := by
                                intro fu227
                                induction fu227 with
                                | zero => intro g q hm; exact absurd hm (Nat.not_lt_zero _)
                                | succ fu227 ih227 =>
                                  intro g q hm227 q0 q1 hgc hgl gb
                                  refine g_iload dX8_density_227 rfl ?_
                                  refine g_aload_n (i := 0) dX8_density_229 rfl rfl ?_
                                  refine g_getI (ji := 0) dX8_density_230 fl8_82 (by first | rfl | assumption) (by first | decide | (show _ < 62; omega)) (by first | rfl | assumption) (by decide) rfl (by first | assumption | rfl) ?_
                                  refine g_icmp_ge 319 dX8_density_233 (by decide) (fun b233 => ?_) (fun b233 => ?_)
                                  · skip
                                    have hfin : g = dnG (ds wd N kd) e n m j := by
                                      unfold dnG
                                      by_cases hcc : cr (ds wd N kd) e n m j
                                      · rw [if_pos hcc]; exact hgc hcc
                                      · rw [if_neg hcc, hgl hcc]
                                        have h55j : c1 55 j = 0 := hcj.elim (fun h => absurd h.2 hcc) (fun h => h.1)
                                        rw [show q = n by omega]
                                    have hdj := hdb.2 j
                                    refine g_aload_n (i := 0) dX8_density_319 rfl rfl ?_
                                    refine g_getP dX8_density_320 fl8_24 (by first | rfl | assumption) (by first | decide | (show _ < 62; omega)) (by first | rfl | assumption) ?_
                                    refine g_bipush dX8_density_323 (by decide) ?_
                                    refine g_iload_n (i := 1) dX8_density_325 rfl rfl ?_
                                    refine g_imul dX8_density_326 ?_
                                    refine g_iload dX8_density_327 rfl ?_
                                    refine g_iadd dX8_density_329 ?_
                                    refine g_iload dX8_density_330 rfl ?_
                                    refine g_iastore dX8_density_332 (by first | rfl | assumption) (by first | decide | (show _ < 62; omega)) ?_
                                    refine g_iinc6 dX8_density_333 rfl ?_
                                    refine g_goto 206 dX8_density_336 (by decide) ?_
                                    refine g_fg7 ?_
                                    refine g_fg8 ?_
                                    exact ih206 _ _ (by omega) (by first | assumption | omega) (by first | assumption | omega) (fun k k1 k2 k3 => by rw [qu_ne k3]; exact ff k k1 k2 k3) hc hl (fun x x0 x1 => by
          by_cases h : x = j
          · subst h; rw [qu_eq]; exact hfin
          · rw [qu_off (by omega)]; exact hd x x0 (by omega)) (fun t x t0 t1 ts x0 x1 => by rw [qu_off (by omega)]; exact ho t x t0 t1 ts x0 x1)
                                  · skip
                                    refine g_aload_n (i := 0) dX8_density_236 rfl rfl ?_
                                    refine g_getP dX8_density_237 fl8_61 (by first | rfl | assumption) (by first | decide | (show _ < 62; omega)) (by first | rfl | assumption) ?_
                                    refine g_iload dX8_density_240 rfl ?_
                                    refine g_baload dX8_density_242 (by first | rfl | assumption) (by first | decide | (show _ < 62; omega)) ?_
                                    refine g_if_ne 319 dX8_density_243 (by decide) (fun b243 => ?_) (fun b243 => ?_)
                                    · skip
                                      have hfin : g = dnG (ds wd N kd) e n m j := by
                                        unfold dnG
                                        by_cases hcc : cr (ds wd N kd) e n m j
                                        · rw [if_pos hcc]; exact hgc hcc
                                        · rw [if_neg hcc, hgl hcc]
                                          have h55j : c1 55 j = 0 := hcj.elim (fun h => absurd h.2 hcc) (fun h => h.1)
                                          rw [show q = n by omega]
                                      have hdj := hdb.2 j
                                      refine g_aload_n (i := 0) dX8_density_319 rfl rfl ?_
                                      refine g_getP dX8_density_320 fl8_24 (by first | rfl | assumption) (by first | decide | (show _ < 62; omega)) (by first | rfl | assumption) ?_
                                      refine g_bipush dX8_density_323 (by decide) ?_
                                      refine g_iload_n (i := 1) dX8_density_325 rfl rfl ?_
                                      refine g_imul dX8_density_326 ?_
                                      refine g_iload dX8_density_327 rfl ?_
                                      refine g_iadd dX8_density_329 ?_
                                      refine g_iload dX8_density_330 rfl ?_
                                      refine g_iastore dX8_density_332 (by first | rfl | assumption) (by first | decide | (show _ < 62; omega)) ?_
                                      refine g_iinc6 dX8_density_333 rfl ?_
                                      refine g_goto 206 dX8_density_336 (by decide) ?_
                                      refine g_fg7 ?_
                                      refine g_fg8 ?_
                                      exact ih206 _ _ (by omega) (by first | assumption | omega) (by first | assumption | omega) (fun k k1 k2 k3 => by rw [qu_ne k3]; exact ff k k1 k2 k3) hc hl (fun x x0 x1 => by
          by_cases h : x = j
          · subst h; rw [qu_eq]; exact hfin
          · rw [qu_off (by omega)]; exact hd x x0 (by omega)) (fun t x t0 t1 ts x0 x1 => by rw [qu_off (by omega)]; exact ho t x t0 t1 ts x0 x1)
                                    · skip
                                      have hncr : ¬ cr (ds wd N kd) e n m j := hcj.elim (fun h => absurd h.1 (by omega)) (fun h => h.2)
                                      have hcq := hc q q0 (by omega)
                                      have hlq := hl q q0 (by omega)
                                      have hlbq := hbd.2.1 q
                                      have J274 : ∀ (fl : Int), ((fl = 1 ∧ cr (ds wd N kd) e n m q ∧ (ds wd N kd) j q ≤ e) ∨ (fl = 0 ∧ ¬ (cr (ds wd N kd) e n m q ∧ (ds wd N kd) j q ≤ e))) → qG (qYn X8_density 2 (pI (fun z c' => z = a_den n wd N s kd e m ∧ TS c' n wd N (s_den n wd N S s kd e m) mm md T ∧ FrT c c'))) wN 274 [some (qP 39), some (qI s), some (qI kd), some (qI e), some (qI m), some (qI (dnM (ds wd N kd) e n m)), some (qI j), some (qI g), some (qI q), none] [qI fl] c1 := by
                                        intro fl hfl
                                        refine g_istore9 dX8_density_274 rfl ?_
                                        refine g_iload dX8_density_276 rfl ?_
                                        refine g_if_eq 309 dX8_density_278 (by decide) (fun b278 => ?_) (fun b278 => ?_)
                                        · skip
                                          refine g_iload dX8_density_309 rfl ?_
                                          refine g_istore7 dX8_density_311 rfl ?_
                                          refine g_iinc8 dX8_density_313 rfl ?_
                                          refine g_goto 227 dX8_density_316 (by decide) ?_
                                          refine g_fg9 ?_
                                          exact ih227 _ _ (by omega) (by first | assumption | omega) (by first | assumption | omega) (fun h => absurd h hncr) (fun _ => by
            have hg1 := hgl hncr
            first
              | (rw [lg_yes q0 ⟨hfl.elim (fun h => h.2.1) (fun h => absurd h.1 (by omega)), hfl.elim (fun h => h.2.2) (fun h => absurd h.1 (by omega)), by rw [← hg1]; omega⟩]; exact hlq)
              | (rw [lg_no q0 (fun h => by rw [← hg1] at h; omega)]; exact hg1)
              | (rw [lg_no q0 (fun h => hfl.elim (fun h2 => absurd h2.1 (by omega)) (fun h2 => h2.2 ⟨h.1, h.2.1⟩))]; exact hg1)) (by omega)
                                        · skip
                                          refine g_iload dX8_density_281 rfl ?_
                                          refine g_iconst dX8_density_283 ?_
                                          refine g_icmp_eq 299 dX8_density_284 (by decide) (fun b284 => ?_) (fun b284 => ?_)
                                          · skip
                                            refine g_aload_n (i := 0) dX8_density_299 rfl rfl ?_
                                            refine g_getP dX8_density_300 fl8_55 (by first | rfl | assumption) (by first | decide | (show _ < 62; omega)) (by first | rfl | assumption) ?_
                                            refine g_iload dX8_density_303 rfl ?_
                                            refine g_iaload dX8_density_305 (by first | rfl | assumption) (by first | decide | (show _ < 62; omega)) ?_
                                            refine g_goto 311 dX8_density_306 (by decide) ?_
                                            refine g_istore7 dX8_density_311 rfl ?_
                                            refine g_iinc8 dX8_density_313 rfl ?_
                                            refine g_goto 227 dX8_density_316 (by decide) ?_
                                            refine g_fg9 ?_
                                            exact ih227 _ _ (by omega) (by first | assumption | omega) (by first | assumption | omega) (fun h => absurd h hncr) (fun _ => by
            have hg1 := hgl hncr
            first
              | (rw [lg_yes q0 ⟨hfl.elim (fun h => h.2.1) (fun h => absurd h.1 (by omega)), hfl.elim (fun h => h.2.2) (fun h => absurd h.1 (by omega)), by rw [← hg1]; omega⟩]; exact hlq)
              | (rw [lg_no q0 (fun h => by rw [← hg1] at h; omega)]; exact hg1)
              | (rw [lg_no q0 (fun h => hfl.elim (fun h2 => absurd h2.1 (by omega)) (fun h2 => h2.2 ⟨h.1, h.2.1⟩))]; exact hg1)) (by omega)
                                          · skip
                                            refine g_aload_n (i := 0) dX8_density_287 rfl rfl ?_
                                            refine g_getP dX8_density_288 fl8_55 (by first | rfl | assumption) (by first | decide | (show _ < 62; omega)) (by first | rfl | assumption) ?_
                                            refine g_iload dX8_density_291 rfl ?_
                                            refine g_iaload dX8_density_293 rfl (by decide) ?_
                                            rw [hlq]
                                            skip -- ?_
                                            refine g_iload dX8_density_294 rfl ?_
                                            refine g_icmp_ge 309 dX8_density_296 (by decide) (fun b296 => ?_) (fun b296 => ?_)
                                            · skip
                                              refine g_iload dX8_density_309 rfl ?_
                                              refine g_istore7 dX8_density_311 rfl ?_
                                              refine g_iinc8 dX8_density_313 rfl ?_
                                              refine g_goto 227 dX8_density_316 (by decide) ?_
                                              refine g_fg9 ?_
                                              exact ih227 _ _ (by omega) (by first | assumption | omega) (by first | assumption | omega) (fun h => absurd h hncr) (fun _ => by
            have hg1 := hgl hncr
            first
              | (rw [lg_yes q0 ⟨hfl.elim (fun h => h.2.1) (fun h => absurd h.1 (by omega)), hfl.elim (fun h => h.2.2) (fun h => absurd h.1 (by omega)), by rw [← hg1]; omega⟩]; exact hlq)
              | (rw [lg_no q0 (fun h => by rw [← hg1] at h; omega)]; exact hg1)
              | (rw [lg_no q0 (fun h => hfl.elim (fun h2 => absurd h2.1 (by omega)) (fun h2 => h2.2 ⟨h.1, h.2.1⟩))]; exact hg1)) (by omega)
                                            · skip
                                              refine g_aload_n (i := 0) dX8_density_299 rfl rfl ?_
                                              refine g_getP dX8_density_300 fl8_55 (by first | rfl | assumption) (by first | decide | (show _ < 62; omega)) (by first | rfl | assumption) ?_
                                              refine g_iload dX8_density_303 rfl ?_
                                              refine g_iaload dX8_density_305 (by first | rfl | assumption) (by first | decide | (show _ < 62; omega)) ?_
                                              refine g_goto 311 dX8_density_306 (by decide) ?_
                                              refine g_istore7 dX8_density_311 rfl ?_
                                              refine g_iinc8 dX8_density_313 rfl ?_
                                              refine g_goto 227 dX8_density_316 (by decide) ?_
                                              refine g_fg9 ?_
                                              exact ih227 _ _ (by omega) (by first | assumption | omega) (by first | assumption | omega) (fun h => absurd h hncr) (fun _ => by
            have hg1 := hgl hncr
            first
              | (rw [lg_yes q0 ⟨hfl.elim (fun h => h.2.1) (fun h => absurd h.1 (by omega)), hfl.elim (fun h => h.2.2) (fun h => absurd h.1 (by omega)), by rw [← hg1]; omega⟩]; exact hlq)
              | (rw [lg_no q0 (fun h => by rw [← hg1] at h; omega)]; exact hg1)
              | (rw [lg_no q0 (fun h => hfl.elim (fun h2 => absurd h2.1 (by omega)) (fun h2 => h2.2 ⟨h.1, h.2.1⟩))]; exact hg1)) (by omega)
                                      refine g_aload_n (i := 0) dX8_density_246 rfl rfl ?_
                                      refine g_getP dX8_density_247 fl8_61 (by first | rfl | assumption) (by first | decide | (show _ < 62; omega)) (by first | rfl | assumption) ?_
                                      refine g_iload dX8_density_250 rfl ?_
                                      refine g_baload dX8_density_252 (by first | rfl | assumption) (by first | decide | (show _ < 62; omega)) ?_
                                      refine g_if_eq 273 dX8_density_253 (by decide) (fun b253 => ?_) (fun b253 => ?_)
                                      · skip
                                        refine g_iconst dX8_density_273 ?_
                                        exact J274 _ (by first | exact Or.inl ⟨rfl, hcrq, by omega⟩ | exact Or.inr ⟨rfl, fun h => by omega⟩ | exact Or.inr ⟨rfl, fun h => hcq.elim (fun x => absurd x.1 (by omega)) (fun x => x.2 h.1)⟩)
                                      · skip
                                        have hcrq : cr (ds wd N kd) e n m q := hcq.elim (fun h => h.2) (fun h => absurd h.1 (by omega))
                                        refine g_aload_n (i := 0) dX8_density_256 rfl rfl ?_
                                        refine g_iload_n (i := 2) dX8_density_257 rfl rfl ?_
                                        refine g_iload dX8_density_258 rfl ?_
                                        refine g_iload dX8_density_260 rfl ?_
                                        refine n_callVi (k_X8_apart _ n wd _ _ _ N hM1 (by omega) (by omega) (by omega) (by omega) (by omega) (by omega)) dX8_density_262 lk8_105 im_X8_apart (by first | rfl | assumption) (by first | decide | (show _ < 62; omega)) rfl rfl rfl rfl (Nat.le_of_ble_eq_true rfl) (fun z c' hz => ?_)
                                        obtain ⟨rfl, hz2⟩ := hz
                                        have hz2 := hz2.symm
                                        subst hz2
                                        have hab := hM0.bd (kd := kd) j0 (show j < n by omega) q0 (show q < n by omega)
                                        refine g_iload_n (i := 3) dX8_density_265 rfl rfl ?_
                                        refine g_icmp_gt 273 dX8_density_266 (by decide) (fun b266 => ?_) (fun b266 => ?_)
                                        · skip
                                          refine g_iconst dX8_density_273 ?_
                                          exact J274 _ (by first | exact Or.inl ⟨rfl, hcrq, by omega⟩ | exact Or.inr ⟨rfl, fun h => by omega⟩ | exact Or.inr ⟨rfl, fun h => hcq.elim (fun x => absurd x.1 (by omega)) (fun x => x.2 h.1)⟩)
                                        · skip
                                          refine g_iconst dX8_density_269 ?_
                                          refine g_goto 274 dX8_density_270 (by decide) ?_
                                          exact J274 _ (by first | exact Or.inl ⟨rfl, hcrq, by omega⟩ | exact Or.inr ⟨rfl, fun h => by omega⟩ | exact Or.inr ⟨rfl, fun h => hcq.elim (fun x => absurd x.1 (by omega)) (fun x => x.2 h.1)⟩)
                              exact L227 _ _ _ (Nat.lt_succ_self _) (by first | assumption | omega) (by first | assumption | omega) (fun _ => hlj) (fun h => by rw [hlj, hbd.2.2 j h]; rfl) (by omega)
                        exact L206 _ _ _ (Nat.lt_succ_self _) (by first | assumption | omega) (by first | assumption | omega) (fun k k1 k2 _ => ff k k1 k2) (by first | assumption | omega) (fun x q0 q1 => by rw [hl x q0 q1, show j = n by omega]) (fun x q0 q1 => by omega) (fun t x _ _ _ _ _ => by rw [ff 43 (by decide) (by decide)])
                      · skip
                        have hcj := hc j j0 (by omega)
                        have hlj := hl j j0 (by omega)
                        have hlb := hbd.2.1 j
                        refine g_aload_n (i := 0) dX8_density_156 rfl rfl ?_
                        refine g_getP dX8_density_157 fl8_61 (by first | rfl | assumption) (by first | decide | (show _ < 62; omega)) (by first | rfl | assumption) ?_
                        refine g_iload dX8_density_160 rfl ?_
                        refine g_baload dX8_density_162 (by first | rfl | assumption) (by first | decide | (show _ < 62; omega)) ?_
                        refine g_if_eq 197 dX8_density_163 (by decide) (fun b163 => ?_) (fun b163 => ?_)
                        · skip
                          refine g_iinc6 dX8_density_197 rfl ?_
                          refine g_goto 147 dX8_density_200 (by decide) ?_
                          exact ih147 _ _ _ (by omega) (by first | assumption | omega) (by first | assumption | omega) (by first | exact ff | exact fun k k1 k2 => by rw [hz.1 k k1, qu_ne k1]; exact ff k k1 k2) (by first | exact hc | exact fun x q0 q1 => by rw [hz.1 55 (by decide)]; exact hc x q0 q1) (by
          first
            | (rw [LB_no j0 (fun h => absurd h.1 (hcj.elim (fun q => absurd q.1 (by omega)) (fun q => q.2)))]; exact ha)
            | (rw [LB_no j0 (fun h => by omega)]; exact ha)
            | (rw [LB_yes j0 ⟨hcrj, by omega⟩, ha])) (by
          first
            | (rw [LB_no j0 (fun h => absurd h.1 (hcj.elim (fun q => absurd q.1 (by omega)) (fun q => q.2)))]; exact hl)
            | (rw [LB_no j0 (fun h => by omega)]; exact hl)
            | (rw [LB_yes j0 ⟨hcrj, by omega⟩, ← ha]; exact hz.2))
                        · skip
                          have hcrj : cr (ds wd N kd) e n m j := hcj.elim (fun h => h.2) (fun h => absurd h.1 (by omega))
                          refine g_aload_n (i := 0) dX8_density_166 rfl rfl ?_
                          refine g_getP dX8_density_167 fl8_55 (by first | rfl | assumption) (by first | decide | (show _ < 62; omega)) (by first | rfl | assumption) ?_
                          refine g_iload dX8_density_170 rfl ?_
                          refine g_iaload dX8_density_172 rfl (by decide) ?_
                          rw [hlj]
                          skip -- ?_
                          refine g_iconst dX8_density_173 ?_
                          refine g_icmp_ne 197 dX8_density_174 (by decide) (fun b174 => ?_) (fun b174 => ?_)
                          · skip
                            refine g_iinc6 dX8_density_197 rfl ?_
                            refine g_goto 147 dX8_density_200 (by decide) ?_
                            exact ih147 _ _ _ (by omega) (by first | assumption | omega) (by first | assumption | omega) (by first | exact ff | exact fun k k1 k2 => by rw [hz.1 k k1, qu_ne k1]; exact ff k k1 k2) (by first | exact hc | exact fun x q0 q1 => by rw [hz.1 55 (by decide)]; exact hc x q0 q1) (by
          first
            | (rw [LB_no j0 (fun h => absurd h.1 (hcj.elim (fun q => absurd q.1 (by omega)) (fun q => q.2)))]; exact ha)
            | (rw [LB_no j0 (fun h => by omega)]; exact ha)
            | (rw [LB_yes j0 ⟨hcrj, by omega⟩, ha])) (by
          first
            | (rw [LB_no j0 (fun h => absurd h.1 (hcj.elim (fun q => absurd q.1 (by omega)) (fun q => q.2)))]; exact hl)
            | (rw [LB_no j0 (fun h => by omega)]; exact hl)
            | (rw [LB_yes j0 ⟨hcrj, by omega⟩, ← ha]; exact hz.2))
                          · skip
                            refine g_aload_n (i := 0) dX8_density_177 rfl rfl ?_
                            refine g_getP dX8_density_178 fl8_55 (by first | rfl | assumption) (by first | decide | (show _ < 62; omega)) (by first | rfl | assumption) ?_
                            refine g_iload dX8_density_181 rfl ?_
                            refine g_iload dX8_density_183 rfl ?_
                            refine g_iastore dX8_density_185 (by first | rfl | assumption) (by first | decide | (show _ < 62; omega)) ?_
                            refine g_aload_n (i := 0) dX8_density_186 rfl rfl ?_
                            refine g_iload_n (i := 2) dX8_density_187 rfl rfl ?_
                            refine g_iload_n (i := 3) dX8_density_188 rfl rfl ?_
                            refine g_iload dX8_density_189 rfl ?_
                            refine n_callVv (k_X8_spread (qu c1 53 j a) n wd _ _ m N (show Md (qu c1 53 j a) n wd N from hM1.fr rfl rfl rfl) (by omega) (by omega) (by omega) (by omega) j a (LB (ds wd N kd) e n m j.toNat).1 (by omega) (by omega) (by omega) (by omega) hc (by omega) (fun x q0 q1 => by rw [qu_at]; split; rfl; exact hl x q0 q1) (fun x => by have := hbd.2.1 x; omega)) dX8_density_191 lk8_152 im_X8_spread (by first | rfl | assumption) (by first | decide | (show _ < 62; omega)) rfl rfl rfl rfl (Nat.le_of_ble_eq_true rfl) (fun c2 hz => ?_)
                            skip
                            refine g_iinc5 dX8_density_194 rfl ?_
                            refine g_iinc6 dX8_density_197 rfl ?_
                            refine g_goto 147 dX8_density_200 (by decide) ?_
                            exact ih147 _ _ _ (by omega) (by first | assumption | omega) (by first | assumption | omega) (by first | exact ff | exact fun k k1 k2 => by rw [hz.1 k k1, qu_ne k1]; exact ff k k1 k2) (by first | exact hc | exact fun x q0 q1 => by rw [hz.1 55 (by decide)]; exact hc x q0 q1) (by
          first
            | (rw [LB_no j0 (fun h => absurd h.1 (hcj.elim (fun q => absurd q.1 (by omega)) (fun q => q.2)))]; exact ha)
            | (rw [LB_no j0 (fun h => by omega)]; exact ha)
            | (rw [LB_yes j0 ⟨hcrj, by omega⟩, ha])) (by
          first
            | (rw [LB_no j0 (fun h => absurd h.1 (hcj.elim (fun q => absurd q.1 (by omega)) (fun q => q.2)))]; exact hl)
            | (rw [LB_no j0 (fun h => by omega)]; exact hl)
            | (rw [LB_yes j0 ⟨hcrj, by omega⟩, ← ha]; exact hz.2))
                  exact L147 _ _ _ _ (Nat.lt_succ_self _) (by first | assumption | omega) (by first | assumption | omega) (by first | assumption | omega) (fun x q0 q1 => hc x q0 (by omega)) rfl (fun x q0 q1 => hl x q0 (by omega))
                · skip
                  refine g_iconst dX8_density_64 ?_
                  refine g_istore6 dX8_density_65 rfl ?_
                  refine g_iconst dX8_density_67 ?_
                  refine g_istore7 dX8_density_68 rfl ?_
                  have L70 : ∀ (fu70 : Nat) (a q : Int), (n - q).toNat < fu70 → (0 ≤ q) → (q ≤ n) → (a = sI (fun x => if (ds wd N kd) j x ≤ e then 1 else 0) q) → qG (qYn X8_density 2 (pI (fun z c' => z = a_den n wd N s kd e m ∧ TS c' n wd N (s_den n wd N S s kd e m) mm md T ∧ FrT c c'))) wN 70 [some (qP 39), some (qI s), some (qI kd), some (qI e), some (qI m), some (qI j), some (qI a), some (qI q), none, none] [] c1 := by
                    intro fu70
                    induction fu70 with
                    | zero => intro a q hm; exact absurd hm (Nat.not_lt_zero _)
                    | succ fu70 ih70 =>
                      intro a q hm70 q0 q1 ha
                      refine g_iload dX8_density_70 rfl ?_
                      refine g_aload_n (i := 0) dX8_density_72 rfl rfl ?_
                      refine g_getI (ji := 0) dX8_density_73 fl8_82 (by first | rfl | assumption) (by first | decide | (show _ < 62; omega)) (by first | rfl | assumption) (by decide) rfl (by first | assumption | rfl) ?_
                      refine g_icmp_ge 108 dX8_density_76 (by decide) (fun b76 => ?_) (fun b76 => ?_)
                      · skip
                        have hwn : a = wn (ds wd N kd) e n j := by rw [ha, show q = n by omega]; rfl
                        have hab2 : 0 ≤ a ∧ a ≤ 30 := by omega
                        refine g_aload_n (i := 0) dX8_density_108 rfl rfl ?_
                        refine g_getP dX8_density_109 fl8_61 (by first | rfl | assumption) (by first | decide | (show _ < 62; omega)) (by first | rfl | assumption) ?_
                        refine g_iload dX8_density_112 rfl ?_
                        refine g_iload dX8_density_114 rfl ?_
                        refine g_iload dX8_density_116 rfl ?_
                        refine g_icmp_lt 125 dX8_density_118 (by decide) (fun b118 => ?_) (fun b118 => ?_)
                        · skip
                          refine g_iconst dX8_density_125 ?_
                          refine g_bastore dX8_density_126 (by first | rfl | assumption) (by first | decide | (show _ < 62; omega)) (by first | exact Or.inl rfl | exact Or.inr rfl | omega) ?_
                          refine g_aload_n (i := 0) dX8_density_127 rfl rfl ?_
                          refine g_getP dX8_density_128 fl8_55 (by first | rfl | assumption) (by first | decide | (show _ < 62; omega)) (by first | rfl | assumption) ?_
                          refine g_iload dX8_density_131 rfl ?_
                          refine g_iconst dX8_density_133 ?_
                          refine g_iastore dX8_density_134 (by first | rfl | assumption) (by first | decide | (show _ < 62; omega)) ?_
                          refine g_iinc5 dX8_density_135 rfl ?_
                          refine g_goto 55 dX8_density_138 (by decide) ?_
                          refine g_fg6 ?_
                          refine g_fg7 ?_
                          exact ih55 _ _ (by omega) (by first | assumption | omega) (by first | assumption | omega) (fun k k1 k2 => by rw [qu_ne k1, qu_ne k2]; exact ff k k1 k2) (fun x q0 q1 => by
          rw [qu_at]; split
          · rfl
          · exact hl x q0 (by omega)) (fun x q0 q1 => by
          show (qu c1 55 j _ 55 x = 1 ∧ _) ∨ (qu c1 55 j _ 55 x = 0 ∧ _)
          by_cases h : x = j
          · subst h; rw [qu_eq]; first | exact Or.inl ⟨rfl, by unfold cr; omega⟩ | exact Or.inr ⟨rfl, by unfold cr; omega⟩
          · rw [qu_off h]; exact hc x q0 (by omega))
                        · skip
                          refine g_iconst dX8_density_121 ?_
                          refine g_goto 126 dX8_density_122 (by decide) ?_
                          refine g_bastore dX8_density_126 (by first | rfl | assumption) (by first | decide | (show _ < 62; omega)) (by first | exact Or.inl rfl | exact Or.inr rfl | omega) ?_
                          refine g_aload_n (i := 0) dX8_density_127 rfl rfl ?_
                          refine g_getP dX8_density_128 fl8_55 (by first | rfl | assumption) (by first | decide | (show _ < 62; omega)) (by first | rfl | assumption) ?_
                          refine g_iload dX8_density_131 rfl ?_
                          refine g_iconst dX8_density_133 ?_
                          refine g_iastore dX8_density_134 (by first | rfl | assumption) (by first | decide | (show _ < 62; omega)) ?_
                          refine g_iinc5 dX8_density_135 rfl ?_
                          refine g_goto 55 dX8_density_138 (by decide) ?_
                          refine g_fg6 ?_
                          refine g_fg7 ?_
                          exact ih55 _ _ (by omega) (by first | assumption | omega) (by first | assumption | omega) (fun k k1 k2 => by rw [qu_ne k1, qu_ne k2]; exact ff k k1 k2) (fun x q0 q1 => by
          rw [qu_at]; split
          · rfl
          · exact hl x q0 (by omega)) (fun x q0 q1 => by
          show (qu c1 55 j _ 55 x = 1 ∧ _) ∨ (qu c1 55 j _ 55 x = 0 ∧ _)
          by_cases h : x = j
          · subst h; rw [qu_eq]; first | exact Or.inl ⟨rfl, by unfold cr; omega⟩ | exact Or.inr ⟨rfl, by unfold cr; omega⟩
          · rw [qu_off h]; exact hc x q0 (by omega))
                      · skip
                        refine g_iload dX8_density_79 rfl ?_
                        refine g_aload_n (i := 0) dX8_density_81 rfl rfl ?_
                        refine g_iload_n (i := 2) dX8_density_82 rfl rfl ?_
                        refine g_iload dX8_density_83 rfl ?_
                        refine g_iload dX8_density_85 rfl ?_
                        refine n_callVi (k_X8_apart _ n wd _ _ _ N hM1 (by omega) (by omega) (by omega) (by omega) (by omega) (by omega)) dX8_density_87 lk8_105 im_X8_apart (by first | rfl | assumption) (by first | decide | (show _ < 62; omega)) rfl rfl rfl rfl (Nat.le_of_ble_eq_true rfl) (fun z c' hz => ?_)
                        obtain ⟨rfl, hz2⟩ := hz
                        have hz2 := hz2.symm
                        subst hz2
                        have hab := hM0.bd (kd := kd) j0 (show j < n by omega) q0 (show q < n by omega)
                        refine g_iload_n (i := 3) dX8_density_90 rfl rfl ?_
                        refine g_icmp_gt 98 dX8_density_91 (by decide) (fun b91 => ?_) (fun b91 => ?_)
                        · skip
                          refine g_iconst dX8_density_98 ?_
                          refine g_iadd dX8_density_99 ?_
                          refine g_istore6 dX8_density_100 rfl ?_
                          refine g_iinc7 dX8_density_102 rfl ?_
                          refine g_goto 70 dX8_density_105 (by decide) ?_
                          exact ih70 _ _ (by omega) (by first | assumption | omega) (by first | assumption | omega) (by rw [ha, sI_s q0]; first | (rw [if_pos (by omega)]) | (rw [if_neg (by omega)]))
                        · skip
                          refine g_iconst dX8_density_94 ?_
                          refine g_goto 99 dX8_density_95 (by decide) ?_
                          refine g_iadd dX8_density_99 ?_
                          refine g_istore6 dX8_density_100 rfl ?_
                          refine g_iinc7 dX8_density_102 rfl ?_
                          refine g_goto 70 dX8_density_105 (by decide) ?_
                          exact ih70 _ _ (by omega) (by first | assumption | omega) (by first | assumption | omega) (by rw [ha, sI_s q0]; first | (rw [if_pos (by omega)]) | (rw [if_neg (by omega)]))
                  exact L70 _ _ _ (Nat.lt_succ_self _) (by first | assumption | omega) (by first | assumption | omega) rfl
            exact L55 _ _ _ (Nat.lt_succ_self _) (by first | assumption | omega) (by first | assumption | omega) (fun k _ _ => rfl) (fun x q0 q1 => by omega) (fun x q0 q1 => by omega)
          · skip
            refine g_ldc (z := -2000000003) dX8_density_49 cw8_97 ?_
            exact n_reti dX8_density_51 rfl (⟨by unfold a_den; rw [if_pos (by omega), if_pos (by omega)], by unfold s_den; rw [if_pos (by omega), if_pos (by omega)]; exact hS0, FrT.rf c⟩)
        · skip
          refine g_ldc (z := -2000000002) dX8_density_39 cw8_96 ?_
          exact n_reti dX8_density_41 rfl (⟨by unfold a_den; rw [if_neg (by omega)], by unfold s_den; rw [if_neg (by omega)]; exact hS0, FrT.rf c⟩)
