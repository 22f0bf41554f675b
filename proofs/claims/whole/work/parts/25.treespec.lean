/-- the least or the greatest DISTANCE of ROWS of two CLUSTERS, over the pairs Q -/
def Ext (r : Int → Int → Prop) (D : Int → Int → Int) (L : Int → Int) (Q : Int → Int → Prop) (a b v : Int) : Prop := (∃ i j, Q i j ∧ L i = a ∧ L j = b ∧ v = D i j) ∧ ∀ i j, Q i j → L i = a → L j = b → r v (D i j)
def Emp (L : Int → Int) (Q : Int → Int → Prop) (a b : Int) : Prop := ∀ i j, Q i j → L i = a → ¬ L j = b
def EE (r : Int → Int → Prop) (D : Int → Int → Int) (L : Int → Int) (Q : Int → Int → Prop) (a b v : Int) : Prop := (v = -1 ∧ Emp L Q a b) ∨ Ext r D L Q a b v
def Rg (n : Int) : Int → Int → Prop := fun i j => (0 ≤ i ∧ i < n) ∧ 0 ≤ j ∧ j < n
def rle : Int → Int → Prop := fun x y => x ≤ y
def rge : Int → Int → Prop := fun x y => y ≤ x
def SS (D : Int → Int → Int) (L : Int → Int) (n a b : Int) : Int := sg L n a (fun i => sg L n b (fun j => D i j))
def IsG (w n : Int) (D : Int → Int → Int) (L : Int → Int) (a b v : Int) : Prop := (w = 0 ∧ Ext rle D L (Rg n) a b v) ∨ (w = 1 ∧ Ext rge D L (Rg n) a b v) ∨ ((2 ≤ w ∧ w ≤ 3) ∧ v = SS D L n a b)
theorem Ext.un {r : Int → Int → Prop} {D : Int → Int → Int} {L : Int → Int} {Q : Int → Int → Prop} {a b v u : Int} (ha : ∀ x y, r x y → r y x → x = y) (h : Ext r D L Q a b v) (g : Ext r D L Q a b u) : v = u := by
  obtain ⟨⟨i, j, h1, h2, h3, h4⟩, h5⟩ := h
  obtain ⟨⟨p, q, g1, g2, g3, g4⟩, g5⟩ := g
  have e1 := h5 p q g1 g2 g3
  have e2 := g5 i j h1 h2 h3
  rw [← g4] at e1
  rw [← h4] at e2
  exact ha _ _ e1 e2
theorem rle_a : ∀ x y, rle x y → rle y x → x = y := fun x y h1 h2 => by unfold rle at h1 h2; omega
theorem rge_a : ∀ x y, rge x y → rge y x → x = y := fun x y h1 h2 => by unfold rge at h1 h2; omega
theorem IsG.un {w n a b v u : Int} {D : Int → Int → Int} {L : Int → Int} (h : IsG w n D L a b v) (g : IsG w n D L a b u) : v = u := by
  rcases h with ⟨h1, h⟩ | ⟨h1, h⟩ | ⟨h1, h⟩ <;> rcases g with ⟨g1, g⟩ | ⟨g1, g⟩ | ⟨g1, g⟩ <;> first | (exfalso; omega) | exact h.un rle_a g | exact h.un rge_a g | exact h.trans g.symm
noncomputable def GV (w n : Int) (D : Int → Int → Int) (L : Int → Int) (a b : Int) : Int := Classical.epsilon (IsG w n D L a b)
theorem GV_eq {w n a b v : Int} {D : Int → Int → Int} {L : Int → Int} (h : IsG w n D L a b v) : GV w n D L a b = v := IsG.un (Classical.epsilon_spec (p := IsG w n D L a b) ⟨v, h⟩) h
theorem sm_zero (n : Nat) : sm (fun _ => 0) n = 0 := by
  have h := sm_bd (f := fun _ => (0 : Int)) (lo := 0) (hi := 0) n (fun r _ _ => by omega)
  omega
theorem sm_swap {f : Int → Int → Int} : ∀ (m n : Nat), sm (fun i => sm (fun j => f i j) n) m = sm (fun j => sm (fun i => f i j) m) n
  | 0, n => (sm_zero n).symm
  | m + 1, n => by
    have h := sm_add (f := fun j => sm (fun i => f i j) m) (g := fun j => f m j) n
    rw [sm, sm_swap m n]
    exact h.symm
theorem sm_ite {f : Int → Int} {p : Prop} [Decidable p] (n : Nat) : (if p then sm f n else 0) = sm (fun j => if p then f j else 0) n := by
  by_cases h : p
  · simp only [if_pos h]
  · simp only [if_neg h]; exact (sm_zero n).symm
theorem SS_sy {D : Int → Int → Int} {L : Int → Int} {n a b : Int} (hD : ∀ i j, D i j = D j i) : SS D L n a b = SS D L n b a := by
  have e : ∀ a b, SS D L n a b = sm (fun i => sm (fun j => if L i = a then (if L j = b then D i j else 0) else 0) n.toNat) n.toNat := fun a b => sm_congr _ (fun i _ _ => by
    show (if L i = a then sm (fun j => if L j = b then D i j else 0) n.toNat else 0) = _
    exact sm_ite _)
  rw [e a b, e b a, sm_swap]
  refine sm_congr _ (fun i _ _ => sm_congr _ (fun j _ _ => ?_))
  rw [hD j i]
  by_cases h1 : L j = a <;> by_cases h2 : L i = b <;> simp only [h1, h2, if_true, if_false]
theorem Ext.sy {r : Int → Int → Prop} {D : Int → Int → Int} {L : Int → Int} {n a b v : Int} (hD : ∀ i j, D i j = D j i) (h : Ext r D L (Rg n) a b v) : Ext r D L (Rg n) b a v := by
  obtain ⟨⟨i, j, h1, h2, h3, h4⟩, h5⟩ := h
  refine ⟨⟨j, i, ⟨h1.2, h1.1⟩, h3, h2, by rw [h4, hD]⟩, fun p q g1 g2 g3 => ?_⟩
  rw [hD p q]
  exact h5 q p ⟨g1.2, g1.1⟩ g3 g2
theorem IsG.sy {w n a b v : Int} {D : Int → Int → Int} {L : Int → Int} (hD : ∀ i j, D i j = D j i) (h : IsG w n D L a b v) : IsG w n D L b a v := by
  rcases h with ⟨h1, h⟩ | ⟨h1, h⟩ | ⟨h1, h⟩
  · exact Or.inl ⟨h1, h.sy hD⟩
  · exact Or.inr (Or.inl ⟨h1, h.sy hD⟩)
  · exact Or.inr (Or.inr ⟨h1, by rw [h, SS_sy hD]⟩)
def idL : Int → Int := fun x => x
theorem sg_id {n a : Int} {f : Int → Int} (a0 : 0 ≤ a) (a1 : a < n) : sg idL n a f = f a := by
  have key : ∀ k : Nat, sm (fun r => if idL r = a then f r else 0) k = if a < k then f a else 0 := by
    intro k
    induction k with
    | zero => rw [if_neg (by omega)]; rfl
    | succ k ih =>
      rw [sm, ih]
      by_cases e : (k : Int) = a
      · rw [if_neg (by omega), if_pos (show idL k = a from e), if_pos (by omega), e]; omega
      · rw [if_neg (show ¬ idL k = a from e)]
        by_cases e2 : a < k
        · rw [if_pos e2, if_pos (by omega)]; omega
        · rw [if_neg e2, if_neg (by omega)]; omega
  have h := key n.toNat
  rw [if_pos (by omega)] at h
  exact h
theorem IsG.ini {w n a b : Int} {D : Int → Int → Int} (hw : 0 ≤ w ∧ w ≤ 3) (a0 : 0 ≤ a) (a1 : a < n) (b0 : 0 ≤ b) (b1 : b < n) : IsG w n D idL a b (D a b) := by
  obtain h | h | h : w = 0 ∨ w = 1 ∨ 2 ≤ w := by omega
  · exact Or.inl ⟨h, ⟨a, b, ⟨⟨a0, a1⟩, b0, b1⟩, rfl, rfl, rfl⟩, fun i j _ e1 e2 => by rw [show i = a from e1, show j = b from e2]; exact Int.le_refl _⟩
  · exact Or.inr (Or.inl ⟨h, ⟨a, b, ⟨⟨a0, a1⟩, b0, b1⟩, rfl, rfl, rfl⟩, fun i j _ e1 e2 => by rw [show i = a from e1, show j = b from e2]; exact Int.le_refl _⟩)
  · refine Or.inr (Or.inr ⟨⟨h, hw.2⟩, ?_⟩)
    unfold SS
    rw [sg_id a0 a1, sg_id b0 b1]
def mgL (L : Int → Int) (a b : Int) : Int → Int := fun q => if L q = b then a else L q
theorem mgL_a {L : Int → Int} {a b q : Int} (hab : ¬ a = b) : mgL L a b q = a ↔ (L q = a ∨ L q = b) := by
  unfold mgL
  split <;> constructor <;> intro h <;> omega
theorem mgL_o {L : Int → Int} {a b o q : Int} (ho : ¬ o = a) (ho2 : ¬ o = b) : mgL L a b q = o ↔ L q = o := by
  unfold mgL
  split <;> constructor <;> intro h <;> omega
theorem mgL_b {L : Int → Int} {a b q : Int} (hab : ¬ a = b) : ¬ mgL L a b q = b := by
  unfold mgL
  split <;> omega
theorem sg_mg {L : Int → Int} {a b n : Int} {f : Int → Int} (hab : ¬ a = b) : sg (mgL L a b) n a f = sg L n a f + sg L n b f := by
  have h := sm_add (f := fun r => if L r = a then f r else 0) (g := fun r => if L r = b then f r else 0) n.toNat
  refine Eq.trans (sm_congr _ (fun r _ _ => ?_)) h
  unfold mgL
  by_cases e : L r = b
  · rw [if_pos e, if_pos rfl, if_neg (by omega)]; omega
  · rw [if_neg e]
    by_cases e2 : L r = a
    · rw [if_pos e2]; omega
    · rw [if_neg e2]; omega
theorem sg_mo {L : Int → Int} {a b o n : Int} {f : Int → Int} (ho : ¬ o = a) (ho2 : ¬ o = b) : sg (mgL L a b) n o f = sg L n o f := by
  refine sm_congr _ (fun r _ _ => ?_)
  by_cases e : L r = o
  · rw [if_pos e, if_pos ((mgL_o ho ho2).mpr e)]
  · rw [if_neg e, if_neg (fun q => e ((mgL_o ho ho2).mp q))]
theorem cn_mg {L : Int → Int} {a b n : Int} (hab : ¬ a = b) : cn (mgL L a b) n a = cn L n a + cn L n b := sg_mg (f := fun _ => 1) hab
theorem cn_mo {L : Int → Int} {a b o n : Int} (ho : ¬ o = a) (ho2 : ¬ o = b) : cn (mgL L a b) n o = cn L n o := sg_mo (f := fun _ => 1) ho ho2
theorem cn_mb {L : Int → Int} {a b n : Int} (hn : 0 ≤ n) (hab : ¬ a = b) : cn (mgL L a b) n b = 0 := cn_0 hn (fun _ _ _ => mgL_b hab)
def cmb (w x y : Int) : Int := if w = 0 then mn x y else if w = 1 then mx x y else x + y
theorem Ext.mg {D : Int → Int → Int} {L : Int → Int} {n a b o v u z : Int} {r : Int → Int → Prop} (hab : ¬ a = b) (ho : ¬ o = a) (ho2 : ¬ o = b) (h : Ext r D L (Rg n) a o v) (g : Ext r D L (Rg n) b o u) (hz : z = v ∨ z = u) (h1 : ∀ x, r v x → r z x) (h2 : ∀ x, r u x → r z x) : Ext r D (mgL L a b) (Rg n) a o z := by
  refine ⟨?_, fun p q g1 g2 g3 => ?_⟩
  · rcases hz with hz | hz
    · obtain ⟨⟨i, j, k1, k2, k3, k4⟩, -⟩ := h
      exact ⟨i, j, k1, (mgL_a hab).mpr (Or.inl k2), (mgL_o ho ho2).mpr k3, by rw [hz]; exact k4⟩
    · obtain ⟨⟨i, j, k1, k2, k3, k4⟩, -⟩ := g
      exact ⟨i, j, k1, (mgL_a hab).mpr (Or.inr k2), (mgL_o ho ho2).mpr k3, by rw [hz]; exact k4⟩
  · have e := (mgL_o ho ho2).mp g3
    rcases (mgL_a hab).mp g2 with e2 | e2
    · exact h1 _ (h.2 p q g1 e2 e)
    · exact h2 _ (g.2 p q g1 e2 e)
theorem Ext.mo {D : Int → Int → Int} {L : Int → Int} {n a b o p v : Int} {r : Int → Int → Prop} (ho : ¬ o = a) (ho2 : ¬ o = b) (hp : ¬ p = a) (hp2 : ¬ p = b) (h : Ext r D L (Rg n) o p v) : Ext r D (mgL L a b) (Rg n) o p v := by
  obtain ⟨⟨i, j, k1, k2, k3, k4⟩, k5⟩ := h
  exact ⟨⟨i, j, k1, (mgL_o ho ho2).mpr k2, (mgL_o hp hp2).mpr k3, k4⟩, fun x y g1 g2 g3 => k5 x y g1 ((mgL_o ho ho2).mp g2) ((mgL_o hp hp2).mp g3)⟩
theorem IsG.mg {w n a b o v u : Int} {D : Int → Int → Int} {L : Int → Int} (hab : ¬ a = b) (ho : ¬ o = a) (ho2 : ¬ o = b) (h : IsG w n D L a o v) (g : IsG w n D L b o u) : IsG w n D (mgL L a b) a o (cmb w v u) := by
  unfold cmb
  rcases h with ⟨h1, h⟩ | ⟨h1, h⟩ | ⟨h1, h⟩
  · rw [if_pos h1]
    rcases g with ⟨g1, g⟩ | ⟨g1, g⟩ | ⟨g1, g⟩
    · exact Or.inl ⟨h1, h.mg hab ho ho2 g (by unfold mn; split <;> omega) (fun x q => by unfold rle mn at *; split <;> omega) (fun x q => by unfold rle mn at *; split <;> omega)⟩
    · omega
    · omega
  · rw [if_neg (by omega), if_pos h1]
    rcases g with ⟨g1, g⟩ | ⟨g1, g⟩ | ⟨g1, g⟩
    · omega
    · exact Or.inr (Or.inl ⟨h1, h.mg hab ho ho2 g (by unfold mx; split <;> omega) (fun x q => by unfold rge mx at *; split <;> omega) (fun x q => by unfold rge mx at *; split <;> omega)⟩)
    · omega
  · rw [if_neg (by omega), if_neg (by omega)]
    rcases g with ⟨g1, g⟩ | ⟨g1, g⟩ | ⟨g1, g⟩
    · omega
    · omega
    · refine Or.inr (Or.inr ⟨h1, ?_⟩)
      rw [h, g]
      unfold SS
      rw [sg_mg hab]
      have e : ∀ x, sg L n x (fun i => sg (mgL L a b) n o (fun j => D i j)) = sg L n x (fun i => sg L n o (fun j => D i j)) := fun x => sm_congr _ (fun i _ _ => by dsimp only; rw [sg_mo ho ho2])
      rw [e, e]
theorem IsG.mo {w n a b o p v : Int} {D : Int → Int → Int} {L : Int → Int} (ho : ¬ o = a) (ho2 : ¬ o = b) (hp : ¬ p = a) (hp2 : ¬ p = b) (h : IsG w n D L o p v) : IsG w n D (mgL L a b) o p v := by
  rcases h with ⟨h1, h⟩ | ⟨h1, h⟩ | ⟨h1, h⟩
  · exact Or.inl ⟨h1, h.mo ho ho2 hp hp2⟩
  · exact Or.inr (Or.inl ⟨h1, h.mo ho ho2 hp hp2⟩)
  · refine Or.inr (Or.inr ⟨h1, ?_⟩)
    rw [h]
    unfold SS
    rw [sg_mo ho ho2]
    exact sm_congr _ (fun i _ _ => by dsimp only; rw [sg_mo hp hp2])
theorem SS_bd {D : Int → Int → Int} {L : Int → Int} {n a b : Int} (hD : Db D n) (hn : 0 ≤ n ∧ n ≤ 30) : 0 ≤ SS D L n a b ∧ SS D L n a b ≤ 14400000000 := by
  have h1 : ∀ i, 0 ≤ i → i < n → 0 ≤ sg L n b (fun j => D i j) ∧ sg L n b (fun j => D i j) ≤ 480000000 := fun i i0 i1 => by
    have h := sI_bd (f := fun j => if L j = b then D i j else 0) (lo := 0) (hi := 16000000) hn.1 (fun j j0 j1 => by
      have := hD i j i0 i1 j0 j1
      split <;> omega)
    have e : sg L n b (fun j => D i j) = sI (fun j => if L j = b then D i j else 0) n := rfl
    omega
  have h2 := sI_bd (f := fun i => if L i = a then sg L n b (fun j => D i j) else 0) (lo := 0) (hi := 480000000) hn.1 (fun i i0 i1 => by
    have := h1 i i0 i1
    split <;> omega)
  have e : SS D L n a b = sI (fun i => if L i = a then sg L n b (fun j => D i j) else 0) n := rfl
  omega
theorem IsG.bd {w n a b v : Int} {D : Int → Int → Int} {L : Int → Int} (hD : Db D n) (hn : 0 ≤ n ∧ n ≤ 30) (h : IsG w n D L a b v) : 0 ≤ v ∧ v ≤ 14400000000 := by
  rcases h with ⟨h1, h⟩ | ⟨h1, h⟩ | ⟨h1, h⟩
  · obtain ⟨⟨i, j, k1, k2, k3, k4⟩, -⟩ := h
    have := hD i j k1.1.1 k1.1.2 k1.2.1 k1.2.2
    omega
  · obtain ⟨⟨i, j, k1, k2, k3, k4⟩, -⟩ := h
    have := hD i j k1.1.1 k1.1.2 k1.2.1 k1.2.2
    omega
  · rw [h]; exact SS_bd hD hn
-- how far apart two CLUSTERS are, above and below
noncomputable def VA (w n wd : Int) (N D : Int → Int → Int) (L : Int → Int) (a b : Int) : Int := if w = 3 then sI (fun x => (sg L n a (fun r => N r x) * cn L n b - sg L n b (fun r => N r x) * cn L n a) * (sg L n a (fun r => N r x) * cn L n b - sg L n b (fun r => N r x) * cn L n a)) wd else GV w n D L a b
def VB (w n : Int) (L : Int → Int) (a b : Int) : Int := if w = 2 then cn L n a * cn L n b else if w = 3 then cn L n a * cn L n b * (cn L n a + cn L n b) else 1
theorem tg_bd {n wd : Int} {N : Int → Int → Int} {L : Int → Int} {a b x : Int} (hn : 0 ≤ n ∧ n ≤ 30) (hN : ∀ i, 0 ≤ i → i < n → Nb wd N i) (x0 : 0 ≤ x) (x1 : x < wd) : (-30000 ≤ sg L n a (fun r => N r x) ∧ sg L n a (fun r => N r x) ≤ 30000) ∧ (-900000 ≤ sg L n a (fun r => N r x) * cn L n b ∧ sg L n a (fun r => N r x) * cn L n b ≤ 900000) := by
  have h1 := sg_bd (g := L) (v := fun r => N r x) (n := n) (k := a) (m := 1000) hn.1 (by omega) (fun r r0 r1 => hN r r0 r1 x x0 x1)
  have h2 := cn_bd (g := L) (n := n) (k := b) hn.1
  have h3 := mul_ab (x := sg L n a (fun r => N r x)) (m := cn L n b) (a := 30000) (b := 30) (by omega) (by omega) h2.1 (by omega)
  omega
theorem VA_bd {w n wd a b v : Int} {N D : Int → Int → Int} {L : Int → Int} (hD : Db D n) (hn : 0 ≤ n ∧ n ≤ 30) (hw : 1 ≤ wd ∧ wd ≤ 4) (hN : ∀ i, 0 ≤ i → i < n → Nb wd N i) (h : IsG w n D L a b v) : 0 ≤ VA w n wd N D L a b ∧ VA w n wd N D L a b ≤ 12960000000000 := by
  unfold VA
  split
  · have h2 := sI_bd (f := fun x => (sg L n a (fun r => N r x) * cn L n b - sg L n b (fun r => N r x) * cn L n a) * (sg L n a (fun r => N r x) * cn L n b - sg L n b (fun r => N r x) * cn L n a)) (lo := 0) (hi := 3240000000000) (n := wd) (by omega) (fun x x0 x1 => by
      have h3 := tg_bd (L := L) (a := a) (b := b) hn hN x0 x1
      have h4 := tg_bd (L := L) (a := b) (b := a) hn hN x0 x1
      have h5 := sq_le (x := sg L n a (fun r => N r x) * cn L n b - sg L n b (fun r => N r x) * cn L n a) (a := 1800000) (by omega) (by omega)
      omega)
    omega
  · rw [GV_eq h]
    have := h.bd hD hn
    omega
theorem VB_bd {w n a b : Int} {L : Int → Int} (hn : 0 ≤ n ∧ n ≤ 30) (ha : 1 ≤ cn L n a) (hb : 1 ≤ cn L n b) : 1 ≤ VB w n L a b ∧ VB w n L a b ≤ 54000 := by
  have h1 := cn_bd (g := L) (n := n) (k := a) hn.1
  have h2 := cn_bd (g := L) (n := n) (k := b) hn.1
  have h3 := mul_le2 (a := cn L n a) (A := 30) (b := cn L n b) (B := 30) (by omega) (by omega) (by omega) (by omega)
  have h4 : 1 * 1 ≤ cn L n a * cn L n b := Int.mul_le_mul ha hb (by omega) (by omega)
  have h5 := mul_le2 (a := cn L n a * cn L n b) (A := 900) (b := cn L n a + cn L n b) (B := 60) (by omega) (by omega) (by omega) (by omega)
  have h6 : 1 * 1 ≤ cn L n a * cn L n b * (cn L n a + cn L n b) := Int.mul_le_mul (by omega) (by omega) (by omega) (by omega)
  unfold VB
  (repeat' split) <;> omega
def stp (V U : Int → Int → Int) (L : Int → Int) (s : Int × Int) (a b : Int) : Int × Int := if L a = a ∧ L b = b ∧ (s.1 = -1 ∨ V a b * U s.1 s.2 < V s.1 s.2 * U a b) then (a, b) else s
def inn (V U : Int → Int → Int) (L : Int → Int) (a : Int) (s : Int × Int) : Nat → Int × Int
  | 0 => s
  | j + 1 => stp V U L (inn V U L a s j) a (a + 1 + j)
def outp (V U : Int → Int → Int) (L : Int → Int) (n : Int) : Nat → Int × Int
  | 0 => (-1, -1)
  | i + 1 => inn V U L i (outp V U L n i) (n - (i + 1)).toNat
theorem inn_s {V U : Int → Int → Int} {L : Int → Int} {a b : Int} {s : Int × Int} (h : a + 1 ≤ b) : inn V U L a s (b + 1 - (a + 1)).toNat = stp V U L (inn V U L a s (b - (a + 1)).toNat) a b := by
  rw [show (b + 1 - (a + 1)).toNat = (b - (a + 1)).toNat + 1 by omega, inn, show a + 1 + (((b - (a + 1)).toNat : Nat) : Int) = b by omega]
theorem outp_s {V U : Int → Int → Int} {L : Int → Int} {n a : Int} (h : 0 ≤ a) : outp V U L n (a + 1).toNat = inn V U L a (outp V U L n a.toNat) (n - (a + 1)).toNat := by
  rw [show (a + 1).toNat = a.toNat + 1 by omega, outp, show ((a.toNat : Nat) : Int) = a by omega]
theorem inn_dead {V U : Int → Int → Int} {L : Int → Int} {a : Int} {s : Int × Int} (h : ¬ L a = a) : ∀ j : Nat, inn V U L a s j = s
  | 0 => rfl
  | j + 1 => by
    rw [inn, inn_dead h j, stp, if_neg (fun q => h q.1)]
def Vp (L : Int → Int) (n : Int) (s : Int × Int) : Prop := (0 ≤ s.1 ∧ s.1 < s.2 ∧ s.2 < n) ∧ L s.1 = s.1 ∧ L s.2 = s.2
theorem inn_v {V U : Int → Int → Int} {L : Int → Int} {n a : Int} {s : Int × Int} (a0 : 0 ≤ a) (h : s = (-1, -1) ∨ Vp L n s) : ∀ j : Nat, a + j < n → inn V U L a s j = (-1, -1) ∨ Vp L n (inn V U L a s j)
  | 0, _ => h
  | j + 1, hj => by
    have ih := inn_v (V := V) (U := U) a0 h j (by omega)
    rw [inn, stp]
    split
    · rename_i hc
      exact Or.inr ⟨⟨a0, by show a < a + 1 + j; omega, by show a + 1 + (j : Int) < n; omega⟩, hc.1, hc.2.1⟩
    · exact ih
theorem outp_v {V U : Int → Int → Int} {L : Int → Int} {n : Int} : ∀ i : Nat, i ≤ n → outp V U L n i = (-1, -1) ∨ Vp L n (outp V U L n i)
  | 0, _ => Or.inl rfl
  | i + 1, h => by
    rw [outp]
    exact inn_v (by omega) (outp_v i (by omega)) _ (by omega)
theorem inn_keep {V U : Int → Int → Int} {L : Int → Int} {a : Int} {s : Int × Int} (a0 : 0 ≤ a) (h : ¬ s.1 = -1) : ∀ j : Nat, ¬ (inn V U L a s j).1 = -1
  | 0 => h
  | j + 1 => by
    have ih := inn_keep (V := V) (U := U) (L := L) a0 h j
    rw [inn, stp]
    split
    · show ¬ a = -1; omega
    · exact ih
theorem inn_ne {V U : Int → Int → Int} {L : Int → Int} {a b : Int} {s : Int × Int} (a0 : 0 ≤ a) (ha : L a = a) (hb : L b = b) (hab : a < b) : ∀ j : Nat, b < a + 1 + j → ¬ (inn V U L a s j).1 = -1
  | 0, h => by omega
  | j + 1, h => by
    by_cases e : b < a + 1 + j
    · have ih := inn_ne (V := V) (U := U) (s := s) a0 ha hb hab j e
      rw [inn, stp]
      split
      · show ¬ a = -1; omega
      · exact ih
    · have e2 : a + 1 + (j : Int) = b := by omega
      rw [inn, stp, e2]
      by_cases h3 : (inn V U L a s j).1 = -1
      · rw [if_pos ⟨ha, hb, Or.inl h3⟩]; show ¬ a = -1; omega
      · split
        · show ¬ a = -1; omega
        · exact h3
theorem outp_ne {V U : Int → Int → Int} {L : Int → Int} {n a b : Int} (a0 : 0 ≤ a) (ha : L a = a) (hb : L b = b) (hab : a < b) (bn : b < n) : ∀ i : Nat, a < i → i ≤ n → ¬ (outp V U L n i).1 = -1
  | 0, h, _ => by omega
  | i + 1, h, hn => by
    rw [outp]
    by_cases e : a < i
    · exact inn_keep (by omega) (outp_ne a0 ha hb hab bn i e (by omega)) _
    · have e2 : (i : Int) = a := by omega
      rw [e2]
      exact inn_ne a0 ha hb hab _ (by omega)
noncomputable def pr (w n wd : Int) (N D : Int → Int → Int) (L : Int → Int) : Int × Int := outp (VA w n wd N D L) (VB w n L) L n n.toNat
noncomputable def TL (w n wd : Int) (N D : Int → Int → Int) : Nat → Int → Int
  | 0 => idL
  | j + 1 => mgL (TL w n wd N D j) (pr w n wd N D (TL w n wd N D j)).1 (pr w n wd N D (TL w n wd N D j)).2
theorem TL_s {w n wd : Int} {N D : Int → Int → Int} {j : Int} (h : 0 ≤ j) : TL w n wd N D (j + 1).toNat = mgL (TL w n wd N D j.toNat) (pr w n wd N D (TL w n wd N D j.toNat)).1 (pr w n wd N D (TL w n wd N D j.toNat)).2 := by
  rw [show (j + 1).toNat = j.toNat + 1 by omega, TL]
noncomputable def jv (w n wd : Int) (N D : Int → Int → Int) (L : Int → Int) (p : Int × Int) (t : Int) : Int := if t = 0 then p.1 else if t = 1 then p.2 else if t = 2 then cn L n p.1 + cn L n p.2 else if t = 3 then (VA w n wd N D L p.1 p.2).tdiv (gc (VA w n wd N D L p.1 p.2) (VB w n L p.1 p.2)) else (VB w n L p.1 p.2).tdiv (gc (VA w n wd N D L p.1 p.2) (VB w n L p.1 p.2))
noncomputable def JT (w n wd : Int) (N D : Int → Int → Int) : Int → Int → Int := fun t i => jv w n wd N D (TL w n wd N D i.toNat) (pr w n wd N D (TL w n wd N D i.toNat)) t
theorem CL_TL {w n wd : Int} {N D : Int → Int → Int} : ∀ k : Nat, CL (JT w n wd N D) k = TL w n wd N D k
  | 0 => rfl
  | k + 1 => by
    funext x
    have h1 : JT w n wd N D 1 k = (pr w n wd N D (TL w n wd N D k)).2 := by
      unfold JT jv; rw [if_neg (by decide), if_pos rfl, Int.toNat_natCast]
    have h0 : JT w n wd N D 0 k = (pr w n wd N D (TL w n wd N D k)).1 := by
      unfold JT jv; rw [if_pos rfl, Int.toNat_natCast]
    show (if CL (JT w n wd N D) k x = JT w n wd N D 1 k then JT w n wd N D 0 k else CL (JT w n wd N D) k x) = _
    rw [CL_TL k, h1, h0]
    rfl
/-- two CLUSTERS at least are left -/
theorem two_live {L : Int → Int} {n : Int} (hL : ∀ x, 0 ≤ x → (0 ≤ L x ∧ L x ≤ x) ∧ L (L x) = L x) (hn : 0 < n) (h : 2 ≤ nb L n) : ∃ b, 0 < b ∧ b < n ∧ L b = b := by
  apply Classical.byContradiction
  intro hc
  have h1 : nb L n = sm (fun q => if q = 0 then 1 else 0) n.toNat := sm_congr _ (fun q q0 q1 => by
    by_cases e : q = 0
    · have := hL 0 (by omega)
      rw [e, if_pos (by omega), if_pos rfl]
    · rw [if_neg e, if_neg (fun e2 => hc ⟨q, by omega, by omega, e2⟩)])
  rw [sm_one 0 n.toNat (by omega), if_pos (by omega)] at h1
  omega
theorem JT_ok {w n wd : Int} {N D : Int → Int → Int} : ∀ k : Nat, k ≤ n - 1 → JOK (JT w n wd N D) n k
  | 0, _ => fun i i0 i1 => by omega
  | k + 1, hk => by
    have ih := JT_ok (w := w) (n := n) (wd := wd) (N := N) (D := D) k (by omega)
    intro i i0 i1
    by_cases e : i < k
    · exact ih i i0 e
    · have e2 : i = k := by omega
      subst e2
      have hc := CL_ok ih k (by omega)
      have hl := CL_left ih (by omega) k (by omega)
      rw [CL_TL] at hc hl
      obtain ⟨b, b0, b1, b2⟩ := two_live (n := n) hc (by omega) (by omega)
      have h0 : TL w n wd N D k 0 = 0 := by have := hc 0 (by omega); omega
      have hne := outp_ne (V := VA w n wd N D (TL w n wd N D k)) (U := VB w n (TL w n wd N D k)) (L := TL w n wd N D k) (n := n) (a := 0) (b := b) (by omega) h0 b2 b0 b1 n.toNat (by omega) (by omega)
      have hv := outp_v (V := VA w n wd N D (TL w n wd N D k)) (U := VB w n (TL w n wd N D k)) (L := TL w n wd N D k) (n := n) n.toNat (by omega)
      rcases hv with hv | hv
      · rw [hv] at hne; exact absurd rfl hne
      · have h1 : JT w n wd N D 1 k = (pr w n wd N D (TL w n wd N D k)).2 := by
          unfold JT jv; rw [if_neg (by decide), if_pos rfl, Int.toNat_natCast]
        have h0 : JT w n wd N D 0 k = (pr w n wd N D (TL w n wd N D k)).1 := by
          unfold JT jv; rw [if_pos rfl, Int.toNat_natCast]
        rw [Int.toNat_natCast, CL_TL, h0, h1]
        exact hv
def LK (L : Int → Int) : Prop := ∀ x, 0 ≤ x → (0 ≤ L x ∧ L x ≤ x) ∧ L (L x) = L x
theorem TL_ok {w n wd : Int} {N D : Int → Int → Int} {j : Int} (j0 : 0 ≤ j) (hj : j ≤ n - 1) : LK (TL w n wd N D j.toNat) := by
  have h := CL_ok (JT_ok (w := w) (n := n) (wd := wd) (N := N) (D := D) j.toNat (by omega)) j.toNat (by omega)
  rw [CL_TL] at h
  exact h
theorem TL_pr {w n wd : Int} {N D : Int → Int → Int} {j : Int} (j0 : 0 ≤ j) (hj : j < n - 1) : Vp (TL w n wd N D j.toNat) n (pr w n wd N D (TL w n wd N D j.toNat)) := by
  have h := JT_ok (w := w) (n := n) (wd := wd) (N := N) (D := D) (j + 1).toNat (by omega) j j0 (by omega)
  have h1 : JT w n wd N D 1 j = (pr w n wd N D (TL w n wd N D j.toNat)).2 := by unfold JT jv; rw [if_neg (by decide), if_pos rfl]
  have h0 : JT w n wd N D 0 j = (pr w n wd N D (TL w n wd N D j.toNat)).1 := by unfold JT jv; rw [if_pos rfl]
  rw [CL_TL, h0, h1] at h
  exact h
theorem live_cn {L : Int → Int} {n a : Int} (a0 : 0 ≤ a) (a1 : a < n) (h : L a = a) : 1 ≤ cn L n a := by
  have h1 := cn_mem (g := L) (i := a) (k := a) a0 h n.toNat (by omega)
  rw [show ((n.toNat : Nat) : Int) = n by omega] at h1
  exact h1
theorem dead_cn {L : Int → Int} {n a : Int} (hL : LK L) (n0 : 0 ≤ n) (h : ¬ L a = a) : cn L n a = 0 := cn_0 n0 (fun x x0 x1 e => h (by have := (hL x x0).2; rw [e] at this; exact this))
theorem mg_live {L : Int → Int} {a b x : Int} (ha : L a = a) (hb : L b = b) (hab : ¬ a = b) : mgL L a b x = x ↔ (L x = x ∧ ¬ x = b) := by
  unfold mgL
  constructor
  · intro h
    split at h
    · rename_i e; rw [← h, ha] at e; exact absurd e hab
    · rename_i e; exact ⟨h, fun q => e (by rw [q]; exact hb)⟩
  · intro ⟨h1, h2⟩
    rw [if_neg (by omega)]; exact h1
noncomputable def a_tre (n w kd : Int) : Int := if (0 ≤ w ∧ w ≤ 3) ∧ 0 ≤ kd ∧ kd ≤ 2 then (if n = 0 then -2000000003 else n - 1) else -2000000002
noncomputable def t_tre (n wd : Int) (N : Int → Int → Int) (T : Tr) (w kd : Int) : Tr := if (0 ≤ w ∧ w ≤ 3) ∧ 0 ≤ kd ∧ kd ≤ 2 then (if n = 0 then T else some (n - 1, JT w n wd N (ds wd N kd))) else T
theorem t_tre_ok {n wd : Int} {N : Int → Int → Int} {T : Tr} {w kd : Int} (hn : 0 ≤ n) (h : TrOK n T) : TrOK n (t_tre n wd N T w kd) := by
  unfold t_tre
  split
  · split
    · exact h
    · have h2 := JT_ok (w := w) (n := n) (wd := wd) (N := N) (D := ds wd N kd) (n - 1).toNat (by omega)
      rw [show (((n - 1).toNat : Nat) : Int) = n - 1 by omega] at h2
      exact h2
  · exact h
theorem CS.tr {c c' : qC} {n wd : Int} {N : Int → Int → Int} {S : Sl} {mm : Int} {md : Int → Int} {T T2 : Tr} (h : CS c n wd N S mm md T) (hf : ∀ k, k < 27 → c' k = c k) (ht : CTr c' n T2) : CS c' n wd N S mm md T2 := by
  obtain ⟨g1, g2, g3, g4⟩ := h
  refine ⟨g1.fr (hf 1 (by decide)) (hf 2 (by decide)) (hf 3 (by decide)), fun t t0 t1 => ?_, ?_, ht⟩
  · have h5 := g2 t t0 t1
    obtain ⟨o2, e2, -, -, -, h58, -⟩ := oS_ex (s := t) ⟨t0, t1⟩
    rw [e2] at h5 ⊢
    have f0 := hf o2 (by omega)
    have f1 := hf (o2 + 1) (by omega)
    have f2 := hf (o2 + 2) (by omega)
    unfold CSl at h5 ⊢
    cases hs2 : S t with
    | none => rw [hs2] at h5; show c' o2 3 = -1; rw [f0]; exact h5
    | some p => rw [hs2] at h5; exact Gr.fr h5 f0 f1 f2
  · unfold CMd at g3 ⊢
    rw [hf 18 (by decide), hf 20 (by decide)]
    exact g3
theorem TS.tr {c c' : qC} {n wd : Int} {N : Int → Int → Int} {S : Sl} {mm : Int} {md : Int → Int} {T T2 : Tr} (h : TS c n wd N S mm md T) (hf : ∀ k, 40 ≤ k → k < 45 → c' k = c k) (h0 : ∀ i, i < 8 → c' 39 i = c 39 i) (ht : TTr c' n T2) : TS c' n wd N S mm md T2 := by
  obtain ⟨g1, g2, g3, g4⟩ := h
  refine ⟨g1.fr (h0 0 (by decide)) (h0 1 (by decide)) (hf 40 (by decide) (by decide)), fun t t0 t1 => ?_, ?_, ht⟩
  · have h5 := g2 t t0 t1
    unfold TSl at h5 ⊢
    rw [hf 41 (by decide) (by decide), hf 42 (by decide) (by decide), hf 43 (by decide) (by decide)]
    exact h5
  · unfold TMd at g3 ⊢
    rw [h0 6 (by decide), hf 44 (by decide) (by decide)]
    exact g3
