abbrev Mn : Type := (Int → Int) × (Int → Int → Int)
/-- squares from ROW r to the MEAN of GROUP g, times what is below -/
def sA (wd : Int) (N : Int → Int → Int) (p : Mn) (r g : Int) : Int := sI (fun x => (N r x * p.1 g - p.2 g x) * (N r x * p.1 g - p.2 g x)) wd
def Mb (k wd : Int) (p : Mn) : Prop := ∀ g, 0 ≤ g → g < k → (0 ≤ p.1 g ∧ p.1 g ≤ 30) ∧ ∀ x, 0 ≤ x → x < wd → -30000 ≤ p.2 g x ∧ p.2 g x ≤ 30000
theorem mul_ab {x m a b : Int} (h0 : -a ≤ x) (h1 : x ≤ a) (m0 : 0 ≤ m) (m1 : m ≤ b) : -(a * b) ≤ x * m ∧ x * m ≤ a * b := by
  by_cases h : 0 ≤ x
  · have := mul_le2 h h1 m0 m1; omega
  · have h2 := mul_le2 (a := -x) (A := a) (by omega) (by omega) m0 m1
    rw [Int.neg_mul] at h2
    omega
theorem sq_le {x a : Int} (h0 : -a ≤ x) (h1 : x ≤ a) : 0 ≤ x * x ∧ x * x ≤ a * a := by
  by_cases h : 0 ≤ x
  · exact mul_le2 h h1 h h1
  · have h2 := mul_le2 (a := -x) (A := a) (b := -x) (B := a) (by omega) (by omega) (by omega) (by omega)
    rw [Int.neg_mul_neg] at h2
    exact h2
theorem gap_bd {wd : Int} {N : Int → Int → Int} {k r g x : Int} {p : Mn} (hN : Nb wd N r) (hM : Mb k wd p) (g0 : 0 ≤ g) (g1 : g < k) (x0 : 0 ≤ x) (x1 : x < wd) : (-30000 ≤ N r x * p.1 g ∧ N r x * p.1 g ≤ 30000) ∧ (0 ≤ (N r x * p.1 g - p.2 g x) * (N r x * p.1 g - p.2 g x) ∧ (N r x * p.1 g - p.2 g x) * (N r x * p.1 g - p.2 g x) ≤ 3600000000) := by
  have h1 := hN x x0 x1
  have h2 := hM g g0 g1
  have h3 := h2.2 x x0 x1
  have h4 := mul_ab (a := 1000) (b := 30) h1.1 h1.2 h2.1.1 h2.1.2
  have h5 := sq_le (x := N r x * p.1 g - p.2 g x) (a := 60000) (by omega) (by omega)
  exact ⟨by omega, h5.1, by omega⟩
theorem sA_bd {wd : Int} {N : Int → Int → Int} {k r g : Int} {p : Mn} (h0 : 0 ≤ wd) (h4 : wd ≤ 4) (hN : Nb wd N r) (hM : Mb k wd p) (g0 : 0 ≤ g) (g1 : g < k) : 0 ≤ sA wd N p r g ∧ sA wd N p r g ≤ 14400000000 := by
  have := sI_bd (f := fun x => (N r x * p.1 g - p.2 g x) * (N r x * p.1 g - p.2 g x)) (lo := 0) (hi := 3600000000) h0 (fun x x0 x1 => (gap_bd hN hM g0 g1 x0 x1).2)
  unfold sA
  omega
theorem mm_bd {m : Int} (h : 0 ≤ m ∧ m ≤ 30) : 0 ≤ m * m ∧ m * m ≤ 900 := mul_le2 h.1 h.2 h.1 h.2
theorem pr_bd {a b : Int} (h : 0 ≤ a ∧ a ≤ 14400000000) (h2 : 0 ≤ b ∧ b ≤ 900) : 0 ≤ a * b ∧ a * b ≤ 12960000000000 := by
  have := mul_le2 h.1 h.2 h2.1 h2.2; omega
abbrev lt2 (A : Int → Int → Int) (m : Int → Int) (i g j h : Int) : Prop := A i g * (m h * m h) < A j h * (m g * m g)
/-- the first of the GROUPS 0 to j whose MEAN is nearest to ROW r -/
def nn (A : Int → Int → Int) (m : Int → Int) (r : Int) : Nat → Int
  | 0 => 0
  | j + 1 => if lt2 A m r ((j : Int) + 1) r (nn A m r j) then (j : Int) + 1 else nn A m r j
theorem nn_bd {A : Int → Int → Int} {m : Int → Int} {r : Int} : ∀ j : Nat, 0 ≤ nn A m r j ∧ nn A m r j ≤ j
  | 0 => by show (0 : Int) ≤ 0 ∧ (0 : Int) ≤ ((0 : Nat) : Int); omega
  | j + 1 => by
    have := nn_bd (A := A) (m := m) (r := r) j
    rw [nn]
    split <;> omega
theorem nn_s {A : Int → Int → Int} {m : Int → Int} {r j : Int} (h : 1 ≤ j) : nn A m r (j + 1 - 1).toNat = if lt2 A m r j r (nn A m r (j - 1).toNat) then j else nn A m r (j - 1).toNat := by
  rw [show (j + 1 - 1).toNat = (j - 1).toNat + 1 by omega, nn, show (((j - 1).toNat : Nat) : Int) + 1 = j by omega]
def up (L : Int → Int) (x v : Int) : Int → Int := fun b => if b = x then v else L b
theorem cn_up2 {L : Int → Int} {x v q : Int} (x0 : 0 ≤ x) : ∀ n : Nat, cn (up L x v) n q + (if x < n then (if L x = q then 1 else 0) else 0) = cn L n q + (if x < n then (if v = q then 1 else 0) else 0)
  | 0 => by rw [if_neg (by omega), if_neg (by omega)]; rfl
  | n + 1 => by
    have ih := cn_up2 (L := L) (v := v) (q := q) x0 n
    rw [show ((n + 1 : Nat) : Int) = (n : Int) + 1 by omega, cn_s (by omega), cn_s (by omega)]
    by_cases e : (n : Int) = x
    · subst e
      rw [if_neg (by omega), if_neg (by omega)] at ih
      have e2 : up L n v n = v := if_pos rfl
      rw [e2, if_pos (show (n : Int) < n + 1 by omega), if_pos (show (n : Int) < n + 1 by omega)]
      omega
    · have e2 : up L x v n = L n := if_neg e
      rw [e2]
      by_cases h : x < n
      · rw [if_pos h, if_pos h] at ih
        rw [if_pos (show x < (n : Int) + 1 by omega), if_pos (show x < (n : Int) + 1 by omega)]
        omega
      · rw [if_neg h, if_neg h] at ih
        rw [if_neg (show ¬ x < (n : Int) + 1 by omega), if_neg (show ¬ x < (n : Int) + 1 by omega)]
        omega
theorem cn_upI {L : Int → Int} {x v q n : Int} (x0 : 0 ≤ x) (x1 : x < n) : cn (up L x v) n q = cn L n q - (if L x = q then 1 else 0) + (if v = q then 1 else 0) := by
  have h := cn_up2 (L := L) (v := v) (q := q) x0 n.toNat
  rw [show ((n.toNat : Nat) : Int) = n by omega, if_pos x1, if_pos x1] at h
  omega
theorem cn_tot {L : Int → Int} {k : Nat} : ∀ n : Nat, (∀ r, 0 ≤ r → r < (n : Int) → 0 ≤ L r ∧ L r < k) → sm (fun j => cn L n j) k = n
  | 0, _ => by
    have h : sm (fun j => cn L ((0 : Nat) : Int) j) k = sm (fun _ => 0) k := sm_congr k (fun r _ _ => rfl)
    have h2 := sm_bd (f := fun _ => (0 : Int)) (lo := 0) (hi := 0) k (fun r _ _ => by omega)
    rw [h]; omega
  | n + 1, hL => by
    have ih := cn_tot (L := L) (k := k) n (fun r r0 r1 => hL r r0 (by omega))
    have h : sm (fun j => cn L ((n + 1 : Nat) : Int) j) k = sm (fun j => cn L n j + if j = L n then 1 else 0) k := sm_congr k (fun r _ _ => by
      show cn L (((n : Nat) + 1 : Nat) : Int) r = _
      rw [Int.natCast_add]
      refine (cn_s (by omega)).trans ?_
      by_cases e : L n = r
      · rw [if_pos e, if_pos e.symm]
      · rw [if_neg e, if_neg (fun q => e q.symm)])
    have h0 := hL n (by omega) (by omega)
    rw [h, sm_add, sm_one _ _ h0.1, if_pos h0.2]
    have ih2 : sm (cn L n) k = n := ih
    omega
/-- where a GROUP is empty, another has two ROWS -/
theorem pg {L : Int → Int} {n k g : Int} (hL : ∀ r, 0 ≤ r → r < n → 0 ≤ L r ∧ L r < k) (hk : k ≤ n) (g0 : 0 ≤ g) (g1 : g < k) (hg : cn L n g = 0) : ∃ r, 0 ≤ r ∧ r < n ∧ 2 ≤ cn L n (L r) := by
  apply Classical.byContradiction
  intro hc
  have h1 : ∀ j, cn L n j ≤ 1 := fun j => by
    apply Classical.byContradiction
    intro hj
    have h2 : ∃ r, 0 ≤ r ∧ r < n ∧ L r = j := by
      apply Classical.byContradiction
      intro h3
      have h4 := cn_0 (f := L) (g := j) (n := n) (by omega) (fun x x0 x1 e => h3 ⟨x, x0, x1, e⟩)
      omega
    obtain ⟨r, r0, r1, e⟩ := h2
    exact hc ⟨r, r0, r1, by rw [e]; omega⟩
  have h2 := cn_tot (L := L) (k := k.toNat) n.toNat (fun r r0 r1 => by have := hL r r0 (by omega); omega)
  rw [show ((n.toNat : Nat) : Int) = n by omega] at h2
  have h3 := sm_bd (f := fun j => cn L n j + if j = g then 1 else 0) (lo := 0) (hi := 1) k.toNat (fun r _ _ => by
    have h4 := h1 r
    have h5 := cn_bd (g := L) (n := n) (k := r) (by omega)
    by_cases e : r = g
    · rw [e, if_pos rfl, hg]; omega
    · rw [if_neg e]; omega)
  rw [sm_add, sm_one _ _ g0, if_pos (by omega)] at h3
  have h2' : sm (cn L n) k.toNat = n := h2
  omega
/-- of the first j ROWS the first one that lies farthest from the MEAN of its GROUP, which has two ROWS at least -/
def fb (A : Int → Int → Int) (m : Int → Int) (L : Int → Int) (n : Int) : Nat → Int
  | 0 => -1
  | r + 1 => if 2 ≤ cn L n (L r) ∧ (fb A m L n r = -1 ∨ lt2 A m (fb A m L n r) (L (fb A m L n r)) r (L r)) then (r : Int) else fb A m L n r
theorem fb_yes {A : Int → Int → Int} {m L : Int → Int} {n r : Int} (r0 : 0 ≤ r) (h : 2 ≤ cn L n (L r) ∧ (fb A m L n r.toNat = -1 ∨ lt2 A m (fb A m L n r.toNat) (L (fb A m L n r.toNat)) r (L r))) : fb A m L n (r + 1).toNat = r := by
  rw [show (r + 1).toNat = r.toNat + 1 by omega, fb, show ((r.toNat : Nat) : Int) = r by omega]
  exact if_pos h
theorem fb_no {A : Int → Int → Int} {m L : Int → Int} {n r : Int} (r0 : 0 ≤ r) (h : ¬ (2 ≤ cn L n (L r) ∧ (fb A m L n r.toNat = -1 ∨ lt2 A m (fb A m L n r.toNat) (L (fb A m L n r.toNat)) r (L r)))) : fb A m L n (r + 1).toNat = fb A m L n r.toNat := by
  rw [show (r + 1).toNat = r.toNat + 1 by omega, fb, show ((r.toNat : Nat) : Int) = r by omega]
  exact if_neg h
theorem fb_bd {A : Int → Int → Int} {m L : Int → Int} {n : Int} : ∀ j : Nat, -1 ≤ fb A m L n j ∧ fb A m L n j < j
  | 0 => by show -1 ≤ (-1 : Int) ∧ (-1 : Int) < ((0 : Nat) : Int); omega
  | j + 1 => by
    have := fb_bd (A := A) (m := m) (L := L) (n := n) j
    rw [fb]
    split <;> omega
theorem fb_ne {A : Int → Int → Int} {m L : Int → Int} {n x : Int} (x0 : 0 ≤ x) (hx : 2 ≤ cn L n (L x)) : ∀ j : Nat, x < j → 0 ≤ fb A m L n j
  | 0, h => by omega
  | j + 1, h => by
    have hb := fb_bd (A := A) (m := m) (L := L) (n := n) j
    rw [fb]
    by_cases e : x < j
    · have := fb_ne (A := A) (m := m) x0 hx j e
      split <;> omega
    · have e2 : x = j := by omega
      rw [e2] at hx
      by_cases h3 : fb A m L n j = -1
      · rw [if_pos ⟨hx, Or.inl h3⟩]; omega
      · split <;> omega
def fl (A : Int → Int → Int) (m : Int → Int) (n : Int) (L : Int → Int) (g : Int) : Int → Int := if cn L n g = 0 then up L (fb A m L n n.toNat) g else L
def fls (A : Int → Int → Int) (m : Int → Int) (n : Int) (L : Int → Int) : Nat → Int → Int
  | 0 => L
  | g + 1 => fl A m n (fls A m n L g) g
theorem fls_s {A : Int → Int → Int} {m : Int → Int} {n : Int} {L : Int → Int} {g : Int} (g0 : 0 ≤ g) : fls A m n L (g + 1).toNat = fl A m n (fls A m n L g.toNat) g := by
  rw [show (g + 1).toNat = g.toNat + 1 by omega, fls, show ((g.toNat : Nat) : Int) = g by omega]
theorem fl_bd {A : Int → Int → Int} {m : Int → Int} {n k : Int} {L : Int → Int} {g : Int} (h : ∀ r, 0 ≤ L r ∧ L r < k) (g0 : 0 ≤ g) (g1 : g < k) : ∀ r, 0 ≤ fl A m n L g r ∧ fl A m n L g r < k := by
  intro r
  unfold fl
  split
  · unfold up
    split
    · omega
    · exact h r
  · exact h r
theorem fls_bd {A : Int → Int → Int} {m : Int → Int} {n k : Int} {L : Int → Int} (h : ∀ r, 0 ≤ L r ∧ L r < k) : ∀ j : Nat, j ≤ k → ∀ r, 0 ≤ fls A m n L j r ∧ fls A m n L j r < k
  | 0, _ => h
  | j + 1, hj => fl_bd (fls_bd h j (by omega)) (by omega) (by omega)
def l0 (A : Int → Int → Int) (m : Int → Int) (k : Int) : Int → Int := fun r => nn A m r (k - 1).toNat
theorem l0_bd {A : Int → Int → Int} {m : Int → Int} {k : Int} (hk : 1 ≤ k) : ∀ r, 0 ≤ l0 A m k r ∧ l0 A m k r < k := by
  intro r
  have := nn_bd (A := A) (m := m) (r := r) (k - 1).toNat
  unfold l0
  omega
/-- the GROUPING of one round -/
def lb (wd : Int) (N : Int → Int → Int) (n k : Int) (p : Mn) : Int → Int := fls (sA wd N p) p.1 n (l0 (sA wd N p) p.1 k) k.toNat
theorem lb_bd {wd : Int} {N : Int → Int → Int} {n k : Int} {p : Mn} (hk : 1 ≤ k) : ∀ r, 0 ≤ lb wd N n k p r ∧ lb wd N n k p r < k := fls_bd (l0_bd hk) _ (by omega)
def nxm (n : Int) (N : Int → Int → Int) (L : Int → Int) : Mn := (fun g => cn L n g, fun g x => sg L n g (fun r => N r x))
theorem nxm_Mb {n k wd : Int} {N : Int → Int → Int} {L : Int → Int} (hn : 0 ≤ n ∧ n ≤ 30) (hN : ∀ i, 0 ≤ i → i < n → Nb wd N i) : Mb k wd (nxm n N L) := by
  intro g g0 g1
  have h1 := cn_bd (g := L) (n := n) (k := g) hn.1
  refine ⟨⟨h1.1, by show cn L n g ≤ 30; omega⟩, fun x x0 x1 => ?_⟩
  have h2 := sg_bd (g := L) (v := fun r => N r x) (n := n) (k := g) (m := 1000) hn.1 (by omega) (fun r r0 r1 => hN r r0 r1 x x0 x1)
  show -30000 ≤ sg L n g (fun r => N r x) ∧ sg L n g (fun r => N r x) ≤ 30000
  omega
def MR (wd : Int) (N : Int → Int → Int) (n k : Int) (p : Mn) : Nat → (Int → Int) × Mn
  | 0 => (fun _ => -1, p)
  | j + 1 => (lb wd N n k (MR wd N n k p j).2, nxm n N (lb wd N n k (MR wd N n k p j).2))
theorem MR_s {wd : Int} {N : Int → Int → Int} {n k : Int} {p : Mn} {j : Int} (h : 0 ≤ j) : MR wd N n k p (j + 1).toNat = (lb wd N n k (MR wd N n k p j.toNat).2, nxm n N (lb wd N n k (MR wd N n k p j.toNat).2)) := by
  rw [show (j + 1).toNat = j.toNat + 1 by omega, MR]
theorem MR_Mb {wd : Int} {N : Int → Int → Int} {n k : Int} {p : Mn} (hp : Mb k wd p) (hn : 0 ≤ n ∧ n ≤ 30) (hN : ∀ i, 0 ≤ i → i < n → Nb wd N i) : ∀ j : Nat, Mb k wd (MR wd N n k p j).2
  | 0 => hp
  | j + 1 => nxm_Mb hn hN
def Mv (B C : Int → Int) (n : Int) : Prop := ∃ r, 0 ≤ r ∧ r < n ∧ ¬ C r = B r
def IsR (F : Nat → Int → Int) (n R : Int) : Prop := (1 ≤ R ∧ R ≤ 60) ∧ (∀ j, 1 ≤ j → j < R → Mv (F (j - 1).toNat) (F j.toNat) n) ∧ (R = 60 ∨ ¬ Mv (F (R - 1).toNat) (F R.toNat) n)
theorem IsR.un {F : Nat → Int → Int} {n R S : Int} (h : IsR F n R) (g : IsR F n S) : R = S := by
  obtain ⟨h1, h2, h3⟩ := h
  obtain ⟨g1, g2, g3⟩ := g
  rcases Int.lt_trichotomy R S with e | e | e
  · exact absurd (g2 R h1.1 e) (h3.elim (fun q => by omega) (fun q => q))
  · exact e
  · exact absurd (h2 S g1.1 e) (g3.elim (fun q => by omega) (fun q => q))
noncomputable def rd (F : Nat → Int → Int) (n : Int) : Int := Classical.epsilon (IsR F n)
theorem rd_eq {F : Nat → Int → Int} {n R : Int} (h : IsR F n R) : rd F n = R := IsR.un (Classical.epsilon_spec (p := IsR F n) ⟨R, h⟩) h
-- the first MEANS
def fxr (f : Int → Int) : Nat → Int
  | 0 => 0
  | r + 1 => if f (fxr f r) < f r then (r : Int) else fxr f r
theorem fxr_s {f : Int → Int} {r : Int} (h : 0 ≤ r) : fxr f (r + 1).toNat = if f (fxr f r.toNat) < f r then r else fxr f r.toNat := by
  rw [show (r + 1).toNat = r.toNat + 1 by omega, fxr, show ((r.toNat : Nat) : Int) = r by omega]
theorem fxr_bd {f : Int → Int} : ∀ j : Nat, 0 ≤ fxr f j ∧ (fxr f j < j ∨ (j = 0 ∧ fxr f j = 0))
  | 0 => ⟨Int.le_refl _, Or.inr ⟨rfl, rfl⟩⟩
  | j + 1 => by
    have := fxr_bd (f := f) j
    rw [fxr]
    split <;> omega
theorem fxr_mx {f : Int → Int} : ∀ (j : Nat) (x : Int), 0 ≤ x → x < j → f x ≤ f (fxr f j)
  | 0, x, h0, h1 => by omega
  | j + 1, x, h0, h1 => by
    rw [fxr]
    by_cases e : x < j
    · have := fxr_mx (f := f) j x h0 e
      split <;> omega
    · have e2 : x = j := by omega
      subst e2
      split <;> omega
def nW (D : Int → Int → Int) (W : Int → Int) (q : Int) : Int → Int := fun r => mn (if r = q then -1 else W r) (D q r)
/-- when g ROWS are chosen: how far each lies from them (-1: chosen), which are, and the next -/
def CQ (D : Int → Int → Int) (n : Int) : Nat → (Int → Int) × (Int → Int) × Int
  | 0 => (fun _ => 2000000000, fun _ => 0, 0)
  | g + 1 => (nW D (CQ D n g).1 (CQ D n g).2.2, up (CQ D n g).2.1 (CQ D n g).2.2 1, fxr (nW D (CQ D n g).1 (CQ D n g).2.2) n.toNat)
theorem CQ_s {D : Int → Int → Int} {n g : Int} (h : 0 ≤ g) : CQ D n (g + 1).toNat = (nW D (CQ D n g.toNat).1 (CQ D n g.toNat).2.2, up (CQ D n g.toNat).2.1 (CQ D n g.toNat).2.2 1, fxr (nW D (CQ D n g.toNat).1 (CQ D n g.toNat).2.2) n.toNat) := by
  rw [show (g + 1).toNat = g.toNat + 1 by omega, CQ]
theorem cn_all {f : Int → Int} {n : Int} (hn : 0 ≤ n) (h : ∀ r, 0 ≤ r → r < n → f r = 1) : cn f n 1 = n := by
  have h1 := sI_bd (f := fun r => if f r = 1 then 1 else 0) (lo := 1) (hi := 1) hn (fun r r0 r1 => by rw [if_pos (h r r0 r1)]; omega)
  have h2 : cn f n 1 = sI (fun r => if f r = 1 then 1 else 0) n := rfl
  omega
def CO (D : Int → Int → Int) (n : Int) (g : Nat) (W I : Int → Int) (q : Int) : Prop := (∀ r, I r = 0 ∨ I r = 1) ∧ (∀ r, 0 ≤ r → r < n → I r = 1 → W r = -1) ∧ (∀ r, 0 ≤ r → r < n → I r = 0 → (g = 0 ∧ W r = 2000000000) ∨ (1 ≤ g ∧ (∃ y, 0 ≤ y ∧ y < n ∧ I y = 1 ∧ W r = D y r) ∧ ∀ y, 0 ≤ y → y < n → I y = 1 → W r ≤ D y r)) ∧ (0 ≤ q ∧ q < n) ∧ cn I n 1 ≤ g ∧ (1 ≤ g → I 0 = 1) ∧ (g < n → I q = 0) ∧ (g = 0 → q = 0 ∧ ∀ r, I r = 0)
theorem CQ_ok {D : Int → Int → Int} {n : Int} (hD : Db D n) (hn : 1 ≤ n) : ∀ g : Nat, CO D n g (CQ D n g).1 (CQ D n g).2.1 (CQ D n g).2.2
  | 0 => by
    refine ⟨fun r => Or.inl rfl, fun r _ _ h => ?_, fun r _ _ _ => Or.inl ⟨rfl, rfl⟩, ⟨Int.le_refl _, by show (0 : Int) < n; omega⟩, ?_, fun h => by omega, fun _ => rfl, fun _ => ⟨rfl, fun _ => rfl⟩⟩
    · exact absurd (show (0 : Int) = 1 from h) (by decide)
    · show cn (fun _ => (0 : Int)) n 1 ≤ ((0 : Nat) : Int)
      rw [cn_0 (f := fun _ => (0 : Int)) (g := 1) (n := n) (by omega) (fun x _ _ h => absurd (show (0 : Int) = 1 from h) (by decide))]; omega
  | g + 1 => by
    obtain ⟨hA, hB, hC, hE, hF, hG, hH, hK⟩ := CQ_ok hD hn g
    rw [CQ]
    dsimp only
    generalize hW : (CQ D n g).1 = W at *
    generalize hI : (CQ D n g).2.1 = I at *
    generalize hq : (CQ D n g).2.2 = q at *
    have hB2 : ∀ r, 0 ≤ r → r < n → up I q 1 r = 1 → nW D W q r = -1 := fun r r0 r1 h => by
      have hd := hD q r hE.1 hE.2 r0 r1
      unfold nW mn
      by_cases e : r = q
      · rw [if_pos e, if_neg (by omega)]
      · rw [if_neg e]
        rw [up, if_neg e] at h
        rw [hB r r0 r1 h, if_neg (by omega)]
    have hC2 : ∀ r, 0 ≤ r → r < n → up I q 1 r = 0 → (∃ y, 0 ≤ y ∧ y < n ∧ up I q 1 y = 1 ∧ nW D W q r = D y r) ∧ ∀ y, 0 ≤ y → y < n → up I q 1 y = 1 → nW D W q r ≤ D y r := fun r r0 r1 h => by
      have hd := hD q r hE.1 hE.2 r0 r1
      have e : ¬ r = q := fun e => by rw [up, if_pos e] at h; omega
      rw [up, if_neg e] at h
      have hq1 : up I q 1 q = 1 := if_pos rfl
      have hw : nW D W q r = mn (W r) (D q r) := by unfold nW; rw [if_neg e]
      rw [hw]
      rcases hC r r0 r1 h with ⟨h1, h2⟩ | ⟨h1, ⟨y, y0, y1, y2, y3⟩, h3⟩
      · have hw2 : mn (W r) (D q r) = D q r := by unfold mn; rw [if_pos (by omega)]
        rw [hw2]
        refine ⟨⟨q, hE.1, hE.2, hq1, rfl⟩, fun y y0 y1 hy => ?_⟩
        by_cases ey : y = q
        · rw [ey]; omega
        · rw [up, if_neg ey, (hK h1).2 y] at hy; omega
      · refine ⟨?_, fun z z0 z1 hz => ?_⟩
        · by_cases h4 : D q r < W r
          · exact ⟨q, hE.1, hE.2, hq1, by unfold mn; rw [if_pos h4]⟩
          · refine ⟨y, y0, y1, ?_, by unfold mn; rw [if_neg h4]; exact y3⟩
            unfold up
            split
            · rfl
            · exact y2
        · by_cases ez : z = q
          · rw [ez]; unfold mn; split <;> omega
          · rw [up, if_neg ez] at hz
            have := h3 z z0 z1 hz
            unfold mn; split <;> omega
    have hb := fxr_bd (f := nW D W q) n.toNat
    have hF2 : cn (up I q 1) n 1 ≤ g + 1 := by
      rw [cn_upI hE.1 hE.2, if_pos rfl]
      split <;> omega
    refine ⟨fun r => ?_, hB2, fun r r0 r1 h => Or.inr ⟨by omega, hC2 r r0 r1 h⟩, by omega, by omega, fun _ => ?_, fun h => ?_, fun h => by omega⟩
    · unfold up; split
      · exact Or.inr rfl
      · exact hA r
    · unfold up; split
      · rfl
      · rename_i h
        exact hG (by
          rcases Nat.eq_zero_or_pos g with e | e
          · exact absurd (hK e).1.symm h
          · exact e)
    · have h1 : ∃ r, 0 ≤ r ∧ r < n ∧ up I q 1 r = 0 := by
        apply Classical.byContradiction
        intro hc
        have h2 := cn_all (f := up I q 1) (n := n) (by omega) (fun r r0 r1 => by
          have h3 : up I q 1 r = 0 ∨ up I q 1 r = 1 := by
            unfold up; split
            · exact Or.inr rfl
            · exact hA r
          rcases h3 with h3 | h3
          · exact absurd ⟨r, r0, r1, h3⟩ hc
          · exact h3)
        omega
      obtain ⟨r, r0, r1, h2⟩ := h1
      obtain ⟨⟨y, y0, y1, y2, y3⟩, -⟩ := hC2 r r0 r1 h2
      have h4 := hD y r y0 y1 r0 r1
      have h5 := fxr_mx (f := nW D W q) n.toNat r r0 (by omega)
      have h6 : up I q 1 (fxr (nW D W q) n.toNat) = 0 ∨ up I q 1 (fxr (nW D W q) n.toNat) = 1 := by
        unfold up; split
        · exact Or.inr rfl
        · exact hA _
      rcases h6 with h6 | h6
      · exact h6
      · have := hB2 _ hb.1 (by omega) h6
        omega
def p0 (wd : Int) (N : Int → Int → Int) (n : Int) : Mn := (fun _ => 1, fun g x => N (CQ (ds wd N 0) n g.toNat).2.2 x)
theorem p0_Mb {wd : Int} {N : Int → Int → Int} {n k : Int} (hD : Db (ds wd N 0) n) (hn : 1 ≤ n) (hN : ∀ i, 0 ≤ i → i < n → Nb wd N i) : Mb k wd (p0 wd N n) := by
  intro g g0 g1
  refine ⟨⟨by show (0 : Int) ≤ 1; omega, by show (1 : Int) ≤ 30; omega⟩, fun x x0 x1 => ?_⟩
  have h1 := (CQ_ok hD hn g.toNat).2.2.2.1
  have h2 := hN _ h1.1 h1.2 x x0 x1
  show -30000 ≤ N (CQ (ds wd N 0) n g.toNat).2.2 x ∧ N (CQ (ds wd N 0) n g.toNat).2.2 x ≤ 30000
  omega
def FR (wd : Int) (N : Int → Int → Int) (n k : Int) : Nat → Int → Int := fun j => (MR wd N n k (p0 wd N n) j).1
theorem FR_bd {wd : Int} {N : Int → Int → Int} {n k : Int} (hk : 1 ≤ k) (j : Nat) (hj : 1 ≤ j) : ∀ r, 0 ≤ FR wd N n k j r ∧ FR wd N n k j r < k := by
  cases j with
  | zero => omega
  | succ i => exact lb_bd hk
noncomputable def a_mns (n wd : Int) (N : Int → Int → Int) (s k : Int) : Int := if (0 ≤ s ∧ s ≤ 1) ∧ 1 ≤ k ∧ k ≤ 6 then (if n < k then -2000000003 else rd (FR wd N n k) n) else -2000000002
noncomputable def s_mns (n wd : Int) (N : Int → Int → Int) (S : Sl) (s k : Int) : Sl := if (0 ≤ s ∧ s ≤ 1) ∧ 1 ≤ k ∧ k ≤ 6 then (if n < k then S else Sup S s (FR wd N n k (rd (FR wd N n k) n).toNat) k) else S
