-- the words of the tables that stand all through; those that only warm
abbrev qcl : List vw_C := vwCl
def qgr : String := "NearGroups$Grouping"
def qALL : List Cond := lw_tbl.filter goodWord
def qnest : Cond → Bool
  | .fieldLinkNest .. => true
  | .methodLinkNest .. => true
  | .arrayOver (.object _) => true
  | _ => false
def qNZ : List Cond := lw_tbl.filter qnest
theorem q_same {w : Cond} (h : w ∈ qNZ) {u U : State} (hv : u.vm = U.vm) (hz : va_Nw w u) : va_Nw w U := by
  have h2 := (List.mem_filter.mp h).2
  cases w
  case fieldLinkNest => exact va_Nw.same rfl hv hz
  case methodLinkNest => exact va_Nw.same rfl hv hz
  case arrayOver t =>
    cases t
    case object C => exact va_AO.moved (by rw [hv]; exact Vm.Alike.refl _) hz
    all_goals exact absurd h2 (by simp [qnest])
  all_goals exact absurd h2 (by simp [qnest])
theorem q_nw {w : Cond} (h : w ∈ qNZ) {A : Array Value} {U : State} (hz : w.before A U = true) : va_Nw w U := by
  have h2 := (List.mem_filter.mp h).2
  cases w
  case fieldLinkNest => exact va_Nw.of rfl hz
  case methodLinkNest => exact va_Nw.of rfl hz
  case arrayOver t =>
    cases t
    case object C => exact va_AO.of hz
    all_goals exact absurd h2 (by simp [qnest])
  all_goals exact absurd h2 (by simp [qnest])
/-! THE q LAYER: a machine over whole numbers. A state is: pc, locals, stack, and what the cells hold ('c k i': cell k, place i, a whole number); the cells lie at B, B + 1, .. and their kinds ('qL') stand apart from what they hold. 'qG' says: from such a state the machine comes to its end as Z says. -/
abbrev iR (z : Int) : Prop := -2147483648 ≤ z ∧ z ≤ 2147483647
abbrev lR (z : Int) : Prop := -9223372036854775808 ≤ z ∧ z ≤ 9223372036854775807
theorem q_it {z : Int} (h : iR z) : (Int32.ofInt z).toInt = z := Int32.toInt_ofInt_of_le (by omega) (by omega)
theorem q_lt {z : Int} (h : lR z) : (Int64.ofInt z).toInt = z := Int64.toInt_ofInt_of_le (by omega) (by omega)
theorem q_ofi (x : Int32) : iR x.toInt := ⟨by have := Int32.le_toInt x; omega, by have := Int32.toInt_lt x; omega⟩
theorem q_i0 : (0 : Int32) = Int32.ofInt 0 := by decide
theorem q_l0 : (0 : Int64) = Int64.ofInt 0 := by decide
theorem q_ilt {x y : Int} (hx : iR x) (hy : iR y) : Int32.ofInt x < Int32.ofInt y ↔ x < y := by rw [Int32.lt_iff_toInt_lt, q_it hx, q_it hy]
theorem q_ile {x y : Int} (hx : iR x) (hy : iR y) : Int32.ofInt x ≤ Int32.ofInt y ↔ x ≤ y := by rw [Int32.le_iff_toInt_le, q_it hx, q_it hy]
theorem q_ieq {x y : Int} (hx : iR x) (hy : iR y) : Int32.ofInt x = Int32.ofInt y ↔ x = y := by rw [← Int32.toInt_inj, q_it hx, q_it hy]
theorem q_llt {x y : Int} (hx : lR x) (hy : lR y) : Int64.ofInt x < Int64.ofInt y ↔ x < y := by rw [Int64.lt_iff_toInt_lt, q_lt hx, q_lt hy]
theorem q_leq {x y : Int} (hx : lR x) (hy : lR y) : Int64.ofInt x = Int64.ofInt y ↔ x = y := by rw [← Int64.toInt_inj, q_lt hx, q_lt hy]
theorem q_r0 : iR 0 := by omega
theorem q_i2l {z : Int} (h : iR z) : (Int32.ofInt z).toInt64 = Int64.ofInt z := Int32.toInt64_ofInt (by show (-2147483648 : Int) ≤ z; exact h.1) (by show z ≤ (2147483647 : Int); exact h.2)
theorem q_ldiv {a b : Int} (ha : lR a) (hb : lR b) : Int64.ofInt a / Int64.ofInt b = Int64.ofInt (a.tdiv b) := (Int64.ofInt_tdiv (by show (-9223372036854775808 : Int) ≤ a; exact ha.1) (by show a ≤ (9223372036854775807 : Int); exact ha.2) (by show (-9223372036854775808 : Int) ≤ b; exact hb.1) (by show b ≤ (9223372036854775807 : Int); exact hb.2)).symm
theorem q_lrem {a b : Int} (ha : lR a) (hb : lR b) : Int64.ofInt a - Int64.ofInt a / Int64.ofInt b * Int64.ofInt b = Int64.ofInt (a.tmod b) := by
  rw [q_ldiv ha hb, ← Int64.ofInt_mul, ← Int64.ofInt_sub]
  congr 1
  have := Int.tdiv_mul_add_tmod a b
  omega
theorem q_cl {z : Int} (h0 : 0 ≤ z) (h1 : z ≤ 2147483647) : (Int32.ofInt z).toNatClampNeg = z.toNat := Int32.toNatClampNeg_ofInt_of_le (by omega) (by omega)
theorem q_in {z : Int} {n : Nat} (h0 : 0 ≤ z) (h1 : z < n) (hn : n < 2147483648) : vp_in (Int32.ofInt z) n := by
  rw [vp_in_iff, q_it (by omega)]
  exact ⟨h0, h1⟩
theorem q_cmp {x y : Int} (hx : lR x) (hy : lR y) : lg_cmp (Int64.ofInt x) (Int64.ofInt y) = Int32.ofInt (if y < x then 1 else if x = y then 0 else -1) := by
  by_cases h1 : y < x
  · rw [if_pos h1]; simp [lg_cmp, (q_llt hy hx).mpr h1]; try decide
  · rw [if_neg h1]
    by_cases h2 : x = y
    · rw [if_pos h2]; subst h2; simp [lg_cmp]; try decide
    · rw [if_neg h2]
      have h3 : ¬ Int64.ofInt y < Int64.ofInt x := fun h => h1 ((q_llt hy hx).mp h)
      have h4 : ¬ Int64.ofInt x = Int64.ofInt y := fun h => h2 ((q_leq hx hy).mp h)
      simp [lg_cmp, h3, h4]; try decide
-- values, cells
abbrev qV : Type := Int ⊕ Int ⊕ Option Nat ⊕ Nat
def qI (z : Int) : qV := .inl z
def qJ (z : Int) : qV := .inr (.inl z)
def qP (k : Nat) : qV := .inr (.inr (.inl (some k)))
def qO (a : Nat) : qV := .inr (.inr (.inr a))
def qv (B : Nat) : qV → Value
  | .inl z => .int (Int32.ofInt z)
  | .inr (.inl z) => .long (Int64.ofInt z)
  | .inr (.inr (.inl none)) => .null
  | .inr (.inr (.inl (some k))) => .ref (B + k)
  | .inr (.inr (.inr a)) => .ref a
def qcat : qV → Nat
  | .inr (.inl _) => 2
  | _ => 1
theorem q_cat (B : Nat) (v : qV) : (qv B v).category = qcat v := by
  rcases v with z | z | (_ | k) | a <;> rfl
def qcs : List qV → Nat
  | [] => 0
  | v :: t => qcat v + qcs t
theorem q_cs (B : Nat) (st : List qV) : ((st.map (qv B)).map fun v => v.category).sum = qcs st := by
  induction st with
  | nil => rfl
  | cons v t ih => simp only [List.map_cons, List.sum_cons, ih, q_cat, qcs]
abbrev qF : Type := Option Nat ⊕ Nat
abbrev qL : Type := (Nat × Nat) ⊕ (Nat × (Nat → Option Nat)) ⊕ (Nat × List qF)
abbrev qS : Type := ClassId × ClassId × ClassId × ClassId
abbrev qC : Type := Nat → Int → Int
def qf (B : Nat) (z : Int) : qF → Value
  | .inl r => va_rf (r.map (B + ·))
  | .inr 1 => .long (Int64.ofInt z)
  | .inr _ => .int (Int32.ofInt z)
def qfs (B : Nat) (g : Int → Int) : Nat → List qF → List Value
  | _, [] => []
  | j, f :: t => qf B (g j) f :: qfs B g (j + 1) t
theorem q_fs (B : Nat) (g : Int → Int) (fs : List qF) : ∀ (j i : Nat), (qfs B g j fs)[i]? = (fs[i]?).map (qf B (g ((j + i : Nat) : Int))) := by
  induction fs with
  | nil => intro j i; simp [qfs]
  | cons f t ih =>
    intro j i
    cases i with
    | zero => simp [qfs]
    | succ i => simp only [qfs, List.getElem?_cons_succ, ih]; rw [show j + 1 + i = j + (i + 1) by omega]
theorem q_fsl (B : Nat) (g : Int → Int) (fs : List qF) : ∀ j : Nat, (qfs B g j fs).length = fs.length := by
  induction fs with
  | nil => intro j; rfl
  | cons f t ih => intro j; simp [qfs, ih]
def qE (B : Nat) (cs : qS) (g : Int → Int) : qL → va_E
  | .inl (0, n) => .inl (cs.1, n, .inl fun j => Int32.ofInt (g j))
  | .inl (1, n) => .inl (cs.2.1, n, .inr (.inl fun j => Int64.ofInt (g j)))
  | .inl (_, n) => .inl (cs.2.2.1, n, .inl fun j => Int32.ofInt (g j))
  | .inr (.inl (n, f)) => .inl (cs.2.2.2, n, .inr (.inr (.inr (.inr fun j => (f j).map (B + ·)))))
  | .inr (.inr (ci, fs)) => .inr (ci, qfs B g 0 fs)
def qu (c : qC) (k : Nat) (i x : Int) : qC := fun a => if a = k then (fun b => if b = i then x else c a b) else c a
theorem qu_ne {c : qC} {k a : Nat} {i x : Int} (h : a ≠ k) : qu c k i x a = c a := if_neg h
theorem qu_at (c : qC) (k : Nat) (i x j : Int) : qu c k i x k j = if j = i then x else c k j := by simp [qu]
theorem qu_eq (c : qC) (k : Nat) (i x : Int) : qu c k i x k i = x := by simp [qu]
theorem qu_off {c : qC} {k : Nat} {i x j : Int} (h : j ≠ i) : qu c k i x k j = c k j := by simp [qu, h]
def quL (L : Nat → qL) (k : Nat) (e : qL) : Nat → qL := fun a => if a = k then e else L a
def qtys (cs : qS) : List (ClassId × FieldType) := [(cs.1, .int), (cs.2.1, .long), (cs.2.2.1, .boolean), (cs.2.2.2, .object qgr)]
/-- the heap holds the cells -/
def qH (D : va_G) (cs : qS) (B : Nat) (L : Nat → qL) (n : Nat) (c : qC) (H : Heap) : Prop := H.size = B + n ∧ ∀ k, k < n → va_at D qcl (B + k, qE B cs (c k) (L k)) H
theorem qH.one {D : va_G} {cs : qS} {B : Nat} {L : Nat → qL} {n : Nat} {c : qC} {H : Heap} (h : qH D cs B L n c H) {k : Nat} (hk : k < n) {e : qL} (he : L k = e) : va_P D qcl [(B + k, qE B cs (c k) e)] H := by
  subst he
  intro j q hq
  cases j with
  | zero => cases hq; exact h.2 k hk
  | succ j => cases hq
theorem qH.set {D : va_G} {cs : qS} {B : Nat} {L L' : Nat → qL} {n : Nat} {c c' : qC} {H H1 : Heap} (h : qH D cs B L n c H) {k : Nat} (hz : H1.size = H.size) (ho : ∀ q, q ≠ B + k → H1[q]? = H[q]?) (ha : va_at D qcl (B + k, qE B cs (c' k) (L' k)) H1) (hc : ∀ j, j ≠ k → c' j = c j ∧ L' j = L j) : qH D cs B L' n c' H1 := by
  refine ⟨by rw [hz]; exact h.1, fun j hj => ?_⟩
  by_cases e : j = k
  · subst e; exact ha
  · rw [(hc j e).1, (hc j e).2]
    exact (h.2 j hj).kept (ho _ (by show B + j ≠ B + k; omega))
theorem qH.push {D : va_G} {cs : qS} {B : Nat} {L L' : Nat → qL} {n : Nat} {c c' : qC} {H H1 : Heap} (h : qH D cs B L n c H) (hz : H1.size = H.size + 1) (ho : ∀ q, q < H.size → H1[q]? = H[q]?) (ha : va_at D qcl (B + n, qE B cs (c' n) (L' n)) H1) (hc : ∀ j, j ≠ n → c' j = c j ∧ L' j = L j) : qH D cs B L' (n + 1) c' H1 := by
  refine ⟨by rw [hz, h.1]; omega, fun j hj => ?_⟩
  by_cases e : j = n
  · subst e; exact ha
  · rw [(hc j e).1, (hc j e).2]
    exact (h.2 j (by omega)).kept (ho _ (by show B + j < H.size; rw [h.1]; omega))
-- locals
def qLs (B : Nat) (ls : Array Slot) (lo : List (Option qV)) : Prop := ls.size = lo.length ∧ lv_wf ls ∧ ∀ (i : Nat) (v : qV), lo[i]? = some (some v) → ls[i]? = some (.val (qv B v))
def qlv (B : Nat) : Nat → List (Option qV) → List (Nat × Value)
  | _, [] => []
  | i, none :: t => qlv B (i + 1) t
  | i, some v :: t => (i, qv B v) :: qlv B (i + 1) t
theorem q_lvm (B : Nat) (lo : List (Option qV)) : ∀ (j i : Nat) (v : qV), lo[i]? = some (some v) → (j + i, qv B v) ∈ qlv B j lo := by
  induction lo with
  | nil => intro j i v h; cases h
  | cons a t ih =>
    intro j i v h
    cases i with
    | zero =>
      have e : a = some v := by simpa using h
      subst e
      exact List.mem_cons_self
    | succ i =>
      have h2 := ih (j + 1) i v (by simpa using h)
      rw [show j + 1 + i = j + (i + 1) by omega] at h2
      cases a with
      | none => exact h2
      | some u => exact List.mem_cons_of_mem _ h2
theorem q_lvo (B : Nat) (lo : List (Option qV)) : ∀ (j : Nat) (q : Nat × Value), q ∈ qlv B j lo → ∃ (i : Nat) (v : qV), lo[i]? = some (some v) ∧ q = (j + i, qv B v) := by
  induction lo with
  | nil => intro j q h; cases h
  | cons a t ih =>
    intro j q h
    cases a with
    | none =>
      obtain ⟨i, v, h1, h2⟩ := ih (j + 1) q h
      exact ⟨i + 1, v, by simpa using h1, by rw [h2, show j + 1 + i = j + (i + 1) by omega]⟩
    | some u =>
      rcases List.mem_cons.mp h with h | h
      · exact ⟨0, u, rfl, h⟩
      · obtain ⟨i, v, h1, h2⟩ := ih (j + 1) q h
        exact ⟨i + 1, v, by simpa using h1, by rw [h2, show j + 1 + i = j + (i + 1) by omega]⟩
theorem qLs.has {B : Nat} {ls : Array Slot} {lo : List (Option qV)} (h : qLs B ls lo) : lv_has ls lo.length (qlv B 0 lo) := by
  refine ⟨h.1, h.2.1, fun q hq => ?_⟩
  obtain ⟨i, v, h1, h2⟩ := q_lvo B lo 0 q hq
  subst h2
  have h3 := h.2.2 i v h1
  simpa using h3
theorem qLs.of {B : Nat} {ls : Array Slot} {lo : List (Option qV)} {l : List (Nat × Value)} (h : lv_has ls lo.length l) (hl : ∀ (i : Nat) (v : qV), lo[i]? = some (some v) → (i, qv B v) ∈ l) : qLs B ls lo :=
  ⟨h.1, h.2.1, fun i v hi => h.2.2 _ (hl i v hi)⟩
/-- is it a long? -/
def qlg : Option qV → Bool
  | some (.inr (.inl _)) => true
  | _ => false
/-- a value of one slot at place i -/
def qs1 (v : qV) : List (Option qV) → Nat → List (Option qV)
  | [], _ => []
  | _ :: t, 0 => some v :: t
  | a :: t, 1 => (if qlg a = true then none else a) :: qs1 v t 0
  | a :: t, i + 2 => a :: qs1 v t (i + 1)
/-- a value of two slots at place i -/
def qs2 (v : qV) : List (Option qV) → Nat → List (Option qV)
  | [], _ => []
  | _ :: [], 0 => [some v]
  | _ :: _ :: t, 0 => some v :: none :: t
  | a :: t, 1 => (if qlg a = true then none else a) :: qs2 v t 0
  | a :: t, i + 2 => a :: qs2 v t (i + 1)
theorem q_s1l (v : qV) : ∀ (lo : List (Option qV)) (i : Nat), (qs1 v lo i).length = lo.length
  | [], _ => rfl
  | _ :: _, 0 => rfl
  | a :: t, 1 => by simp [qs1, q_s1l v t 0]
  | a :: t, i + 2 => by simp [qs1, q_s1l v t (i + 1)]
theorem q_s2l (v : qV) : ∀ (lo : List (Option qV)) (i : Nat), (qs2 v lo i).length = lo.length
  | [], _ => rfl
  | _ :: [], 0 => rfl
  | _ :: _ :: _, 0 => rfl
  | a :: t, 1 => by simp [qs2, q_s2l v t 0]
  | a :: t, i + 2 => by simp [qs2, q_s2l v t (i + 1)]
theorem q_s1 (v : qV) : ∀ (lo : List (Option qV)) (i j : Nat) (u : qV), (qs1 v lo i)[j]? = some (some u) → (j = i ∧ u = v) ∨ (j ≠ i ∧ lo[j]? = some (some u) ∧ ¬ (j + 1 = i ∧ qcat u = 2))
  | [], i, j, u, h => by cases h
  | a :: t, 0, j, u, h => by
    cases j with
    | zero => left; refine ⟨rfl, ?_⟩; have : v = u := by simpa [qs1] using h
              exact this.symm
    | succ j => right; exact ⟨by omega, by simpa [qs1] using h, fun q => by omega⟩
  | a :: t, 1, j, u, h => by
    cases j with
    | zero =>
      right
      refine ⟨by omega, ?_, ?_⟩
      · by_cases ha : qlg a = true
        · simp [qs1, ha] at h
        · simpa [qs1, ha] using h
      · intro q
        by_cases ha : qlg a = true
        · simp [qs1, ha] at h
        · have e : a = some u := by simpa [qs1, ha] using h
          subst e
          rcases u with z | z | (_ | k) | b <;> simp [qcat, qlg] at q ha
    | succ j =>
      rcases q_s1 v t 0 j u (by simpa [qs1] using h) with ⟨h1, h2⟩ | ⟨h1, h2, h3⟩
      · left; exact ⟨by omega, h2⟩
      · right; exact ⟨by omega, by simpa using h2, fun q => by omega⟩
  | a :: t, i + 2, j, u, h => by
    cases j with
    | zero => right; exact ⟨by omega, by simpa [qs1] using h, fun q => by omega⟩
    | succ j =>
      rcases q_s1 v t (i + 1) j u (by simpa [qs1] using h) with ⟨h1, h2⟩ | ⟨h1, h2, h3⟩
      · left; exact ⟨by omega, h2⟩
      · right; exact ⟨by omega, by simpa using h2, fun q => h3 ⟨by omega, q.2⟩⟩
theorem q_s2 (v : qV) : ∀ (lo : List (Option qV)) (i j : Nat) (u : qV), (qs2 v lo i)[j]? = some (some u) → (j = i ∧ u = v) ∨ (j ≠ i ∧ j ≠ i + 1 ∧ lo[j]? = some (some u) ∧ ¬ (j + 1 = i ∧ qcat u = 2)) ∨ lo.length ≤ i + 1
  | [], i, j, u, h => by cases h
  | a :: [], 0, j, u, h => by right; right; simp
  | a :: b :: t, 0, j, u, h => by
    match j with
    | 0 => left; refine ⟨rfl, ?_⟩; have : v = u := by simpa [qs2] using h
           exact this.symm
    | 1 => simp [qs2] at h
    | j + 2 => right; left; exact ⟨by omega, by omega, by simpa [qs2] using h, fun q => by omega⟩
  | a :: t, 1, j, u, h => by
    cases j with
    | zero =>
      right; left
      refine ⟨by omega, by omega, ?_, ?_⟩
      · by_cases ha : qlg a = true
        · simp [qs2, ha] at h
        · simpa [qs2, ha] using h
      · intro q
        by_cases ha : qlg a = true
        · simp [qs2, ha] at h
        · have e : a = some u := by simpa [qs2, ha] using h
          subst e
          rcases u with z | z | (_ | k) | b <;> simp [qcat, qlg] at q ha
    | succ j =>
      rcases q_s2 v t 0 j u (by simpa [qs2] using h) with ⟨h1, h2⟩ | ⟨h1, h2, h3, h4⟩ | h1
      · left; exact ⟨by omega, h2⟩
      · right; left; exact ⟨by omega, by omega, by simpa using h3, fun q => by omega⟩
      · right; right; simp; omega
  | a :: t, i + 2, j, u, h => by
    cases j with
    | zero => right; left; exact ⟨by omega, by omega, by simpa [qs2] using h, fun q => by omega⟩
    | succ j =>
      rcases q_s2 v t (i + 1) j u (by simpa [qs2] using h) with ⟨h1, h2⟩ | ⟨h1, h2, h3, h4⟩ | h1
      · left; exact ⟨by omega, h2⟩
      · right; left; exact ⟨by omega, by omega, by simpa using h3, fun q => h4 ⟨by omega, q.2⟩⟩
      · right; right; simp; omega
theorem qLs.s1 {B : Nat} {ls : Array Slot} {lo : List (Option qV)} {i : Nat} {v : qV} (h : lv_has ls lo.length ((i, qv B v) :: (qlv B 0 lo).filter (fun q => !(q.1 == i) && !(q.1 + 1 == i && q.2.category == 2)))) : qLs B ls (qs1 v lo i) := by
  refine qLs.of (by rw [q_s1l]; exact h) (fun j u hj => ?_)
  rcases q_s1 v lo i j u hj with ⟨rfl, rfl⟩ | ⟨h1, h2, h3⟩
  · exact List.mem_cons_self
  · refine List.mem_cons_of_mem _ (List.mem_filter.mpr ⟨by have := q_lvm B lo 0 j u h2; simpa using this, ?_⟩)
    have h5 : ¬ (j + 1 = i ∧ (qv B u).category = 2) := by rw [q_cat]; exact h3
    simp only [Bool.and_eq_true, Bool.not_eq_true', beq_eq_false_iff_ne, Bool.and_eq_false_iff]
    refine ⟨h1, ?_⟩
    by_cases e : j + 1 = i
    · right; simpa using fun q => h5 ⟨e, q⟩
    · left; simpa using e
theorem qLs.s2 {B : Nat} {ls : Array Slot} {lo : List (Option qV)} {i : Nat} {v : qV} (hi : i + 1 < lo.length) (h : lv_has ls lo.length ((i, qv B v) :: (qlv B 0 lo).filter (fun q => !(q.1 == i) && (!(q.1 == i + 1) && !(q.1 + 1 == i && q.2.category == 2))))) : qLs B ls (qs2 v lo i) := by
  refine qLs.of (by rw [q_s2l]; exact h) (fun j u hj => ?_)
  rcases q_s2 v lo i j u hj with ⟨rfl, rfl⟩ | ⟨h1, h2, h3, h4⟩ | h1
  · exact List.mem_cons_self
  · refine List.mem_cons_of_mem _ (List.mem_filter.mpr ⟨by have := q_lvm B lo 0 j u h3; simpa using this, ?_⟩)
    have h5 : ¬ (j + 1 = i ∧ (qv B u).category = 2) := by rw [q_cat]; exact h4
    simp only [Bool.and_eq_true, Bool.not_eq_true', beq_eq_false_iff_ne, Bool.and_eq_false_iff]
    refine ⟨h1, h2, ?_⟩
    by_cases e : j + 1 = i
    · right; simpa using fun q => h5 ⟨e, q⟩
    · left; simpa using e
  · omega
