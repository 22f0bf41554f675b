section QFG
variable {Y : qY} {w : qW} {pc : Nat} {st : List qV} {c : qC} {t : List (Option qV)} {x : Option qV}
theorem qG.fg (l : List (Option qV)) (h : qG Y w pc (l ++ none :: t) st c) : qG Y w pc (l ++ x :: t) st c := by
  refine qG.fewer h (by simp) (fun i v hi => ?_)
  by_cases h1 : i < l.length
  · rw [List.getElem?_append_left h1] at hi ⊢; exact hi
  · rw [List.getElem?_append_right (by omega)] at hi ⊢
    cases e : i - l.length with
    | zero => rw [e] at hi; cases hi
    | succ k => rw [e] at hi; exact hi
theorem g_fg0 (h : qG Y w pc (none :: t) st c) : qG Y w pc (x :: t) st c := qG.fg [] h
theorem g_fg1 {a0 : Option qV} (h : qG Y w pc (a0 :: none :: t) st c) : qG Y w pc (a0 :: x :: t) st c := qG.fg [a0] h
theorem g_fg2 {a0 a1 : Option qV} (h : qG Y w pc (a0 :: a1 :: none :: t) st c) : qG Y w pc (a0 :: a1 :: x :: t) st c := qG.fg [a0, a1] h
theorem g_fg3 {a0 a1 a2 : Option qV} (h : qG Y w pc (a0 :: a1 :: a2 :: none :: t) st c) : qG Y w pc (a0 :: a1 :: a2 :: x :: t) st c := qG.fg [a0, a1, a2] h
theorem g_fg4 {a0 a1 a2 a3 : Option qV} (h : qG Y w pc (a0 :: a1 :: a2 :: a3 :: none :: t) st c) : qG Y w pc (a0 :: a1 :: a2 :: a3 :: x :: t) st c := qG.fg [a0, a1, a2, a3] h
theorem g_fg5 {a0 a1 a2 a3 a4 : Option qV} (h : qG Y w pc (a0 :: a1 :: a2 :: a3 :: a4 :: none :: t) st c) : qG Y w pc (a0 :: a1 :: a2 :: a3 :: a4 :: x :: t) st c := qG.fg [a0, a1, a2, a3, a4] h
theorem g_fg6 {a0 a1 a2 a3 a4 a5 : Option qV} (h : qG Y w pc (a0 :: a1 :: a2 :: a3 :: a4 :: a5 :: none :: t) st c) : qG Y w pc (a0 :: a1 :: a2 :: a3 :: a4 :: a5 :: x :: t) st c := qG.fg [a0, a1, a2, a3, a4, a5] h
theorem g_fg7 {a0 a1 a2 a3 a4 a5 a6 : Option qV} (h : qG Y w pc (a0 :: a1 :: a2 :: a3 :: a4 :: a5 :: a6 :: none :: t) st c) : qG Y w pc (a0 :: a1 :: a2 :: a3 :: a4 :: a5 :: a6 :: x :: t) st c := qG.fg [a0, a1, a2, a3, a4, a5, a6] h
theorem g_fg8 {a0 a1 a2 a3 a4 a5 a6 a7 : Option qV} (h : qG Y w pc (a0 :: a1 :: a2 :: a3 :: a4 :: a5 :: a6 :: a7 :: none :: t) st c) : qG Y w pc (a0 :: a1 :: a2 :: a3 :: a4 :: a5 :: a6 :: a7 :: x :: t) st c := qG.fg [a0, a1, a2, a3, a4, a5, a6, a7] h
theorem g_fg9 {a0 a1 a2 a3 a4 a5 a6 a7 a8 : Option qV} (h : qG Y w pc (a0 :: a1 :: a2 :: a3 :: a4 :: a5 :: a6 :: a7 :: a8 :: none :: t) st c) : qG Y w pc (a0 :: a1 :: a2 :: a3 :: a4 :: a5 :: a6 :: a7 :: a8 :: x :: t) st c := qG.fg [a0, a1, a2, a3, a4, a5, a6, a7, a8] h
theorem g_fg10 {a0 a1 a2 a3 a4 a5 a6 a7 a8 a9 : Option qV} (h : qG Y w pc (a0 :: a1 :: a2 :: a3 :: a4 :: a5 :: a6 :: a7 :: a8 :: a9 :: none :: t) st c) : qG Y w pc (a0 :: a1 :: a2 :: a3 :: a4 :: a5 :: a6 :: a7 :: a8 :: a9 :: x :: t) st c := qG.fg [a0, a1, a2, a3, a4, a5, a6, a7, a8, a9] h
theorem g_fg11 {a0 a1 a2 a3 a4 a5 a6 a7 a8 a9 a10 : Option qV} (h : qG Y w pc (a0 :: a1 :: a2 :: a3 :: a4 :: a5 :: a6 :: a7 :: a8 :: a9 :: a10 :: none :: t) st c) : qG Y w pc (a0 :: a1 :: a2 :: a3 :: a4 :: a5 :: a6 :: a7 :: a8 :: a9 :: a10 :: x :: t) st c := qG.fg [a0, a1, a2, a3, a4, a5, a6, a7, a8, a9, a10] h
theorem g_fg12 {a0 a1 a2 a3 a4 a5 a6 a7 a8 a9 a10 a11 : Option qV} (h : qG Y w pc (a0 :: a1 :: a2 :: a3 :: a4 :: a5 :: a6 :: a7 :: a8 :: a9 :: a10 :: a11 :: none :: t) st c) : qG Y w pc (a0 :: a1 :: a2 :: a3 :: a4 :: a5 :: a6 :: a7 :: a8 :: a9 :: a10 :: a11 :: x :: t) st c := qG.fg [a0, a1, a2, a3, a4, a5, a6, a7, a8, a9, a10, a11] h
theorem g_fg13 {a0 a1 a2 a3 a4 a5 a6 a7 a8 a9 a10 a11 a12 : Option qV} (h : qG Y w pc (a0 :: a1 :: a2 :: a3 :: a4 :: a5 :: a6 :: a7 :: a8 :: a9 :: a10 :: a11 :: a12 :: none :: t) st c) : qG Y w pc (a0 :: a1 :: a2 :: a3 :: a4 :: a5 :: a6 :: a7 :: a8 :: a9 :: a10 :: a11 :: a12 :: x :: t) st c := qG.fg [a0, a1, a2, a3, a4, a5, a6, a7, a8, a9, a10, a11, a12] h
theorem g_fg14 {a0 a1 a2 a3 a4 a5 a6 a7 a8 a9 a10 a11 a12 a13 : Option qV} (h : qG Y w pc (a0 :: a1 :: a2 :: a3 :: a4 :: a5 :: a6 :: a7 :: a8 :: a9 :: a10 :: a11 :: a12 :: a13 :: none :: t) st c) : qG Y w pc (a0 :: a1 :: a2 :: a3 :: a4 :: a5 :: a6 :: a7 :: a8 :: a9 :: a10 :: a11 :: a12 :: a13 :: x :: t) st c := qG.fg [a0, a1, a2, a3, a4, a5, a6, a7, a8, a9, a10, a11, a12, a13] h
theorem g_fg15 {a0 a1 a2 a3 a4 a5 a6 a7 a8 a9 a10 a11 a12 a13 a14 : Option qV} (h : qG Y w pc (a0 :: a1 :: a2 :: a3 :: a4 :: a5 :: a6 :: a7 :: a8 :: a9 :: a10 :: a11 :: a12 :: a13 :: a14 :: none :: t) st c) : qG Y w pc (a0 :: a1 :: a2 :: a3 :: a4 :: a5 :: a6 :: a7 :: a8 :: a9 :: a10 :: a11 :: a12 :: a13 :: a14 :: x :: t) st c := qG.fg [a0, a1, a2, a3, a4, a5, a6, a7, a8, a9, a10, a11, a12, a13, a14] h
theorem g_fg16 {a0 a1 a2 a3 a4 a5 a6 a7 a8 a9 a10 a11 a12 a13 a14 a15 : Option qV} (h : qG Y w pc (a0 :: a1 :: a2 :: a3 :: a4 :: a5 :: a6 :: a7 :: a8 :: a9 :: a10 :: a11 :: a12 :: a13 :: a14 :: a15 :: none :: t) st c) : qG Y w pc (a0 :: a1 :: a2 :: a3 :: a4 :: a5 :: a6 :: a7 :: a8 :: a9 :: a10 :: a11 :: a12 :: a13 :: a14 :: a15 :: x :: t) st c := qG.fg [a0, a1, a2, a3, a4, a5, a6, a7, a8, a9, a10, a11, a12, a13, a14, a15] h
theorem g_fg17 {a0 a1 a2 a3 a4 a5 a6 a7 a8 a9 a10 a11 a12 a13 a14 a15 a16 : Option qV} (h : qG Y w pc (a0 :: a1 :: a2 :: a3 :: a4 :: a5 :: a6 :: a7 :: a8 :: a9 :: a10 :: a11 :: a12 :: a13 :: a14 :: a15 :: a16 :: none :: t) st c) : qG Y w pc (a0 :: a1 :: a2 :: a3 :: a4 :: a5 :: a6 :: a7 :: a8 :: a9 :: a10 :: a11 :: a12 :: a13 :: a14 :: a15 :: a16 :: x :: t) st c := qG.fg [a0, a1, a2, a3, a4, a5, a6, a7, a8, a9, a10, a11, a12, a13, a14, a15, a16] h
theorem g_fg18 {a0 a1 a2 a3 a4 a5 a6 a7 a8 a9 a10 a11 a12 a13 a14 a15 a16 a17 : Option qV} (h : qG Y w pc (a0 :: a1 :: a2 :: a3 :: a4 :: a5 :: a6 :: a7 :: a8 :: a9 :: a10 :: a11 :: a12 :: a13 :: a14 :: a15 :: a16 :: a17 :: none :: t) st c) : qG Y w pc (a0 :: a1 :: a2 :: a3 :: a4 :: a5 :: a6 :: a7 :: a8 :: a9 :: a10 :: a11 :: a12 :: a13 :: a14 :: a15 :: a16 :: a17 :: x :: t) st c := qG.fg [a0, a1, a2, a3, a4, a5, a6, a7, a8, a9, a10, a11, a12, a13, a14, a15, a16, a17] h
theorem g_fg19 {a0 a1 a2 a3 a4 a5 a6 a7 a8 a9 a10 a11 a12 a13 a14 a15 a16 a17 a18 : Option qV} (h : qG Y w pc (a0 :: a1 :: a2 :: a3 :: a4 :: a5 :: a6 :: a7 :: a8 :: a9 :: a10 :: a11 :: a12 :: a13 :: a14 :: a15 :: a16 :: a17 :: a18 :: none :: t) st c) : qG Y w pc (a0 :: a1 :: a2 :: a3 :: a4 :: a5 :: a6 :: a7 :: a8 :: a9 :: a10 :: a11 :: a12 :: a13 :: a14 :: a15 :: a16 :: a17 :: a18 :: x :: t) st c := qG.fg [a0, a1, a2, a3, a4, a5, a6, a7, a8, a9, a10, a11, a12, a13, a14, a15, a16, a17, a18] h
theorem g_fg20 {a0 a1 a2 a3 a4 a5 a6 a7 a8 a9 a10 a11 a12 a13 a14 a15 a16 a17 a18 a19 : Option qV} (h : qG Y w pc (a0 :: a1 :: a2 :: a3 :: a4 :: a5 :: a6 :: a7 :: a8 :: a9 :: a10 :: a11 :: a12 :: a13 :: a14 :: a15 :: a16 :: a17 :: a18 :: a19 :: none :: t) st c) : qG Y w pc (a0 :: a1 :: a2 :: a3 :: a4 :: a5 :: a6 :: a7 :: a8 :: a9 :: a10 :: a11 :: a12 :: a13 :: a14 :: a15 :: a16 :: a17 :: a18 :: a19 :: x :: t) st c := qG.fg [a0, a1, a2, a3, a4, a5, a6, a7, a8, a9, a10, a11, a12, a13, a14, a15, a16, a17, a18, a19] h
theorem g_fg21 {a0 a1 a2 a3 a4 a5 a6 a7 a8 a9 a10 a11 a12 a13 a14 a15 a16 a17 a18 a19 a20 : Option qV} (h : qG Y w pc (a0 :: a1 :: a2 :: a3 :: a4 :: a5 :: a6 :: a7 :: a8 :: a9 :: a10 :: a11 :: a12 :: a13 :: a14 :: a15 :: a16 :: a17 :: a18 :: a19 :: a20 :: none :: t) st c) : qG Y w pc (a0 :: a1 :: a2 :: a3 :: a4 :: a5 :: a6 :: a7 :: a8 :: a9 :: a10 :: a11 :: a12 :: a13 :: a14 :: a15 :: a16 :: a17 :: a18 :: a19 :: a20 :: x :: t) st c := qG.fg [a0, a1, a2, a3, a4, a5, a6, a7, a8, a9, a10, a11, a12, a13, a14, a15, a16, a17, a18, a19, a20] h
end QFG
theorem g_i2lx {Y : qY} {w : qW} {pc : Nat} {lo : List (Option qV)} {st : List qV} {c : qC} {x : Int} (hd : decode Y.1.2.1 pc = .ok (.i2l, 1)) (h : qG Y w (pc + 1) lo (qJ x :: st) c) (hx : iR x := by omega) : qG Y w pc lo (qI x :: st) c := g_i2l hd hx h
-- sums over the first n whole numbers
def sm (f : Int → Int) : Nat → Int
  | 0 => 0
  | n + 1 => sm f n + f (n : Int)
def sI (f : Int → Int) (n : Int) : Int := sm f n.toNat
theorem sI_0 (f : Int → Int) : sI f 0 = 0 := rfl
theorem sI_s {f : Int → Int} {r : Int} (h : 0 ≤ r) : sI f (r + 1) = sI f r + f r := by
  unfold sI
  rw [show (r + 1).toNat = r.toNat + 1 by omega, sm, show ((r.toNat : Nat) : Int) = r by omega]
theorem sm_congr {f g : Int → Int} : ∀ n : Nat, (∀ r : Int, 0 ≤ r → r < n → f r = g r) → sm f n = sm g n
  | 0, _ => rfl
  | n + 1, h => by rw [sm, sm, sm_congr n (fun r h0 h1 => h r h0 (by omega)), h n (by omega) (by omega)]
theorem sI_congr {f g : Int → Int} {n : Int} (h : ∀ r : Int, 0 ≤ r → r < n → f r = g r) : sI f n = sI g n := sm_congr _ (fun r h0 h1 => h r h0 (by omega))
theorem sm_bd {f : Int → Int} {lo hi : Int} : ∀ n : Nat, (∀ r : Int, 0 ≤ r → r < n → lo ≤ f r ∧ f r ≤ hi) → lo * n ≤ sm f n ∧ sm f n ≤ hi * n
  | 0, _ => by simp [sm]
  | n + 1, h => by
    have h1 := sm_bd n (fun r h0 h1 => h r h0 (by omega))
    have h2 := h n (by omega) (by omega)
    rw [sm, Int.natCast_add, Int.mul_add, Int.mul_add]
    simp only [Int.natCast_one, Int.mul_one]
    omega
theorem sI_bd {f : Int → Int} {lo hi n : Int} (hn : 0 ≤ n) (h : ∀ r : Int, 0 ≤ r → r < n → lo ≤ f r ∧ f r ≤ hi) : lo * n ≤ sI f n ∧ sI f n ≤ hi * n := by
  have := sm_bd (f := f) (lo := lo) (hi := hi) n.toNat (fun r h0 h1 => h r h0 (by omega))
  rw [show ((n.toNat : Nat) : Int) = n by omega] at this
  exact this
-- the greatest of the first n, 0 at least
def gm (f : Int → Int) : Nat → Int
  | 0 => 0
  | n + 1 => mx (gm f n) (f (n : Int))
def gI (f : Int → Int) (n : Int) : Int := gm f n.toNat
theorem gI_0 (f : Int → Int) : gI f 0 = 0 := rfl
theorem gI_s {f : Int → Int} {r : Int} (h : 0 ≤ r) : gI f (r + 1) = mx (gI f r) (f r) := by
  unfold gI
  rw [show (r + 1).toNat = r.toNat + 1 by omega, gm, show ((r.toNat : Nat) : Int) = r by omega]
theorem gm_congr {f g : Int → Int} : ∀ n : Nat, (∀ r : Int, 0 ≤ r → r < n → f r = g r) → gm f n = gm g n
  | 0, _ => rfl
  | n + 1, h => by rw [gm, gm, gm_congr n (fun r h0 h1 => h r h0 (by omega)), h n (by omega) (by omega)]
theorem gI_congr {f g : Int → Int} {n : Int} (h : ∀ r : Int, 0 ≤ r → r < n → f r = g r) : gI f n = gI g n := gm_congr _ (fun r h0 h1 => h r h0 (by omega))
theorem gm_bd {f : Int → Int} {hi : Int} (hh : 0 ≤ hi) : ∀ n : Nat, (∀ r : Int, 0 ≤ r → r < n → f r ≤ hi) → 0 ≤ gm f n ∧ gm f n ≤ hi
  | 0, _ => ⟨by simp [gm], by simp [gm]; exact hh⟩
  | n + 1, h => by
    have h1 := gm_bd hh n (fun r h0 h1 => h r h0 (by omega))
    have h2 := h n (by omega) (by omega)
    rw [gm]; unfold mx
    split <;> omega
theorem gI_bd {f : Int → Int} {hi n : Int} (hh : 0 ≤ hi) (h : ∀ r : Int, 0 ≤ r → r < n → f r ≤ hi) : 0 ≤ gI f n ∧ gI f n ≤ hi := gm_bd hh _ (fun r h0 h1 => h r h0 (by omega))
theorem ab_0 (x : Int) : 0 ≤ ab x := by unfold ab; split <;> omega
theorem ab_le {x m : Int} (h1 : -m ≤ x) (h2 : x ≤ m) : ab x ≤ m := by unfold ab; split <;> omega
theorem ab_sub (x y : Int) : ab (x - y) = ab (y - x) := by unfold ab; split <;> split <;> omega
theorem mul_le2 {a b A B : Int} (h0 : 0 ≤ a) (h1 : a ≤ A) (g0 : 0 ≤ b) (g1 : b ≤ B) : 0 ≤ a * b ∧ a * b ≤ A * B := ⟨Int.mul_nonneg h0 g0, Int.le_trans (Int.mul_le_mul_of_nonneg_right h1 g0) (Int.mul_le_mul_of_nonneg_left g1 (by omega))⟩
/-- DISTANCES of two ROWS by KINDS (the document's): N i j the number of ROW i in COLUMN j -/
def ds (wd : Int) (N : Int → Int → Int) (kd i j : Int) : Int := if kd = 0 then sI (fun x => ab (N i x - N j x) * ab (N i x - N j x)) wd else if kd = 1 then sI (fun x => ab (N i x - N j x)) wd else gI (fun x => ab (N i x - N j x)) wd
theorem ds_comm (wd : Int) (N : Int → Int → Int) (kd i j : Int) : ds wd N kd i j = ds wd N kd j i := by
  unfold ds
  split
  · exact sI_congr (fun r _ _ => by rw [ab_sub])
  · split
    · exact sI_congr (fun r _ _ => by rw [ab_sub])
    · exact gI_congr (fun r _ _ => by rw [ab_sub])
/-- the numbers of a ROW are in their bounds -/
def Nb (wd : Int) (N : Int → Int → Int) (i : Int) : Prop := ∀ x, 0 ≤ x → x < wd → -1000 ≤ N i x ∧ N i x ≤ 1000
theorem ds_bd {wd : Int} {N : Int → Int → Int} {kd i j : Int} (h0 : 0 ≤ wd) (h4 : wd ≤ 4) (hi : Nb wd N i) (hj : Nb wd N j) : 0 ≤ ds wd N kd i j ∧ ds wd N kd i j ≤ 16000000 := by
  have hb : ∀ x, 0 ≤ x → x < wd → 0 ≤ ab (N i x - N j x) ∧ ab (N i x - N j x) ≤ 2000 := fun x q0 q1 => ⟨ab_0 _, ab_le (by have := hi x q0 q1; have := hj x q0 q1; omega) (by have := hi x q0 q1; have := hj x q0 q1; omega)⟩
  unfold ds
  split
  · have := sI_bd (f := fun x => ab (N i x - N j x) * ab (N i x - N j x)) (lo := 0) (hi := 2000 * 2000) h0 (fun x q0 q1 => mul_le2 (hb x q0 q1).1 (hb x q0 q1).2 (hb x q0 q1).1 (hb x q0 q1).2)
    omega
  · split
    · have := sI_bd (lo := 0) (hi := 2000) h0 hb
      omega
    · have := gI_bd (f := fun x => ab (N i x - N j x)) (hi := 2000) (n := wd) (by omega) (fun x q0 q1 => (hb x q0 q1).2)
      omega
