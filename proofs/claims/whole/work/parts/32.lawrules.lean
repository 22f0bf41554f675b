theorem lw_retR {R : Room} {p : Program} {l : Launch} {e : Env} {s : State} {m : MethodId} {below : List Frame} {meth : Method} {c : Code} {b : Nat} (hx : p.tables.exec = Jvm.exec) (hb : c.code = code) (hr : meth.sig.returnType = ret) (hlocks : meth.locks = false) {pc : Nat} {H : Heap} {ls : Array Slot} (hdg : decode code pc = .ok (.ireturn, 1)) : W p l e R s m #[Value.ref b] below meth c H [] 600000 7302250 (lw_Z below #[Value.ref b] s) (F0 m pc ls [.int 1]) := by
  intro T hT X
  obtain ⟨fs, hret, hrun, hended, hW, hframe⟩ := X.leave (v := some (.int 1)) (hlocks := hlocks) (fun h => by rw [hr] at h; cases h)
  have hmeth' : T.vm.method? m = some meth := X.method'
  refine ⟨T.setFrames fs, ?_, .returned (some (.int 1)), hrun, hended, rfl, ⟨_, rfl⟩, hW, hframe⟩
  jvm_step X.here [X.here.top, hx, hb, hdg, hmeth', hr, ret, narrow_b1]
  (try refine ⟨rfl, ?_⟩); (try refine ⟨rfl, ?_⟩)
  first | (intro acts; rw [hret _ acts rfl rfl rfl]) | rw [hret _ _ rfl rfl rfl]
  exact Steps.refl _
def qEL (b L : Nat) (xs : Nat → Int32) : State → Array Value → Nat → Prop := fun s args B => args = #[Value.ref b] ∧ va_X b L xs s s.heap ∧ b < s.heap.size ∧ B = s.heap.size
def qZL : qZt := fun _ _ _ s args below => lw_Z below args s
abbrev XL (nm : String) : qM := (⟨RL, nm, ""⟩, cL_law, 4, ret)
abbrev YL (nm : String) (b L : Nat) (xs : Nat → Int32) : qY := (XL nm, (8, 62, 8826), qEL b L xs, qZL)
abbrev wL : qW := (LAY, NN, 62, 8826)
def sx (xs : Nat → Int32) (i : Int) : Int := (xs i.toNat).toInt
theorem sx_r (xs : Nat → Int32) (i : Int) : iR (sx xs i) := q_ofi _
section QLAW
variable {nm : String} {b L : Nat} {xs : Nat → Int32} {Y : qY} {w : qW} {pc : Nat} {lo : List (Option qV)} {st : List qV} {c : qC}
theorem g_slen (hd : decode cL_law pc = .ok (.arraylength, 1)) (h : qG (YL nm b L xs) w (pc + 1) lo (qI (L : Int) :: st) c) : qG (YL nm b L xs) w pc lo (qO b :: st) c := by
  intro p l e R s m args below meth cd D cs B H locs ls C hE hH hS hl hn
  have hE' := hE
  obtain ⟨e1, hX, hb, hB⟩ := hE
  refine va_slen (A := fun q : Nat => B ≤ q) C.1 C.2.1 hX hb (by show ¬ B ≤ b; omega) hS hd ?_
  rw [show Int32.ofNat L = Int32.ofInt (L : Int) from (Int32.ofInt_eq_ofNat).symm]
  exact h p l e R s m args below meth cd D cs B H locs ls C hE' hH hS hl hn
theorem g_sld {i : Int} (hd : decode cL_law pc = .ok (.iaload, 1)) (h : qG (YL nm b L xs) w (pc + 1) lo (qI (sx xs i) :: st) c) (hL : L ≤ 2560) (i0 : 0 ≤ i) (i1 : i < (L : Int)) : qG (YL nm b L xs) w pc lo (qI i :: qO b :: st) c := by
  intro p l e R s m args below meth cd D cs B H locs ls C hE hH hS hl hn
  have hE' := hE
  obtain ⟨e1, hX, hb, hB⟩ := hE
  refine va_sld (A := fun q : Nat => B ≤ q) C.1 C.2.1 hX hb (by show ¬ B ≤ b; omega) hS (q_in i0 i1 (by omega)) hd ?_
  rw [q_cl i0 (by omega), show xs i.toNat = Int32.ofInt (sx xs i) from (Int32.ofInt_toInt _).symm]
  exact h p l e R s m args below meth cd D cs B H locs ls C hE' hH hS hl hn
theorem g_iandX {x y : Int} (hd : decode Y.1.2.1 pc = .ok (.iand, 1)) (h : ∀ v : Int, iR v → qG Y w (pc + 1) lo (qI v :: st) c) : qG Y w pc lo (qI y :: qI x :: st) c := by
  intro p l e R s m args below meth cd D cs B H locs ls C hE hH hS hl hn
  refine lv_iand (x := Int32.ofInt x) (y := Int32.ofInt y) C.1 C.2.1 hd ?_
  rw [← Int32.ofInt_toInt (Int32.ofInt x &&& Int32.ofInt y)]
  exact h _ (q_ofi _) p l e R s m args below meth cd D cs B H locs ls C hE hH hS hl hn
theorem g_same {x : Int} {off : Int} (tgt : Nat) (hd : decode Y.1.2.1 pc = .ok (.if_icmp .eq off, 3)) (ht : (pc : Int) + off = (tgt : Int)) (h : qG Y w tgt lo st c) : qG Y w pc lo (qI x :: qI x :: st) c := by
  intro p l e R s m args below meth cd D cs B H locs ls C hE hH hS hl hn
  exact lv_icmp_eq (x := Int32.ofInt x) (y := Int32.ofInt x) (tgt := tgt) C.1 C.2.1 hd ht (fun _ => h p l e R s m args below meth cd D cs B H locs ls C hE hH hS hl hn) (fun q => absurd rfl q)
theorem g_sameJ {x : Int} {off : Int} (tgt : Nat) (hd : decode Y.1.2.1 pc = .ok (.lcmp, 1)) (hd2 : decode Y.1.2.1 (pc + 1) = .ok (.ifCond .eq off, 3)) (ht : ((pc + 1 : Nat) : Int) + off = (tgt : Int)) (h : qG Y w tgt lo st c) : qG Y w pc lo (qJ x :: qJ x :: st) c := by
  intro p l e R s m args below meth cd D cs B H locs ls C hE hH hS hl hn
  refine W.lcmp (x := Int64.ofInt x) (y := Int64.ofInt x) C.1 C.2.1 hd ?_
  exact lv_if_eq (tgt := tgt) C.1 C.2.1 hd2 ht (fun _ => h p l e R s m args below meth cd D cs B H locs ls C hE hH hS hl hn) (fun q => absurd (by simp [lg_cmp]) q)
theorem g_lawret {La : Nat → qL} {n k z : Nat} (hd : decode cL_law pc = .ok (.ireturn, 1)) (hk : k ≤ 600000) (hz : z ≤ 7302250) : qG (YL nm b L xs) (La, n, k, z) pc lo [qI 1] c := by
  intro p l e R s m args below meth cd D cs B H locs ls C hE hH hS hl hn
  obtain ⟨rfl, hX, hb, hB⟩ := hE
  refine W.widen (k := 600000) (n := 7302250) hk hz ?_
  refine va_forget (fun q hq => by have h1 : B ≤ q.base := hS.2.2 q hq; omega) ?_
  exact lw_retR C.1 C.2.1 C.2.2.1 C.2.2.2.2.2.2.2.2.1 hd
variable {X' : qM} {d' k z : Nat} {As rest st0 : List qV} {a ci idx np : Nat} {fs : List qF}
theorem l_callVi {P : Int → qC → Prop} (hM : qN X' d' (qP a :: As) c (pI P)) (hd : decode Y.1.2.1 pc = .ok (.invokevirtual idx, 3)) (hk : qLk Y.1.1.cls idx np X') (hi : qIm X') (hL : LAY a = .inr (.inr (ci, fs))) (ha : a < NN) (hci : (qcl[ci]?).map (fun q => q.1) = some X'.1.cls) (hn : As.length = np) (hst : st0 = As.reverse ++ qP a :: rest) (hcs : Nat.ble (qcs rest) 8 = true) (hr : Nat.ble (d' + 1) Y.2.1.1 = true) (h1 : Nat.ble k Y.2.1.2.1 = true) (h2 : Nat.ble z Y.2.1.2.2 = true) (kk : ∀ (v : Int) (c' : qC), P v c' → qG Y (LAY, NN, k, z) (pc + 3) lo (qI v :: rest) c') : qG Y (LAY, NN, k, z) pc lo st0 c := by
  refine g_callV (w := (LAY, NN, k, z)) hM hd hk hi hL ha hci hn hst hcs (Nat.le_of_ble_eq_true hr) (Nat.le_of_ble_eq_true h1) (Nat.le_of_ble_eq_true h2) ?_
  rintro v L n c' ⟨rfl, rfl, u, rfl, hp⟩
  exact kk u c' hp
theorem l_callVj {P : Int → qC → Prop} (hM : qN X' d' (qP a :: As) c (pJ P)) (hd : decode Y.1.2.1 pc = .ok (.invokevirtual idx, 3)) (hk : qLk Y.1.1.cls idx np X') (hi : qIm X') (hL : LAY a = .inr (.inr (ci, fs))) (ha : a < NN) (hci : (qcl[ci]?).map (fun q => q.1) = some X'.1.cls) (hn : As.length = np) (hst : st0 = As.reverse ++ qP a :: rest) (hcs : Nat.ble (qcs rest) 8 = true) (hr : Nat.ble (d' + 1) Y.2.1.1 = true) (h1 : Nat.ble k Y.2.1.2.1 = true) (h2 : Nat.ble z Y.2.1.2.2 = true) (kk : ∀ (v : Int) (c' : qC), P v c' → qG Y (LAY, NN, k, z) (pc + 3) lo (qJ v :: rest) c') : qG Y (LAY, NN, k, z) pc lo st0 c := by
  refine g_callV (w := (LAY, NN, k, z)) hM hd hk hi hL ha hci hn hst hcs (Nat.le_of_ble_eq_true hr) (Nat.le_of_ble_eq_true h1) (Nat.le_of_ble_eq_true h2) ?_
  rintro v L n c' ⟨rfl, rfl, u, rfl, hp⟩
  exact kk u c' hp
end QLAW
/-- what holds between two steps of the script: both hold the same rows, groupings, best rows, joins -/
def Iv (c : qC) : Prop := ∃ (n wd : Int) (N : Int → Int → Int) (S : Sl) (mm : Int) (md : Int → Int) (T : Tr), CS c n wd N S mm md T ∧ TS c n wd N S mm md T ∧ TrOK n T
abbrev lo4 (b : Nat) (i : Int) : List (Option qV) := [some (qO b), some (qP 0), some (qP 39), some (qI i)]
