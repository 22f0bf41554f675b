theorem qa_I : Cond.arrayClass .int ∈ qALL := q_mem 48 (by decide +kernel) (by decide +kernel)
theorem qa_J : Cond.arrayClass .long ∈ qALL := q_mem 168 (by decide +kernel) (by decide +kernel)
theorem qa_Z : Cond.arrayClass .boolean ∈ qALL := q_mem 146 (by decide +kernel) (by decide +kernel)
theorem qa_O : Cond.arrayOver (.object qgr) ∈ qNZ := q_memN 50 (by decide +kernel) (by decide +kernel)
theorem quL_at (L : Nat → qL) (k : Nat) (e : qL) : quL L k e k = e := if_pos rfl
theorem quL_ne {L : Nat → qL} {k a : Nat} {e : qL} (h : a ≠ k) : quL L k e a = L a := if_neg h
theorem quL_id {L : Nat → qL} {k : Nat} {e : qL} (h : L k = e) : quL L k e = L := by
  funext a
  by_cases h1 : a = k
  · subst h1; rw [quL_at, h]
  · rw [quL_ne h1]
section QB
variable {Y : qY} {pc : Nat} {lo : List (Option qV)} {st : List qV} {c : qC} {L : Nat → qL} {n n' k k' z z' : Nat}
theorem q_sp {B : Nat} {H0 H H1 : Heap} {locs : List Loc} {h : Nat} (hS : va_S (fun q : Nat => B ≤ q) H0 H locs) (hh : H.size = h) (z1 : H1.size = h + 1) (o1 : ∀ q, q < h → H1[q]? = H[q]?) : va_S (fun q : Nat => B ≤ q) H0 H1 locs := by
  subst hh
  exact ⟨Nat.le_trans hS.1 (by omega), fun x h1 h2 => (o1 x (Nat.lt_of_lt_of_le h1 hS.1)).trans (hS.2.1 x h1 h2), hS.2.2⟩
theorem g_newI {i : Int} {N : Nat} (hd : decode Y.1.2.1 pc = .ok (.newarray .int, 2)) (hL : L n = .inl (0, N)) (hi : i = (N : Int)) (hN : Nat.ble N 3000 = true) (hc : ∀ j, c n j = 0) (hn' : n' = n + 1) (hk : k' = k + 1) (hz : z' = z + N) (hkr : Nat.ble k' Y.2.1.2.1 = true) (hzr : Nat.ble z' Y.2.1.2.2 = true) (h : qG Y (L, n', k', z') (pc + 2) lo (qP n :: st) c) : qG Y (L, n, k, z) pc lo (qI i :: st) c := by
  subst hi; subst hk; subst hz; subst hn'
  have hN := Nat.le_of_ble_eq_true hN
  have hkr := Nat.le_of_ble_eq_true hkr
  have hzr := Nat.le_of_ble_eq_true hzr
  intro p l e R s m args below meth cd D cs B H locs ls C hE hH hS hl hn
  have C' := C
  obtain ⟨hx, hb, -, -, hown, hts, -, hK, -, -, hB, -, -, hce, hso⟩ := C
  have hsz : H.size = B + n := hH.1
  refine va_newaK (atype := .int) (N := N) hx hb (hts _ qa_I) rfl hd rfl ?_ (by rw [q_cl (by omega) (by omega)]; exact Int.toNat_natCast N) (Nat.le_trans (Nat.mul_le_mul_left N (show componentBytes _ ≤ 8 by decide)) (by omega)) (Nat.le_trans hkr hce) (Nat.le_trans hzr hso) hsz fun H1 cA e1 z1 o1 hAr hNm => ?_
  · rw [q_i0, q_ilt (by omega) (by omega)]; omega
  · have hcA : cA = cs.1 := Option.some.inj (hNm.symm.trans (hK.2 0 _ rfl).2)
    subst hcA
    refine h p l e R s m args below meth cd D cs B H1 locs ls C' hE (hH.push (by rw [z1, hsz]) (fun q hq => o1 q (by rw [← hsz]; exact hq)) ?_ (fun _ _ => ⟨rfl, rfl⟩)) (q_sp hS hsz z1 o1) hl hn
    show va_at D qcl (B + n, qE B cs (c n) (L n)) H1
    rw [hL]
    show H1[B + n]? = some (vp_cell cs.1 (N, .inl fun j => Int32.ofInt (c n j)))
    rw [vp_cell_i, e1]
    congr 2
    funext j
    rw [hc]
    rfl
theorem g_newJ {i : Int} {N : Nat} (hd : decode Y.1.2.1 pc = .ok (.newarray .long, 2)) (hL : L n = .inl (1, N)) (hi : i = (N : Int)) (hN : Nat.ble N 3000 = true) (hc : ∀ j, c n j = 0) (hn' : n' = n + 1) (hk : k' = k + 1) (hz : z' = z + N) (hkr : Nat.ble k' Y.2.1.2.1 = true) (hzr : Nat.ble z' Y.2.1.2.2 = true) (h : qG Y (L, n', k', z') (pc + 2) lo (qP n :: st) c) : qG Y (L, n, k, z) pc lo (qI i :: st) c := by
  subst hi; subst hk; subst hz; subst hn'
  have hN := Nat.le_of_ble_eq_true hN
  have hkr := Nat.le_of_ble_eq_true hkr
  have hzr := Nat.le_of_ble_eq_true hzr
  intro p l e R s m args below meth cd D cs B H locs ls C hE hH hS hl hn
  have C' := C
  obtain ⟨hx, hb, -, -, hown, hts, -, hK, -, -, hB, -, -, hce, hso⟩ := C
  have hsz : H.size = B + n := hH.1
  refine va_newaK (atype := .long) (N := N) hx hb (hts _ qa_J) rfl hd rfl ?_ (by rw [q_cl (by omega) (by omega)]; exact Int.toNat_natCast N) (Nat.le_trans (Nat.mul_le_mul_left N (show componentBytes _ ≤ 8 by decide)) (by omega)) (Nat.le_trans hkr hce) (Nat.le_trans hzr hso) hsz fun H1 cA e1 z1 o1 hAr hNm => ?_
  · rw [q_i0, q_ilt (by omega) (by omega)]; omega
  · have hcA : cA = cs.2.1 := Option.some.inj (hNm.symm.trans (hK.2 1 _ rfl).2)
    subst hcA
    refine h p l e R s m args below meth cd D cs B H1 locs ls C' hE (hH.push (by rw [z1, hsz]) (fun q hq => o1 q (by rw [← hsz]; exact hq)) ?_ (fun _ _ => ⟨rfl, rfl⟩)) (q_sp hS hsz z1 o1) hl hn
    show va_at D qcl (B + n, qE B cs (c n) (L n)) H1
    rw [hL]
    show H1[B + n]? = some (vp_cell cs.2.1 (N, .inr (.inl fun j => Int64.ofInt (c n j))))
    rw [vp_cell_l, e1]
    congr 2
    funext j
    rw [hc]
    rfl
theorem g_newZ {i : Int} {N : Nat} (hd : decode Y.1.2.1 pc = .ok (.newarray .boolean, 2)) (hL : L n = .inl (2, N)) (hi : i = (N : Int)) (hN : Nat.ble N 3000 = true) (hc : ∀ j, c n j = 0) (hn' : n' = n + 1) (hk : k' = k + 1) (hz : z' = z + N) (hkr : Nat.ble k' Y.2.1.2.1 = true) (hzr : Nat.ble z' Y.2.1.2.2 = true) (h : qG Y (L, n', k', z') (pc + 2) lo (qP n :: st) c) : qG Y (L, n, k, z) pc lo (qI i :: st) c := by
  subst hi; subst hk; subst hz; subst hn'
  have hN := Nat.le_of_ble_eq_true hN
  have hkr := Nat.le_of_ble_eq_true hkr
  have hzr := Nat.le_of_ble_eq_true hzr
  intro p l e R s m args below meth cd D cs B H locs ls C hE hH hS hl hn
  have C' := C
  obtain ⟨hx, hb, -, -, hown, hts, -, hK, -, -, hB, -, -, hce, hso⟩ := C
  have hsz : H.size = B + n := hH.1
  refine va_newaK (atype := .boolean) (N := N) hx hb (hts _ qa_Z) rfl hd rfl ?_ (by rw [q_cl (by omega) (by omega)]; exact Int.toNat_natCast N) (Nat.le_trans (Nat.mul_le_mul_left N (show componentBytes _ ≤ 8 by decide)) (by omega)) (Nat.le_trans hkr hce) (Nat.le_trans hzr hso) hsz fun H1 cA e1 z1 o1 hAr hNm => ?_
  · rw [q_i0, q_ilt (by omega) (by omega)]; omega
  · have hcA : cA = cs.2.2.1 := Option.some.inj (hNm.symm.trans (hK.2 2 _ rfl).2)
    subst hcA
    refine h p l e R s m args below meth cd D cs B H1 locs ls C' hE (hH.push (by rw [z1, hsz]) (fun q hq => o1 q (by rw [← hsz]; exact hq)) ?_ (fun _ _ => ⟨rfl, rfl⟩)) (q_sp hS hsz z1 o1) hl hn
    show va_at D qcl (B + n, qE B cs (c n) (L n)) H1
    rw [hL]
    show H1[B + n]? = some (vp_cell cs.2.2.1 (N, .inl fun j => Int32.ofInt (c n j)))
    rw [vp_cell_i, e1]
    congr 2
    funext j
    rw [hc]
    rfl
/-- the words by which an object is made -/
def qNw (own : String) (idx ci : Nat) (fs : List qF) : Prop := ∃ (C : String) (T : u_T) (N : Nat) (ty : Nat → FieldType), qcl[ci]? = some (C, T, N) ∧ (∀ w ∈ u_ws C T N, w ∈ qALL) ∧ (∀ k, k < N → parseFieldDescriptor (T k).2.2.1 = some (ty k)) ∧ Cond.classLink own idx C ∈ qALL ∧ Cond.instantiable C N ∈ qALL ∧ Cond.initialized C ∈ qALL ∧ fs.length = N ∧ ∀ (B j : Nat), j < N → defaultValue (ty j) = vp_V (qfs B (fun _ => 0) 0 fs) j
theorem g_new {idx ci N : Nat} {fs : List qF} (hd : decode Y.1.2.1 pc = .ok (.new idx, 3)) (hw : qNw Y.1.1.cls idx ci fs) (hN : fs.length = N) (hc : ∀ j, c n j = 0) (hn' : n' = n + 1) (hk : k' = k + 1) (hz : z' = z + N) (hkr : Nat.ble k' Y.2.1.2.1 = true) (hzr : Nat.ble z' Y.2.1.2.2 = true) (h : qG Y (quL L n (.inr (.inr (ci, fs))), n', k', z') (pc + 3) lo (qP n :: st) c) : qG Y (L, n, k, z) pc lo st c := by
  subst hk; subst hz; subst hn'
  have hkr := Nat.le_of_ble_eq_true hkr
  have hzr := Nat.le_of_ble_eq_true hzr
  obtain ⟨C0, T, N0, ty, w1, w2, w3, w4, w5, w6, w7, w8⟩ := hw
  have e0 : N0 = N := w7.symm.trans hN
  subst e0
  intro p l e R s m args below meth cd D cs B H locs ls C hE hH hS hl hn
  have C' := C
  obtain ⟨hx, hb, -, -, hown, hts, -, hK, -, -, hB, -, -, hce, hso⟩ := C
  have hsz : H.size = B + n := hH.1
  have hKn := hK.1 ci _ w1
  refine W.newcK hx hb hown (hts _ w4) (hts _ w5) (hts _ w6) rfl hd (Nat.le_trans hkr hce) (Nat.le_trans hzr hso) hKn.2.1 hsz fun H1 kC hkC e1 z1 o1 => ?_
  refine h p l e R s m args below meth cd D cs B H1 locs ls C' hE (hH.push (by rw [z1, hsz]) (fun q hq => o1 q (by rw [← hsz]; exact hq)) ?_ (fun j hj => ⟨rfl, quL_ne hj⟩)) (q_sp hS hsz z1 o1) hl hn
  show va_at D qcl (B + n, qE B cs (c n) (quL L n (.inr (.inr (ci, fs))) n)) H1
  rw [quL_at, show c n = (fun _ => 0) from funext hc]
  exact ⟨_, w1, (u_born ty hts w2 hKn hkC e1 w3).to (w8 B)⟩
def qOb (own : String) (idx : Nat) : Prop := Cond.methodLink own idx Lib.objectInit ∈ qALL ∧ Cond.instanceMethod Lib.objectInit ∈ qALL ∧ Cond.code Lib.objectInit ⟨#[0xb1]⟩ 1 none ∈ qALL
theorem g_oinit {a idx : Nat} {w : qW} (hd : decode Y.1.2.1 pc = .ok (.invokespecial idx, 3)) (hw : qOb Y.1.1.cls idx) (hr : Nat.ble 1 Y.2.1.1 = true) (hcs : Nat.ble (qcs st) 30 = true) (h : qG Y w (pc + 3) lo st c) : qG Y w pc lo (qP a :: st) c := by
  have hr := Nat.le_of_ble_eq_true hr
  have hcs := Nat.le_of_ble_eq_true hcs
  intro p l e R s m args below meth cd D cs B H locs ls C hE hH hS hl hn
  have C' := C
  obtain ⟨hx, hb, -, hml, hown, hts, -, hK, -, -, hB, hfr, hlc, hce, hso⟩ := C
  refine W.objInit hx hb hown (hts _ hw.1) (hts _ hw.2.1) (hts _ hw.2.2) rfl (by rw [hml]; exact hn) rfl hd (by omega) ?_ (h p l e R s m args below meth cd D cs B H locs ls C' hE hH hS hl hn)
  show 2 * 0 + ((st.map (qv B)).map fun v => v.category).sum + 12 ≤ R.locals
  rw [q_cs]
  omega
/-- a field of one's own by its link -/
def qFd (own : String) (idx ci j : Nat) : Prop := ∃ (C : String) (T : u_T) (N : Nat), qcl[ci]? = some (C, T, N) ∧ j < N ∧ own = C ∧ (∀ w ∈ u_ws C T N, w ∈ qALL) ∧ Cond.fieldLink own idx (T j).1 (T j).2.1 (T j).2.2.1 ∈ qALL
theorem g_putP {a ci j idx b : Nat} {L' : Nat → qL} {fs fs' : List qF} {ty : FieldType} (hd : decode Y.1.2.1 pc = .ok (.putfield idx, 3)) (hf : qFd Y.1.1.cls idx ci j) (hw : qFw ci j ty true) (hnm : Y.1.1.name = "<init>") (hty : ∀ x : Nat, narrow ty (.ref x) = .ref x ∧ fits ty (.ref x) = true) (hL : L a = .inr (.inr (ci, fs))) (ha : a < n) (hjl : j < fs.length) (hfs : fs' = fs.set j (.inl (some b))) (hL' : L' a = .inr (.inr (ci, fs'))) (ho : ∀ q, q ≠ a → L' q = L q) (h : qG Y (L', n, k, z) (pc + 3) lo st c) : qG Y (L, n, k, z) pc lo (qP b :: qP a :: st) c := by
  intro p l e R s m args below meth cd D cs B H locs ls C hE hH hS hl hn
  have C' := C
  obtain ⟨C0, T, N, h1, h2, h2c, h3, h4⟩ := hf
  obtain ⟨C1, T1, N1, ty0, g1, g2, g3, g4, g5, g6⟩ := hw
  cases h1.symm.trans g1
  obtain ⟨hx, hb, -, -, hown, hts, hNZ, hK, -, hname, -⟩ := C
  have hap := va_apart (own := Y.1.1.cls) hts h3 ty0 g2 g3 hK h1
  have hat := hH.2 a ha
  rw [show (L, n, k, z).1 a = _ from hL] at hat
  obtain ⟨r0, q0, cell, q1, q2, q3, q4⟩ := hat
  cases q0.symm.trans h1
  obtain ⟨hSl, hfc, kC, hkC, hkind⟩ := hK.1 ci _ h1
  obtain ⟨cf, kf, fi, f, hi, hsl⟩ := hSl j h2
  have hst := (u_facts hfc hkC (u_lays hts h3 h2) hi).1
  have hlen : j < (qfs B (c a) 0 fs).length := by rw [q_fsl]; exact hjl
  have hlay := hts _ (h3 _ (u_in_lay h2))
  unfold u_lay at hlay
  rw [if_pos g4] at hlay
  have hcf : m.cls = cf := by
    obtain ⟨_, _, c', _, _, _, -, -, hf', -, -, -, hown2, -⟩ := Cond.laysFinal_spec hlay
    have e1 : c' = cf := by have := hi.symm.trans hf'; simp at this; exact this.1.symm
    rw [g6, ← h2c] at hown2
    rw [← e1]; exact Option.some.inj (hown.symm.trans hown2)
  have h6 := u_fits hfc hkC hkind (Or.inr hlay) hi g5 (hty (B + b)).1 (hty (B + b)).2
  refine W.putFinK hx hb hown (hts _ h4) hi hst hcf (hname.trans hnm) (by rw [q2]; exact h6) q1 q3 (by rw [hsl]; exact k2_hasslot (q4 j h2)) rfl rfl hd ?_
  intro H' e1 e2 e3
  rw [hsl] at e1
  refine h p l e R s m args below meth cd D cs B H' (locs ++ [⟨B + a, f.slot⟩]) ls C' hE (hH.set (k := a) e2 e3 ?_ (fun i hi => ⟨rfl, ho i hi⟩)) (hS.put e2 e3 (by show B ≤ B + a; omega)) hl hn
  show va_at D qcl (B + a, qE B cs (c a) (L' a)) H'
  rw [hL']
  have e4 := q_fset (B := B) (g := c a) (g' := c a) (fs := fs) (fs' := fs') (j := j) (f := .inl (some b)) (v := .ref (B + b)) (by rw [hfs, List.length_set]) (by rw [hfs, List.getElem?_set_self hjl]) rfl (fun i hi => ⟨by rw [hfs, List.getElem?_set_ne (Ne.symm hi)], rfl⟩)
  show va_at D qcl (B + a, .inr (ci, qfs B (c a) 0 fs')) H'
  rw [← e4]
  exact ⟨_, h1, t_OB.to (V := updV (vp_V (qfs B (c a) 0 fs)) j (.ref (B + b))) ⟨_, e1, q2, q3, t_set q4 hap h2 (.ref (B + b))⟩ (fun i _ => vp_updV_set hlen (.ref (B + b)) i)⟩
theorem g_anew {idx : Nat} (hd : decode Y.1.2.1 pc = .ok (.anewarray idx, 3)) (h4 : Cond.classLink Y.1.1.cls idx qgr ∈ qALL) (hn' : n' = n + 1) (hk : k' = k + 1) (hz : z' = z + 2) (hkr : Nat.ble k' Y.2.1.2.1 = true) (hzr : Nat.ble z' Y.2.1.2.2 = true) (h : qG Y (quL L n (.inr (.inl (2, fun _ => none))), n', k', z') (pc + 3) lo (qP n :: st) c) : qG Y (L, n, k, z) pc lo (qI 2 :: st) c := by
  subst hk; subst hz; subst hn'
  have hkr := Nat.le_of_ble_eq_true hkr
  have hzr := Nat.le_of_ble_eq_true hzr
  intro p l e R s m args below meth cd D cs B H locs ls C hE hH hS hl hn
  have C' := C
  obtain ⟨hx, hb, -, -, hown, hts, hNZ, hK, -, -, hB, -, -, hce, hso⟩ := C
  have hsz : H.size = B + n := hH.1
  have h2 : (Int32.ofInt 2).toNatClampNeg = 2 := by decide
  refine W.anew (n := Int32.ofInt 2) hx hb hown (hts _ h4) (va_AO.use (hNZ _ qa_O)) rfl hd rfl (by decide) (by rw [h2]; decide) (Nat.le_trans hkr hce) (by rw [h2]; exact Nat.le_trans hzr hso) fun cA kA comp f1 f2 f3 f4 => ?_
  rw [h2]
  obtain ⟨kA', comp', r1, r2, r3, r4⟩ := (hK.2 3 _ rfl).2
  have hcA : cA = cs.2.2.2 := Option.some.inj (f1.symm.trans r4)
  subst hcA
  generalize hH1 : H.push ({ cls := cs.2.2.2, slots := Array.replicate 2 .null, vm := .none } : Cell) = H1
  have z1 : H1.size = B + n + 1 := by rw [← hH1, Array.size_push, hsz]
  have e1 : H1[B + n]? = some (arrV cs.2.2.2 2 (fun _ => .null)) := by rw [← hH1, ← hsz, Array.getElem?_push_size, ← arrV_new]
  have o1 : ∀ q : Nat, q < B + n → H1[q]? = H[q]? := fun q hq => by rw [← hH1, Array.getElem?_push, if_neg (by omega)]
  rw [hsz]
  refine h p l e R s m args below meth cd D cs B H1 locs ls C' hE (hH.push (by rw [z1, hsz]) (fun q hq => o1 q (by rw [← hsz]; exact hq)) ?_ (fun j hj => ⟨rfl, quL_ne hj⟩)) (q_sp hS hsz z1 o1) hl hn
  show va_at D qcl (B + n, qE B cs (c n) (quL L n (.inr (.inl (2, fun _ => none))) n)) H1
  rw [quL_at]
  show H1[B + n]? = some (vp_cell _ _)
  rw [vp_cell_q, e1]
  rfl
theorem g_aast {a b N : Nat} {i : Int} {f f' : Nat → Option Nat} {fs : List qF} {L' : Nat → qL} (hd : decode Y.1.2.1 pc = .ok (.aastore, 1)) (hL : L a = .inr (.inl (N, f))) (ha : a < n) (hLb : L b = .inr (.inr (3, fs))) (hbn : b < n) (i0 : 0 ≤ i) (i1 : i < (N : Int)) (hN : N < 2147483648) (hL' : L' a = .inr (.inl (N, f'))) (hf : ∀ j, f' j = if j = i.toNat then some b else f j) (ho : ∀ q, q ≠ a → L' q = L q) (h : qG Y (L', n, k, z) (pc + 1) lo st c) : qG Y (L, n, k, z) pc lo (qP b :: qI i :: qP a :: st) c := by
  intro p l e R s m args below meth cd D cs B H locs ls C hE hH hS hl hn
  have C' := C
  obtain ⟨hx, hb, -, -, hown, hts, -, hK, -, -, hB, -, -, hce, hso⟩ := C
  have hin := q_in i0 i1 hN
  have hcl := q_cl i0 (by omega)
  have hlt : (Int32.ofInt i).toNatClampNeg < N := Nat.not_le.mp fun q => hin (Or.inr q)
  have h0 : ¬ Int32.ofInt i < 0 := fun q => hin (Or.inl q)
  have hata := hH.2 a ha
  rw [show (L, n, k, z).1 a = _ from hL] at hata
  have hatb := hH.2 b hbn
  rw [show (L, n, k, z).1 b = _ from hLb] at hatb
  obtain ⟨r', hr', cellV, g1, g2, g3, -⟩ := hatb
  have hcls := (hK.1 3 _ hr').2
  obtain ⟨kA, comp, k1, k2, k3, -⟩ := (hK.2 3 _ rfl).2
  have er : r'.1 = qgr := by cases hr'; rfl
  rw [er] at hcls
  have hcomp : comp = D.1 3 := Option.some.inj (k3.symm.trans hcls.1)
  subst hcomp
  obtain ⟨kC, hkC, -⟩ := hcls.2
  refine W.aast hx hb hata (fun q h => by cases h) (fun h => by cases h) k1 k2 rfl hkC ⟨h0, by show _ < (arrV _ _ _).slots.size; rw [arrV_size]; exact hlt⟩ g1 (fun q h => by rw [g3] at h; cases h) (by rw [g2]; exact hkC) (by rw [g2]; exact va_assign hcls) rfl rfl hd fun H1 e1 z1 oq => ?_
  refine h p l e R s m args below meth cd D cs B H1 _ ls C' hE (hH.set (k := a) z1 oq ?_ (fun j hj => ⟨rfl, ho j hj⟩)) (hS.put z1 oq (by show B ≤ B + a; omega)) hl hn
  show va_at D qcl (B + a, qE B cs (c a) (L' a)) H1
  rw [hL']
  show H1[B + a]? = some (vp_cell _ _)
  rw [e1]
  show some ((vp_cell cs.2.2.2 (N, .inr (.inr (.inr (.inr fun j => (f j).map (B + ·)))))).setSlot _ _) = _
  rw [vp_cell_q, vp_cell_q, arrV_store, hcl]
  congr 2
  funext q
  by_cases hq : q = i.toNat
  · subst hq
    simp [updV, va_rf, hf]
  · simp [updV, hq, hf]
/-- the words of a call of a constructor -/
def qLd (own : String) (idx np : Nat) (X : qM) : Prop := Cond.code X.1 X.2.1 X.2.2.1 X.2.2.2 ∈ qALL ∧ Cond.initialized X.1.cls ∈ qALL ∧ (X.1.cls ≠ "java/lang/invoke/MethodHandle" ∧ X.1.cls ≠ "java/lang/invoke/VarHandle" ∧ (parseMethodDescriptor X.1.desc).map (fun d => d.parameters.length) = some np) ∧ X.2.2.1 ≤ 29 ∧ Cond.methodLink own idx X.1 ∈ qALL
theorem g_callD {w : qW} {X : qM} {r : Nat × Nat × Nat} {As rest st0 : List qV} {a idx np : Nat} {post : Option qV → (Nat → qL) → Nat → qC → Prop} (hM : qK X r (qP a :: As) w.1 w.2.1 c post) (hd : decode Y.1.2.1 pc = .ok (.invokespecial idx, 3)) (hk : qLd Y.1.1.cls idx np X) (hi : Cond.instanceMethod X.1 ∈ qALL) (hy : X.1.name = "<init>") (hv : X.2.2.2 = none) (hn : As.length = np) (hst : st0 = As.reverse ++ qP a :: rest) (hcs : Nat.ble (qcs rest) 8 = true) (hr : Nat.ble (r.1 + 1) Y.2.1.1 = true) (hmc : w.2.2.1 + r.2.1 = k') (hms : w.2.2.2 + r.2.2 = z') (hkr : Nat.ble k' Y.2.1.2.1 = true) (hzr : Nat.ble z' Y.2.1.2.2 = true)
    (kk : ∀ (v : Option qV) (L : Nat → qL) (n : Nat) (c' : qC), post v L n c' → qG Y (L, n, k', z') (pc + 3) lo (v.toList ++ rest) c') : qG Y w pc lo st0 c := by
  subst hmc; subst hms
  have hr := Nat.le_of_ble_eq_true hr
  have hkr := Nat.le_of_ble_eq_true hkr
  have hzr := Nat.le_of_ble_eq_true hzr
  intro p l e R s m args below meth cd D cs B H locs ls C hE hH hS hl hnl
  have C' := C
  obtain ⟨hx, hb, -, hml, hown, hts, hNZ, hK, -, hname, hB, hfr, hlc, hce, hso⟩ := C
  obtain ⟨k1, k2, k3, k4, k5⟩ := hk
  have hR : (qrm r).frames + 1 ≤ R.frames ∧ 8 + (X.2.2.1 + 11) + (qrm r).locals ≤ R.locals := ⟨by show r.1 + 1 ≤ _; omega, by show 8 + (X.2.2.1 + 11) + 48 * r.1 ≤ _; omega⟩
  have hsz : ls.size = Y.1.2.2.1 := hnl
  have hpre : PreS s H (va_Pc ((qP a :: As).map (qv B)) (qU D cs B w.1 w.2.1 c)) (.ref (B + a) :: As.map (qv B)) := ⟨q_blind _ _ _ _ _ _ _, fun U hU hW => ⟨rfl, q_pre C' hH hS U hU hW⟩⟩
  have hW0 : 2 * (F0 m pc ls (st0.map (qv B))).monitorRoom + ((rest.map (qv B)).map fun v => v.category).sum ≤ 8 := by
    rw [q_cs]; show 2 * 0 + _ ≤ 8; have := Nat.le_of_ble_eq_true hcs; omega
  have hMl := hM l D cs B
  rw [hv] at hMl k1
  have hg := q_good (X := (X.1, X.2.1, X.2.2.1, none)) k1
  refine q_after (va_runI (As := As.map (qv B)) (rest := rest.map (qv B)) (b := B + a) (n := np) ⟨hx, hb, hml, hown, hts⟩ hMl ⟨callB_of np hts hg rfl rfl rfl (hts _ k2) (hts _ k5) k3 hR, hy, hts _ hi⟩ hpre rfl (by rw [List.length_map]; exact hn) hsz (q_stk hst) hW0 hd ⟨by show _ + r.2.1 ≤ _; omega, by show _ + r.2.2 ≤ _; omega⟩) hS (fun v L n c' H1 locs1 hp hH1 hS1 => ?_)
  rw [q_ret]
  exact kk v L n c' hp p l e R s m args below meth cd D cs B H1 locs1 ls C' hE hH1 hS1 hl hnl
theorem g_retV {X : qM} {r : Nat × Nat × Nat} {post : Option qV → (Nat → qL) → Nat → qC → Prop} (hd : decode X.2.1 pc = .ok (.return_, 1)) (hr : X.2.2.2 = none) (hk : Nat.ble k r.2.1 = true) (hz : Nat.ble z r.2.2 = true) (hq : post none L n c) : qG (X, r, qE0, qZm post r.2.1 r.2.2) (L, n, k, z) pc lo [] c := g_vret hd hr (Nat.le_of_ble_eq_true hk) (Nat.le_of_ble_eq_true hz) hq
end QB
theorem q_tyA (t : FieldType) : ∀ x : Nat, narrow (.array t) (.ref x) = .ref x ∧ fits (.array t) (.ref x) = true := fun _ => ⟨rfl, rfl⟩
theorem q_tyO (t : String) : ∀ x : Nat, narrow (.object t) (.ref x) = .ref x ∧ fits (.object t) (.ref x) = true := fun _ => ⟨rfl, rfl⟩
