section QH
variable {Y : qY} {w : qW} {pc : Nat} {lo : List (Option qV)} {st : List qV} {c : qC}
/-- a field by its link: class number, place -/
def qFl (own : String) (idx ci j : Nat) : Prop := ∃ (C : String) (T : u_T) (N : Nat), qcl[ci]? = some (C, T, N) ∧ j < N ∧ (∀ w ∈ u_ws C T N, w ∈ qALL) ∧ (Cond.fieldLink own idx (T j).1 (T j).2.1 (T j).2.2.1 ∈ qALL ∨ ∃ host : String, Cond.fieldLinkNest own idx (T j).1 (T j).2.1 (T j).2.2.1 host ∈ qNZ)
def qFw (ci j : Nat) (ty : FieldType) (fin : Bool) : Prop := ∃ (C : String) (T : u_T) (N : Nat) (ty0 : Nat → FieldType), qcl[ci]? = some (C, T, N) ∧ (∀ k, k < N → parseFieldDescriptor (T k).2.2.1 = some (ty0 k)) ∧ (∀ a, a < N → ∀ b, b < N → a ≠ b → (T a).2.1 ≠ (T b).2.1) ∧ (T j).2.2.2 = fin ∧ parseFieldDescriptor (T j).2.2.1 = some ty ∧ (T j).1 = C
theorem q_fi {B : Nat} {z : Int} {kd : Nat} (h : kd ≠ 1) : qf B z (.inr kd) = .int (Int32.ofInt z) := by
  match kd, h with
  | 0, _ => rfl
  | 1, h => exact absurd rfl h
  | _ + 2, _ => rfl
theorem q_get {v : Value} {a ci j idx : Nat} {fs : List qF} {f : qF} {p : Program} {l : Launch} {e : Env} {R : Room} {s : State} {m : MethodId} {args : Array Value} {below : List Frame} {meth : Method} {cd : Code} {D : va_G} {cs : qS} {B n k z : Nat} {L : Nat → qL} {H : Heap} {locs : List Loc} {ls : Array Slot} {X : qM} {r : Nat × Nat × Nat} {Q : State → Prop} {rest : List Value}
    (C : qCx X r p R s m args meth cd D cs B) (hH : qH D cs B L n c H) (hd : decode X.2.1 pc = .ok (.getfield idx, 3)) (hf : qFl X.1.cls idx ci j) (hL : L a = .inr (.inr (ci, fs))) (ha : a < n) (hfs : fs[j]? = some f) (hv : qf B (c a j) f = v)
    (h : W p l e R s m args below meth cd H locs k z Q (F0 m (pc + 3) ls (v :: rest))) : W p l e R s m args below meth cd H locs k z Q (F0 m pc ls (.ref (B + a) :: rest)) := by
  obtain ⟨C0, T, N, h1, h2, h3, h4⟩ := hf
  have hP := hH.one ha hL
  have hval : (qfs B (c a) 0 fs)[j]? = some v := by rw [q_fs, hfs, ← hv, Nat.zero_add]; rfl
  rcases h4 with h4 | ⟨host, h4⟩
  · exact va_get (D := D) (cl := qcl) (tys := qtys cs) (C := C0) (T := T) (N := N) (Ts := qALL) (fs := qfs B (c a) 0 fs) C.1 C.2.1 C.2.2.2.2.2.1 h3 C.2.2.2.2.1 C.2.2.2.2.2.2.2.1 hP 0 rfl h1 j h2 (C.2.2.2.2.2.1 _ h4) (fun _ q => q) hval hd h
  · exact va_getN (D := D) (cl := qcl) (tys := qtys cs) (C := C0) (T := T) (N := N) (Ts := qALL) (fs := qfs B (c a) 0 fs) C.1 C.2.1 C.2.2.2.2.2.1 h3 C.2.2.2.2.1 C.2.2.2.2.2.2.2.1 hP 0 rfl h1 j h2 (va_Nw.use rfl (C.2.2.2.2.2.2.1 _ h4)) (fun _ q => q) hval hd h
theorem g_getI {a ci j idx kd : Nat} {fs : List qF} {ji v : Int} (hd : decode Y.1.2.1 pc = .ok (.getfield idx, 3)) (hf : qFl Y.1.1.cls idx ci j) (hL : w.1 a = .inr (.inr (ci, fs))) (ha : a < w.2.1) (hfs : fs[j]? = some (.inr kd)) (hkd : kd ≠ 1) (hj : ji = (j : Int)) (hv : c a ji = v) (h : qG Y w (pc + 3) lo (qI v :: st) c) : qG Y w pc lo (qP a :: st) c := by
  subst hj; subst hv
  intro p l e R s m args below meth cd D cs B H locs ls C hE hH hS hl hn
  exact q_get C hH hd hf hL ha hfs (q_fi hkd) (h p l e R s m args below meth cd D cs B H locs ls C hE hH hS hl hn)
theorem g_getJ {a ci j idx : Nat} {fs : List qF} {ji v : Int} (hd : decode Y.1.2.1 pc = .ok (.getfield idx, 3)) (hf : qFl Y.1.1.cls idx ci j) (hL : w.1 a = .inr (.inr (ci, fs))) (ha : a < w.2.1) (hfs : fs[j]? = some (.inr 1)) (hj : ji = (j : Int)) (hv : c a ji = v) (h : qG Y w (pc + 3) lo (qJ v :: st) c) : qG Y w pc lo (qP a :: st) c := by
  subst hj; subst hv
  intro p l e R s m args below meth cd D cs B H locs ls C hE hH hS hl hn
  exact q_get C hH hd hf hL ha hfs rfl (h p l e R s m args below meth cd D cs B H locs ls C hE hH hS hl hn)
theorem g_getP {a ci j idx b : Nat} {fs : List qF} (hd : decode Y.1.2.1 pc = .ok (.getfield idx, 3)) (hf : qFl Y.1.1.cls idx ci j) (hL : w.1 a = .inr (.inr (ci, fs))) (ha : a < w.2.1) (hfs : fs[j]? = some (.inl (some b))) (h : qG Y w (pc + 3) lo (qP b :: st) c) : qG Y w pc lo (qP a :: st) c := by
  intro p l e R s m args below meth cd D cs B H locs ls C hE hH hS hl hn
  exact q_get C hH hd hf hL ha hfs rfl (h p l e R s m args below meth cd D cs B H locs ls C hE hH hS hl hn)
theorem q_putW {v : Value} {a ci j idx : Nat} {fs : List qF} {ty : FieldType} {fin : Bool} {p : Program} {l : Launch} {e : Env} {R : Room} {s : State} {m : MethodId} {args : Array Value} {below : List Frame} {meth : Method} {cd : Code} {D : va_G} {cs : qS} {B n k z : Nat} {L : Nat → qL} {H : Heap} {locs : List Loc} {ls : Array Slot} {X : qM} {r : Nat × Nat × Nat} {Q : State → Prop} {rest : List Value}
    (C : qCx X r p R s m args meth cd D cs B) (hH : qH D cs B L n c H) (hS : va_S (fun q : Nat => B ≤ q) s.heap H locs) (hd : decode X.2.1 pc = .ok (.putfield idx, 3)) (hf : qFl X.1.cls idx ci j) (hw : qFw ci j ty fin) (hfin : fin = true → X.1.name = "<init>" ∧ (∀ q : vw_C, qcl[ci]? = some q → X.1.cls = q.1) ∧ ∀ (host : String) (T : u_T) (C0 : String) (N : Nat), qcl[ci]? = some (C0, T, N) → Cond.fieldLinkNest X.1.cls idx (T j).1 (T j).2.1 (T j).2.2.1 host ∉ qNZ) (hL : L a = .inr (.inr (ci, fs))) (ha : a < n) (hjl : j < fs.length) (hn : narrow ty v = v) (hfit : fits ty v = true)
    (h : ∀ (H1 : Heap) (locs1 : List Loc), H1.size = H.size → (∀ q, q ≠ B + a → H1[q]? = H[q]?) → va_at D qcl (B + a, .inr (ci, (qfs B (c a) 0 fs).set j v)) H1 → va_S (fun q : Nat => B ≤ q) s.heap H1 locs1 → W p l e R s m args below meth cd H1 locs1 k z Q (F0 m (pc + 3) ls rest)) : W p l e R s m args below meth cd H locs k z Q (F0 m pc ls (v :: .ref (B + a) :: rest)) := by
  obtain ⟨C0, T, N, h1, h2, h3, h4⟩ := hf
  obtain ⟨C1, T1, N1, ty0, g1, g2, g3, g4, g5, g6⟩ := hw
  cases h1.symm.trans g1
  obtain ⟨hx, hb, -, -, hown, hts, hNZ, hK, -, hname, -⟩ := C
  have hap := va_apart (own := X.1.cls) hts h3 ty0 g2 g3 hK h1
  have hat := hH.2 a ha
  rw [hL] at hat
  obtain ⟨r0, q0, cell, q1, q2, q3, q4⟩ := hat
  cases q0.symm.trans h1
  obtain ⟨hSl, hfc, kC, hkC, hkind⟩ := hK.1 ci _ h1
  obtain ⟨cf, kf, fi, f, hi, hsl⟩ := hSl j h2
  have hst := (u_facts hfc hkC (u_lays hts h3 h2) hi).1
  have hlen : j < (qfs B (c a) 0 fs).length := by rw [q_fsl]; exact hjl
  have fin1 : ∀ (H' : Heap), H'[B + a]? = some (cell.setSlot f.slot v) → H'.size = H.size → (∀ q, q ≠ B + a → H'[q]? = H[q]?) → W p l e R s m args below meth cd H' (locs ++ [⟨B + a, f.slot⟩]) k z Q (F0 m (pc + 3) ls rest) := by
    intro H' e1 e2 e3
    rw [hsl] at e1
    refine h H' _ e2 e3 ⟨_, h1, t_OB.to (V := updV (vp_V (qfs B (c a) 0 fs)) j v) ⟨_, e1, q2, q3, t_set q4 hap h2 v⟩ (fun i _ => vp_updV_set hlen v i)⟩ (hS.put e2 e3 (by show B ≤ B + a; omega))
  cases fin with
  | false =>
    have hlay := hts _ (h3 _ (u_in_lay h2))
    unfold u_lay at hlay
    rw [if_neg (by rw [g4]; decide)] at hlay
    have h6 := u_store hfc hkC hkind hlay hi g5 hn hfit
    rcases h4 with h4 | ⟨host, h4⟩
    · exact W.putK hx hb (f := f) ⟨hown, hts _ h4, ⟨_, _, _, hi⟩, hst⟩ (by rw [q2]; exact h6) q1 q3 (by rw [hsl]; exact k2_hasslot (q4 j h2)) rfl rfl hd fin1
    · exact va_WputK hx hb (f := f) hown (va_Nw.use rfl (hNZ _ h4)) hi hst (by rw [q2]; exact h6) q1 q3 (by rw [hsl]; exact k2_hasslot (q4 j h2)) rfl rfl hd fin1
  | true =>
    obtain ⟨f1, f2, f3⟩ := hfin rfl
    have hlay := hts _ (h3 _ (u_in_lay h2))
    unfold u_lay at hlay
    rw [if_pos g4] at hlay
    have hcf : m.cls = cf := by
      obtain ⟨_, _, c', _, _, _, -, -, hf', -, -, -, hown2, -⟩ := Cond.laysFinal_spec hlay
      have e1 : c' = cf := by have := hi.symm.trans hf'; simp at this; exact this.1.symm
      have f2' : X.1.cls = C0 := f2 _ h1
      rw [g6, ← f2'] at hown2
      rw [← e1]; exact Option.some.inj (hown.symm.trans hown2)
    have h6 := u_fits hfc hkC hkind (Or.inr hlay) hi g5 hn hfit
    rcases h4 with h4 | ⟨host, h4⟩
    · exact W.putFinK hx hb hown (hts _ h4) hi hst hcf (hname.trans f1) (by rw [q2]; exact h6) q1 q3 (by rw [hsl]; exact k2_hasslot (q4 j h2)) rfl rfl hd fin1
    · exact absurd h4 (f3 _ _ _ _ h1)
theorem q_fset {B : Nat} {g g' : Int → Int} {fs fs' : List qF} {j : Nat} {f : qF} {v : Value} (hl : fs'.length = fs.length) (hf : fs'[j]? = some f) (hv : qf B (g' j) f = v) (ho : ∀ i : Nat, i ≠ j → fs'[i]? = fs[i]? ∧ g' i = g i) : (qfs B g 0 fs).set j v = qfs B g' 0 fs' := by
  apply List.ext_getElem?
  intro i
  have hj : j < fs'.length := (List.getElem?_eq_some_iff.mp hf).1
  rw [List.getElem?_set, q_fsl]
  by_cases e : j = i
  · subst e
    rw [if_pos rfl, if_pos (by omega), q_fs, hf, Nat.zero_add, ← hv]; rfl
  · rw [if_neg e, q_fs, q_fs, (ho i (fun q => e q.symm)).1, Nat.zero_add, (ho i (fun q => e q.symm)).2]
theorem g_putI {a ci j idx kd : Nat} {fs : List qF} {x : Int} (ji : Int) (hd : decode Y.1.2.1 pc = .ok (.putfield idx, 3)) (hf : qFl Y.1.1.cls idx ci j) (hw : qFw ci j .int false) (hL : w.1 a = .inr (.inr (ci, fs))) (ha : a < w.2.1) (hfs : fs[j]? = some (.inr kd)) (hkd : kd ≠ 1) (hj : ji = (j : Int)) (h : qG Y w (pc + 3) lo st (qu c a ji x)) : qG Y w pc lo (qI x :: qP a :: st) c := by
  subst hj
  intro p l e R s m args below meth cd D cs B H locs ls C hE hH hS hl hn
  have hjl : j < fs.length := (List.getElem?_eq_some_iff.mp hfs).1
  refine q_putW (v := .int (Int32.ofInt x)) C hH hS hd hf hw (fun q => by cases q) hL ha hjl rfl rfl (fun H1 locs1 z1 o1 a1 s1 => ?_)
  refine h p l e R s m args below meth cd D cs B H1 locs1 ls C hE (hH.set (k := a) z1 o1 ?_ (fun i hi => ⟨qu_ne hi, rfl⟩)) s1 hl hn
  rw [hL]
  rw [q_fset (g' := qu c a j x a) (fs' := fs) rfl hfs (by rw [qu_eq]; exact q_fi hkd) (fun i hi => ⟨rfl, qu_off (by omega)⟩)] at a1
  exact a1
theorem g_putZ {a ci j idx kd : Nat} {fs : List qF} {x : Int} (ji : Int) (hd : decode Y.1.2.1 pc = .ok (.putfield idx, 3)) (hf : qFl Y.1.1.cls idx ci j) (hw : qFw ci j .boolean false) (hL : w.1 a = .inr (.inr (ci, fs))) (ha : a < w.2.1) (hfs : fs[j]? = some (.inr kd)) (hkd : kd ≠ 1) (hj : ji = (j : Int)) (hb : x = 0 ∨ x = 1) (h : qG Y w (pc + 3) lo st (qu c a ji x)) : qG Y w pc lo (qI x :: qP a :: st) c := by
  subst hj
  intro p l e R s m args below meth cd D cs B H locs ls C hE hH hS hl hn
  have hjl : j < fs.length := (List.getElem?_eq_some_iff.mp hfs).1
  refine q_putW (v := .int (Int32.ofInt x)) C hH hS hd hf hw (fun q => by cases q) hL ha hjl (by rcases hb with rfl | rfl <;> decide) (by rcases hb with rfl | rfl <;> decide) (fun H1 locs1 z1 o1 a1 s1 => ?_)
  refine h p l e R s m args below meth cd D cs B H1 locs1 ls C hE (hH.set (k := a) z1 o1 ?_ (fun i hi => ⟨qu_ne hi, rfl⟩)) s1 hl hn
  rw [hL]
  rw [q_fset (g' := qu c a j x a) (fs' := fs) rfl hfs (by rw [qu_eq]; exact q_fi hkd) (fun i hi => ⟨rfl, qu_off (by omega)⟩)] at a1
  exact a1
theorem g_putJ {a ci j idx : Nat} {fs : List qF} {x : Int} (ji : Int) (hd : decode Y.1.2.1 pc = .ok (.putfield idx, 3)) (hf : qFl Y.1.1.cls idx ci j) (hw : qFw ci j .long false) (hL : w.1 a = .inr (.inr (ci, fs))) (ha : a < w.2.1) (hfs : fs[j]? = some (.inr 1)) (hj : ji = (j : Int)) (h : qG Y w (pc + 3) lo st (qu c a ji x)) : qG Y w pc lo (qJ x :: qP a :: st) c := by
  subst hj
  intro p l e R s m args below meth cd D cs B H locs ls C hE hH hS hl hn
  have hjl : j < fs.length := (List.getElem?_eq_some_iff.mp hfs).1
  refine q_putW (v := .long (Int64.ofInt x)) C hH hS hd hf hw (fun q => by cases q) hL ha hjl rfl rfl (fun H1 locs1 z1 o1 a1 s1 => ?_)
  refine h p l e R s m args below meth cd D cs B H1 locs1 ls C hE (hH.set (k := a) z1 o1 ?_ (fun i hi => ⟨qu_ne hi, rfl⟩)) s1 hl hn
  rw [hL]
  rw [q_fset (g' := qu c a j x a) (fs' := fs) rfl hfs (by rw [qu_eq]; rfl) (fun i hi => ⟨rfl, qu_off (by omega)⟩)] at a1
  exact a1
-- returns
section RET
variable {X : qM} {r : Nat × Nat × Nat} {E : State → Array Value → Nat → Prop} {post : Option qV → (Nat → qL) → Nat → qC → Prop}
theorem g_iret {v : Int} (hd : decode X.2.1 pc = .ok (.ireturn, 1)) (hr : X.2.2.2 = some .int) (hk : w.2.2.1 ≤ r.2.1) (hz : w.2.2.2 ≤ r.2.2) (hq : post (some (qI v)) w.1 w.2.1 c) : qG (X, r, E, qZm post r.2.1 r.2.2) w pc lo [qI v] c := by
  intro p l e R s m args below meth cd D cs B H locs ls C hE hH hS hl hn
  have hlocks : meth.locks = false := C.2.2.2.2.2.2.2.2.1
  refine W.widen (k := r.2.1) (n := r.2.2) hk hz ?_
  exact W.iret (v := Int32.ofInt v) C.1 C.2.1 (C.2.2.1.trans hr) (fun t ht hW => ⟨⟨some (qI v), w.1, w.2.1, c, rfl, hq, by rw [ht]; exact hH⟩, hS.F ht⟩) hS.2.2 hd
theorem g_zret {v : Int} (hd : decode X.2.1 pc = .ok (.ireturn, 1)) (hr : X.2.2.2 = some .boolean) (hb : v = 0 ∨ v = 1) (hk : w.2.2.1 ≤ r.2.1) (hz : w.2.2.2 ≤ r.2.2) (hq : post (some (qI v)) w.1 w.2.1 c) : qG (X, r, E, qZm post r.2.1 r.2.2) w pc lo [qI v] c := by
  intro p l e R s m args below meth cd D cs B H locs ls C hE hH hS hl hn
  have hlocks : meth.locks = false := C.2.2.2.2.2.2.2.2.1
  refine W.widen (k := r.2.1) (n := r.2.2) hk hz ?_
  exact W.zret (v := Int32.ofInt v) (ty := .boolean) C.1 C.2.1 (C.2.2.1.trans hr) (by rcases hb with rfl | rfl <;> decide) (fun t ht hW => ⟨⟨some (qI v), w.1, w.2.1, c, rfl, hq, by rw [ht]; exact hH⟩, hS.F ht⟩) hS.2.2 hd
theorem g_lret {v : Int} (hd : decode X.2.1 pc = .ok (.lreturn, 1)) (hr : X.2.2.2 = some .long) (hk : w.2.2.1 ≤ r.2.1) (hz : w.2.2.2 ≤ r.2.2) (hq : post (some (qJ v)) w.1 w.2.1 c) : qG (X, r, E, qZm post r.2.1 r.2.2) w pc lo [qJ v] c := by
  intro p l e R s m args below meth cd D cs B H locs ls C hE hH hS hl hn
  have hlocks : meth.locks = false := C.2.2.2.2.2.2.2.2.1
  refine W.widen (k := r.2.1) (n := r.2.2) hk hz ?_
  exact W.lret (v := Int64.ofInt v) C.1 C.2.1 (C.2.2.1.trans hr) (fun t ht hW => ⟨⟨some (qJ v), w.1, w.2.1, c, rfl, hq, by rw [ht]; exact hH⟩, hS.F ht⟩) hS.2.2 hd
theorem g_vret (hd : decode X.2.1 pc = .ok (.return_, 1)) (hr : X.2.2.2 = none) (hk : w.2.2.1 ≤ r.2.1) (hz : w.2.2.2 ≤ r.2.2) (hq : post none w.1 w.2.1 c) : qG (X, r, E, qZm post r.2.1 r.2.2) w pc lo [] c := by
  intro p l e R s m args below meth cd D cs B H locs ls C hE hH hS hl hn
  have hlocks : meth.locks = false := C.2.2.2.2.2.2.2.2.1
  refine W.widen (k := r.2.1) (n := r.2.2) hk hz ?_
  exact W.vret C.1 C.2.1 (C.2.2.1.trans hr) (fun t ht hW => ⟨⟨none, w.1, w.2.1, c, rfl, hq, by rw [ht]; exact hH⟩, hS.F ht⟩) hS.2.2 hd
end RET
-- calls
theorem q_after {post : Option qV → (Nat → qL) → Nat → qC → Prop} {p : Program} {l : Launch} {e : Env} {R : Room} {s : State} {m : MethodId} {args : Array Value} {below : List Frame} {meth : Method} {cd : Code} {D : va_G} {cs : qS} {B k z mc ms : Nat} {H : Heap} {locs : List Loc} {ls : Array Slot} {Q : State → Prop} {st0 rest : List Value} {a : Array Value}
    (hr : va_Run p l e R s m args below meth cd H locs k z mc ms (F0 m pc ls st0) rest (qQ post D cs B a) (fun q : Nat => B ≤ q)) (hS : va_S (fun q : Nat => B ≤ q) s.heap H locs)
    (kk : ∀ (r : Option qV) (L : Nat → qL) (n : Nat) (c' : qC) (H1 : Heap) (locs1 : List Loc), post r L n c' → qH D cs B L n c' H1 → va_S (fun q : Nat => B ≤ q) s.heap H1 locs1 → W p l e R s m args below meth cd H1 locs1 (k + mc) (z + ms) Q (F0 m (pc + 3) ls ((r.map (qv B)).toList ++ rest))) : W p l e R s m args below meth cd H locs k z Q (F0 m pc ls st0) := by
  intro T hT X
  obtain ⟨v, st₀, t, T', L, h0, X', hL, e1, e2, ⟨⟨r, L', n', c', hv, hp, hh⟩, hz, hk⟩, st⟩ := hr T hT X
  cases hv
  rw [h0] at hz hk
  obtain ⟨t2, a1, b1⟩ := kk r L' n' c' T'.heap (locs ++ L) hp (by rw [e1]; exact hh)
    ⟨Nat.le_trans hS.1 (by rw [e1]; exact hz), fun q h1 h2 => by rw [e1, hk q (Nat.lt_of_lt_of_le h1 hS.1) h2]; exact hS.2.1 q h1 h2, fun q hq => by
      rcases List.mem_append.mp hq with h | h
      · exact hS.2.2 q h
      · exact hL q h⟩ T' rfl X'
  exact ⟨t2, st t2 a1, b1⟩
/-- the words of a call -/
def qLk (own : String) (idx np : Nat) (X : qM) : Prop := Cond.code X.1 X.2.1 X.2.2.1 X.2.2.2 ∈ qALL ∧ Cond.initialized X.1.cls ∈ qALL ∧ (X.1.cls ≠ "java/lang/invoke/MethodHandle" ∧ X.1.cls ≠ "java/lang/invoke/VarHandle" ∧ (parseMethodDescriptor X.1.desc).map (fun d => d.parameters.length) = some np) ∧ X.2.2.1 ≤ 29 ∧ (Cond.methodLink own idx X.1 ∈ qALL ∨ ∃ host : String, Cond.methodLinkNest own idx X.1 host ∈ qNZ)
def qIm (X : qM) : Prop := Cond.instanceMethod X.1 ∈ qALL ∧ Cond.selects X.1.cls X.1 X.1 ∈ qALL
theorem q_good {X : qM} (h : Cond.code X.1 X.2.1 X.2.2.1 X.2.2.2 ∈ qALL) : GoodIn qALL (Cond.code X.1 X.2.1 X.2.2.1 X.2.2.2 :: qALL) := by
  intro w hw
  have h1 : w ∈ qALL := by
    rcases List.mem_cons.mp hw with e | e
    · rw [e]; exact h
    · exact e
  exact ⟨h1, good_of_word (List.mem_filter.mp h1).2⟩
theorem q_warm {w : Cond} (hw : w ∈ qNZ) {s U : State} (hW : s.WarmedH U.vm) (h : va_Nw w s) : va_Nw w U := by
  have h2 := (List.mem_filter.mp hw).2
  cases w
  case fieldLinkNest => exact va_Nw.warmF hW h
  case methodLinkNest => exact va_Nw.warmM hW h
  case arrayOver t =>
    cases t
    case object C => exact va_AO.moved hW.alike h
    all_goals exact absurd h2 (by simp [qnest])
  all_goals exact absurd h2 (by simp [qnest])
theorem q_blind (D : va_G) (cs : qS) (B : Nat) (L : Nat → qL) (n : Nat) (c : qC) (as : List Value) : FrameBlind (va_Pc as (qU D cs B L n c)) := by
  intro a U g mk q
  obtain ⟨q0, q1, qH, qK, qN⟩ := q
  exact ⟨q0, q1, qH, va_K.moved (u := U) (U := U.calling g mk a) (Vm.Alike.refl U.vm) qK, fun w hw => q_same hw (rfl : U.vm = (U.calling g mk a).vm) (qN w hw)⟩
theorem q_pre {X : qM} {r : Nat × Nat × Nat} {p : Program} {R : Room} {s : State} {m : MethodId} {args : Array Value} {meth : Method} {cd : Code} {D : va_G} {cs : qS} {B n : Nat} {L : Nat → qL} {H : Heap} {locs : List Loc} (C : qCx X r p R s m args meth cd D cs B) (hH : qH D cs B L n c H) (hS : va_S (fun q : Nat => B ≤ q) s.heap H locs) (U : State) (hU : U.heap = H) (hW : s.WarmedH U.vm) : qU D cs B L n c U :=
  ⟨by rw [hU]; exact Nat.le_trans C.2.2.2.2.2.2.2.2.2.2.1 hS.1, by rw [hU]; exact hH, va_K.moved hW.alike C.2.2.2.2.2.2.2.1, fun w hw => q_warm hw hW (C.2.2.2.2.2.2.1 w hw)⟩
theorem q_stk {B : Nat} {As rest : List qV} {a : Nat} {st0 : List qV} (h : st0 = As.reverse ++ qP a :: rest) : st0.map (qv B) = (As.map (qv B)).reverse ++ .ref (B + a) :: rest.map (qv B) := by
  rw [h, List.map_append, List.map_reverse]; rfl
theorem q_stkS {B : Nat} {As rest : List qV} {st0 : List qV} (h : st0 = As.reverse ++ rest) : st0.map (qv B) = (As.map (qv B)).reverse ++ rest.map (qv B) := by
  rw [h, List.map_append, List.map_reverse]
theorem q_ret {B : Nat} {r : Option qV} {rest : List qV} : (r.map (qv B)).toList ++ rest.map (qv B) = (r.toList ++ rest).map (qv B) := by
  cases r <;> rfl
theorem g_callV {X : qM} {r : Nat × Nat × Nat} {As rest st0 : List qV} {a ci idx np : Nat} {fs : List qF} {post : Option qV → (Nat → qL) → Nat → qC → Prop} (hM : qK X r (qP a :: As) w.1 w.2.1 c post) (hd : decode Y.1.2.1 pc = .ok (.invokevirtual idx, 3)) (hk : qLk Y.1.1.cls idx np X) (hi : qIm X) (hL : w.1 a = .inr (.inr (ci, fs))) (ha : a < w.2.1) (hci : (qcl[ci]?).map (fun q => q.1) = some X.1.cls) (hn : As.length = np) (hst : st0 = As.reverse ++ qP a :: rest) (hcs : Nat.ble (qcs rest) 8 = true) (hr : r.1 + 1 ≤ Y.2.1.1) (hmc : w.2.2.1 + r.2.1 ≤ Y.2.1.2.1) (hms : w.2.2.2 + r.2.2 ≤ Y.2.1.2.2)
    (kk : ∀ (v : Option qV) (L : Nat → qL) (n : Nat) (c' : qC), post v L n c' → qG Y (L, n, w.2.2.1 + r.2.1, w.2.2.2 + r.2.2) (pc + 3) lo (v.toList ++ rest) c') : qG Y w pc lo st0 c := by
  intro p l e R s m args below meth cd D cs B H locs ls C hE hH hS hl hnl
  have C' := C
  obtain ⟨hx, hb, -, hml, hown, hts, hNZ, hK, -, hname, hB, hfr, hlc, hce, hso⟩ := C
  obtain ⟨k1, k2, k3, k4, k5⟩ := hk
  have hR : (qrm r).frames + 1 ≤ R.frames ∧ 8 + (X.2.2.1 + 11) + (qrm r).locals ≤ R.locals := ⟨by show r.1 + 1 ≤ _; omega, by show 8 + (X.2.2.1 + 11) + 48 * r.1 ≤ _; omega⟩
  have hsz : ls.size = Y.1.2.2.1 := hnl
  obtain ⟨q, hq, hqc⟩ : ∃ q, qcl[ci]? = some q ∧ q.1 = X.1.cls := by
    cases h : qcl[ci]? with
    | none => rw [h] at hci; cases hci
    | some q => rw [h] at hci; exact ⟨q, rfl, Option.some.inj hci⟩
  have hrecv := va_recv hK (hH.one ha hL) (ci := ci) (q0 := 0) hq rfl
  rw [hqc] at hrecv
  have hpre : PreV s H X.1.cls (B + a) (va_Pc ((qP a :: As).map (qv B)) (qU D cs B w.1 w.2.1 c)) (As.map (qv B)) := ⟨q_blind _ _ _ _ _ _ _, hrecv, fun U hU hW => ⟨rfl, q_pre C' hH hS U hU hW⟩⟩
  have hW0 : 2 * (F0 m pc ls (st0.map (qv B))).monitorRoom + ((rest.map (qv B)).map fun v => v.category).sum ≤ 8 := by
    rw [q_cs]; show 2 * 0 + _ ≤ 8; have := Nat.le_of_ble_eq_true hcs; omega
  have hS2 := hS
  rcases k5 with k5 | ⟨host, k5⟩
  · refine q_after (va_runV (As := As.map (qv B)) (rest := rest.map (qv B)) (b := B + a) (n := np) ⟨hx, hb, hml, hown, hts⟩ (hM l D cs B) ⟨callB_of np hts (q_good k1) rfl rfl rfl (hts _ k2) (hts _ k5) k3 hR, hts _ hi.1, hts _ hi.2⟩ hpre rfl (by rw [List.length_map]; exact hn) hsz (q_stk hst) hW0 hd ⟨by show _ + r.2.1 ≤ _; omega, by show _ + r.2.2 ≤ _; omega⟩) hS (fun v L n c' H1 locs1 hp hH1 hS1 => ?_)
    rw [q_ret]
    exact kk v L n c' hp p l e R s m args below meth cd D cs B H1 locs1 ls C' hE hH1 hS1 hl hnl
  · refine q_after (va_runVN (As := As.map (qv B)) (rest := rest.map (qv B)) (b := B + a) (n := np) ⟨hx, hb, hml, hown, hts⟩ (hM l D cs B) ⟨va_cnB np hts (q_good k1) rfl rfl rfl (hNZ _ k5) (hts _ k2) k3 hR, hts _ hi.1, hts _ hi.2⟩ hpre rfl (by rw [List.length_map]; exact hn) hsz (q_stk hst) hW0 hd ⟨by show _ + r.2.1 ≤ _; omega, by show _ + r.2.2 ≤ _; omega⟩) hS (fun v L n c' H1 locs1 hp hH1 hS1 => ?_)
    rw [q_ret]
    exact kk v L n c' hp p l e R s m args below meth cd D cs B H1 locs1 ls C' hE hH1 hS1 hl hnl
theorem g_callS {X : qM} {r : Nat × Nat × Nat} {As rest st0 : List qV} {idx np : Nat} {post : Option qV → (Nat → qL) → Nat → qC → Prop} (hM : qK X r As w.1 w.2.1 c post) (hd : decode Y.1.2.1 pc = .ok (.invokestatic idx, 3)) (hk : qLk Y.1.1.cls idx np X) (hi : Cond.static X.1 ∈ qALL) (hn : As.length = np) (hst : st0 = As.reverse ++ rest) (hcs : Nat.ble (qcs rest) 8 = true) (hr : r.1 + 1 ≤ Y.2.1.1) (hmc : w.2.2.1 + r.2.1 ≤ Y.2.1.2.1) (hms : w.2.2.2 + r.2.2 ≤ Y.2.1.2.2)
    (kk : ∀ (v : Option qV) (L : Nat → qL) (n : Nat) (c' : qC), post v L n c' → qG Y (L, n, w.2.2.1 + r.2.1, w.2.2.2 + r.2.2) (pc + 3) lo (v.toList ++ rest) c') : qG Y w pc lo st0 c := by
  intro p l e R s m args below meth cd D cs B H locs ls C hE hH hS hl hnl
  have C' := C
  obtain ⟨hx, hb, -, hml, hown, hts, hNZ, hK, -, hname, hB, hfr, hlc, hce, hso⟩ := C
  obtain ⟨k1, k2, k3, k4, k5⟩ := hk
  have hR : (qrm r).frames + 1 ≤ R.frames ∧ 8 + (X.2.2.1 + 11) + (qrm r).locals ≤ R.locals := ⟨by show r.1 + 1 ≤ _; omega, by show 8 + (X.2.2.1 + 11) + 48 * r.1 ≤ _; omega⟩
  have hsz : ls.size = Y.1.2.2.1 := hnl
  have hpre : PreS s H (va_Pc (As.map (qv B)) (qU D cs B w.1 w.2.1 c)) (As.map (qv B)) := ⟨q_blind _ _ _ _ _ _ _, fun U hU hW => ⟨rfl, q_pre C' hH hS U hU hW⟩⟩
  have hW0 : 2 * (F0 m pc ls (st0.map (qv B))).monitorRoom + ((rest.map (qv B)).map fun v => v.category).sum ≤ 8 := by
    rw [q_cs]; show 2 * 0 + _ ≤ 8; have := Nat.le_of_ble_eq_true hcs; omega
  rcases k5 with k5 | ⟨host, k5⟩
  · refine q_after (va_runS (As := As.map (qv B)) (rest := rest.map (qv B)) (n := np) ⟨hx, hb, hml, hown, hts⟩ (hM l D cs B) ⟨callB_of np hts (q_good k1) rfl rfl rfl (hts _ k2) (hts _ k5) k3 hR, hts _ hi⟩ hpre rfl (by rw [List.length_map]; exact hn) hsz (q_stkS hst) hW0 hd ⟨by show _ + r.2.1 ≤ _; omega, by show _ + r.2.2 ≤ _; omega⟩) hS (fun v L n c' H1 locs1 hp hH1 hS1 => ?_)
    rw [q_ret]
    exact kk v L n c' hp p l e R s m args below meth cd D cs B H1 locs1 ls C' hE hH1 hS1 hl hnl
  · refine q_after (va_runSN (As := As.map (qv B)) (rest := rest.map (qv B)) (n := np) ⟨hx, hb, hml, hown, hts⟩ (hM l D cs B) ⟨va_cnB np hts (q_good k1) rfl rfl rfl (hNZ _ k5) (hts _ k2) k3 hR, hts _ hi, trivial⟩ hpre rfl (by rw [List.length_map]; exact hn) hsz (q_stkS hst) hW0 hd ⟨by show _ + r.2.1 ≤ _; omega, by show _ + r.2.2 ≤ _; omega⟩) hS (fun v L n c' H1 locs1 hp hH1 hS1 => ?_)
    rw [q_ret]
    exact kk v L n c' hp p l e R s m args below meth cd D cs B H1 locs1 ls C' hE hH1 hS1 hl hnl
theorem g_callI {X : qM} {r : Nat × Nat × Nat} {As rest st0 : List qV} {a idx np : Nat} {post : Option qV → (Nat → qL) → Nat → qC → Prop} (hM : qK X r (qP a :: As) w.1 w.2.1 c post) (hd : decode Y.1.2.1 pc = .ok (.invokespecial idx, 3)) (hk : qLk Y.1.1.cls idx np X) (hnest : ∀ host : String, Cond.methodLinkNest Y.1.1.cls idx X.1 host ∉ qNZ) (hi : Cond.instanceMethod X.1 ∈ qALL) (hy : X.1.name = "<init>") (hv : X.2.2.2 = none) (hn : As.length = np) (hst : st0 = As.reverse ++ qP a :: rest) (hcs : Nat.ble (qcs rest) 8 = true) (hr : r.1 + 1 ≤ Y.2.1.1) (hmc : w.2.2.1 + r.2.1 ≤ Y.2.1.2.1) (hms : w.2.2.2 + r.2.2 ≤ Y.2.1.2.2)
    (kk : ∀ (v : Option qV) (L : Nat → qL) (n : Nat) (c' : qC), post v L n c' → qG Y (L, n, w.2.2.1 + r.2.1, w.2.2.2 + r.2.2) (pc + 3) lo (v.toList ++ rest) c') : qG Y w pc lo st0 c := by
  intro p l e R s m args below meth cd D cs B H locs ls C hE hH hS hl hnl
  have C' := C
  obtain ⟨hx, hb, -, hml, hown, hts, hNZ, hK, -, hname, hB, hfr, hlc, hce, hso⟩ := C
  obtain ⟨k1, k2, k3, k4, k5⟩ := hk
  have hR : (qrm r).frames + 1 ≤ R.frames ∧ 8 + (X.2.2.1 + 11) + (qrm r).locals ≤ R.locals := ⟨by show r.1 + 1 ≤ _; omega, by show 8 + (X.2.2.1 + 11) + 48 * r.1 ≤ _; omega⟩
  have hsz : ls.size = Y.1.2.2.1 := hnl
  have hpre : PreS s H (va_Pc ((qP a :: As).map (qv B)) (qU D cs B w.1 w.2.1 c)) (.ref (B + a) :: As.map (qv B)) := ⟨q_blind _ _ _ _ _ _ _, fun U hU hW => ⟨rfl, q_pre C' hH hS U hU hW⟩⟩
  have hW0 : 2 * (F0 m pc ls (st0.map (qv B))).monitorRoom + ((rest.map (qv B)).map fun v => v.category).sum ≤ 8 := by
    rw [q_cs]; show 2 * 0 + _ ≤ 8; have := Nat.le_of_ble_eq_true hcs; omega
  have hMl := hM l D cs B
  rw [hv] at hMl k1
  have hg := q_good (X := (X.1, X.2.1, X.2.2.1, none)) k1
  rcases k5 with k5 | ⟨host, k5⟩
  · refine q_after (va_runI (As := As.map (qv B)) (rest := rest.map (qv B)) (b := B + a) (n := np) ⟨hx, hb, hml, hown, hts⟩ hMl ⟨callB_of np hts hg rfl rfl rfl (hts _ k2) (hts _ k5) k3 hR, hy, hts _ hi⟩ hpre rfl (by rw [List.length_map]; exact hn) hsz (q_stk hst) hW0 hd ⟨by show _ + r.2.1 ≤ _; omega, by show _ + r.2.2 ≤ _; omega⟩) hS (fun v L n c' H1 locs1 hp hH1 hS1 => ?_)
    rw [q_ret]
    exact kk v L n c' hp p l e R s m args below meth cd D cs B H1 locs1 ls C' hE hH1 hS1 hl hnl
  · exact absurd k5 (hnest host)
end QH
