/-! the judgement qG, the contract qK, a rule an instruction -/
abbrev qM : Type := MethodName × ByteArray × Nat × Option FieldType
abbrev qZt : Type := va_G → qS → Nat → State → Array Value → List Frame → State → Prop
abbrev qY : Type := qM × (Nat × Nat × Nat) × (State → Array Value → Nat → Prop) × qZt
abbrev qW : Type := (Nat → qL) × Nat × Nat × Nat
/-- what holds of the machine all through a method -/
def qCx (X : qM) (r : Nat × Nat × Nat) (p : Program) (R : Room) (s : State) (m : MethodId) (args : Array Value) (meth : Method) (cd : Code) (D : va_G) (cs : qS) (B : Nat) : Prop :=
  p.tables.exec = Jvm.exec ∧ cd.code = X.2.1 ∧ meth.sig.returnType = X.2.2.2 ∧ cd.maxLocals = X.2.2.1 ∧ s.vm.findClass X.1.cls = some m.cls ∧ (∀ w ∈ qALL, w.before args s = true) ∧ (∀ w ∈ qNZ, va_Nw w s) ∧ va_K D qcl (qtys cs) s ∧ meth.locks = false ∧ meth.name = X.1.name ∧ B ≤ s.heap.size ∧ r.1 ≤ R.frames ∧ 48 * r.1 ≤ R.locals ∧ r.2.1 ≤ R.cells ∧ r.2.2 ≤ R.slots
def qG (Y : qY) (w : qW) (pc : Nat) (lo : List (Option qV)) (st : List qV) (c : qC) : Prop :=
  ∀ (p : Program) (l : Launch) (e : Env) (R : Room) (s : State) (m : MethodId) (args : Array Value) (below : List Frame) (meth : Method) (cd : Code) (D : va_G) (cs : qS) (B : Nat) (H : Heap) (locs : List Loc) (ls : Array Slot),
    qCx Y.1 Y.2.1 p R s m args meth cd D cs B → Y.2.2.1 s args B → qH D cs B w.1 w.2.1 c H → va_S (fun q : Nat => B ≤ q) s.heap H locs → qLs B ls lo → ls.size = Y.1.2.2.1 →
    W p l e R s m args below meth cd H locs w.2.2.1 w.2.2.2 (Y.2.2.2 D cs B s args below) (F0 m pc ls (st.map (qv B)))
def qE0 : State → Array Value → Nat → Prop := fun _ _ _ => True
/-- a method's end -/
def qQ (post : Option qV → (Nat → qL) → Nat → qC → Prop) (D : va_G) (cs : qS) (B : Nat) : Array Value → State → Outcome → State → Prop := fun _ st oc t => (∃ (r : Option qV) (L : Nat → qL) (n : Nat) (c : qC), oc = .returned (r.map (qv B)) ∧ post r L n c ∧ qH D cs B L n c t.heap) ∧ va_F (fun q : Nat => B ≤ q) st t
def qZm (post : Option qV → (Nat → qL) → Nat → qC → Prop) (mc ms : Nat) : qZt := fun D cs B s args below => MQ below (qQ post D cs B) args s mc ms (fun q : Nat => B ≤ q)
def qrm (r : Nat × Nat × Nat) : Room := { frames := r.1, cells := r.2.1, slots := r.2.2, locals := 48 * r.1 }
/-- a state in which a method may be called -/
def qU (D : va_G) (cs : qS) (B : Nat) (L : Nat → qL) (n : Nat) (c : qC) (U : State) : Prop := B ≤ U.heap.size ∧ qH D cs B L n c U.heap ∧ va_K D qcl (qtys cs) U ∧ ∀ w ∈ qNZ, va_Nw w U
/-- THE CONTRACT: from these arguments and cells the method X returns, with 'post' of its answer and of the cells -/
def qK (X : qM) (r : Nat × Nat × Nat) (as : List qV) (L : Nat → qL) (n : Nat) (c : qC) (post : Option qV → (Nat → qL) → Nat → qC → Prop) : Prop :=
  ∀ (l : Launch) (D : va_G) (cs : qS) (B : Nat), Met l X.1 (Cond.code X.1 X.2.1 X.2.2.1 X.2.2.2 :: qALL) (qrm r) (va_Pc (as.map (qv B)) (qU D cs B L n c)) (qQ post D cs B) r.2.1 r.2.2 (fun q : Nat => B ≤ q)
theorem qK.of {X : qM} {r : Nat × Nat × Nat} {as : List qV} {L : Nat → qL} {n : Nat} {c : qC} {post : Option qV → (Nat → qL) → Nat → qC → Prop} (lo : List (Option qV)) (hp : plainName X.1.cls = true) (hlen : lo.length = X.2.2.1) (hlo : ∀ B : Nat, qlv B 0 lo = lv_args 0 (as.map (qv B))) (hsl : ∀ B : Nat, (lg_sl (as.map (qv B))).length ≤ X.2.2.1)
    (h : qG (X, r, qE0, qZm post r.2.1 r.2.2) (L, n, 0, 0) 0 lo [] c) : qK X r as L n c post := by
  intro l D cs B
  refine Met.ofW (cc := X.2.1) (maxL := X.2.2.1) (ret := X.2.2.2) hp rfl ?_
  intro p e s m args below meth cd s₁ Bd hml hv
  obtain ⟨rfl, hB, hH, hK, hN⟩ := hv
  have hts := atoms_spec (ws := Cond.code X.1 X.2.1 X.2.2.1 X.2.2.2 :: qALL) Bd.pre
  have hl := lv_entry (as.map (qv B)) (n := X.2.2.1) (hsl B)
  rw [lg_entry_eq]
  generalize (lg_sl (as.map (qv B)) ++ List.replicate (X.2.2.1 - (lg_sl (as.map (qv B))).length) Slot.unset).toArray = ls at hl ⊢
  refine h p l e _ s m _ below meth cd D cs B s.heap [] ls ⟨Bd.exec, Bd.bytes, Bd.returns, hml, findClass_of_methodNamed Bd.named, fun w hw => hts w (List.mem_cons_of_mem _ hw), hN, hK, Bd.notSynchronized, (name_of_methodNamed Bd.named Bd.method).1, hB, Nat.le_refl _, Nat.le_refl _, Nat.le_refl _, Nat.le_refl _⟩ trivial hH va_S.rf ?_ hl.1
  refine qLs.of (by rw [hlen]; exact hl) (fun i v hi => ?_)
  rw [← hlo B]
  have := q_lvm B lo 0 i v hi
  simpa using this
section QG
variable {Y : qY} {w : qW} {pc : Nat} {lo : List (Option qV)} {st : List qV} {c : qC}
theorem qG.name {x : Int} (h : ∀ y : Int, y = x → qG Y w pc lo (qI y :: st) c) : qG Y w pc lo (qI x :: st) c := h x rfl
theorem qG.nameJ {x : Int} (h : ∀ y : Int, y = x → qG Y w pc lo (qJ y :: st) c) : qG Y w pc lo (qJ x :: st) c := h x rfl
theorem qG.to {pc' : Nat} {lo' : List (Option qV)} {st' : List qV} {c' : qC} (h : qG Y w pc lo st c) (h1 : pc = pc') (h2 : lo = lo') (h3 : st = st') (h4 : c = c') : qG Y w pc' lo' st' c' := by
  subst h1; subst h2; subst h3; subst h4; exact h
/-- fewer locals are named -/
theorem qG.fewer {lo' : List (Option qV)} (h : qG Y w pc lo st c) (hl : lo.length = lo'.length) (h2 : ∀ (i : Nat) (v : qV), lo[i]? = some (some v) → lo'[i]? = some (some v)) : qG Y w pc lo' st c :=
  fun p l e R s m args below meth cd D cs B H locs ls C hE hH hS hl0 hn => h p l e R s m args below meth cd D cs B H locs ls C hE hH hS ⟨hl0.1.trans hl.symm, hl0.2.1, fun i v hi => hl0.2.2 i v (h2 i v hi)⟩ hn

theorem q_lr0 : lR 0 := by omega
theorem g_iconst {n : Int} (hd : decode Y.1.2.1 pc = .ok (.iconst n, 1)) (h : qG Y w (pc + 1) lo (qI n :: st) c) : qG Y w pc lo st c := by
  intro p l e R s m args below meth cd D cs B H locs ls C hE hH hS hl hn
  refine lv_iconst C.1 C.2.1 hd rfl ?_
  exact h p l e R s m args below meth cd D cs B H locs ls C hE hH hS hl hn
theorem g_bipush {n : Int} (hd : decode Y.1.2.1 pc = .ok (.bipush n, 2)) (hr : (Int8.ofInt n).toInt32 = Int32.ofInt n) (h : qG Y w (pc + 2) lo (qI n :: st) c) : qG Y w pc lo st c := by
  intro p l e R s m args below meth cd D cs B H locs ls C hE hH hS hl hn
  refine lv_bipush C.1 C.2.1 hd hr ?_
  exact h p l e R s m args below meth cd D cs B H locs ls C hE hH hS hl hn
theorem g_sipush {n : Int} (hd : decode Y.1.2.1 pc = .ok (.sipush n, 3)) (hr : (Int16.ofInt n).toInt32 = Int32.ofInt n) (h : qG Y w (pc + 3) lo (qI n :: st) c) : qG Y w pc lo st c := by
  intro p l e R s m args below meth cd D cs B H locs ls C hE hH hS hl hn
  refine lv_sipush C.1 C.2.1 hd hr ?_
  exact h p l e R s m args below meth cd D cs B H locs ls C hE hH hS hl hn
theorem g_lconst {n : Fin 2} {z : Int} (hd : decode Y.1.2.1 pc = .ok (.lconst n, 1)) (hz : Int64.ofNat (n : Nat) = Int64.ofInt z) (h : qG Y w (pc + 1) lo (qJ z :: st) c) : qG Y w pc lo st c := by
  intro p l e R s m args below meth cd D cs B H locs ls C hE hH hS hl hn
  refine lv_lconst C.1 C.2.1 hd hz ?_
  exact h p l e R s m args below meth cd D cs B H locs ls C hE hH hS hl hn
theorem g_ldc {i : Nat} {z : Int} (hd : decode Y.1.2.1 pc = .ok (.ldc i, 2)) (hw : Cond.constant Y.1.1.cls i (Int32.ofInt z) ∈ qALL) (h : qG Y w (pc + 2) lo (qI z :: st) c) : qG Y w pc lo st c := by
  intro p l e R s m args below meth cd D cs B H locs ls C hE hH hS hl hn
  refine lv_ldc C.1 C.2.1 C.2.2.2.2.1 (C.2.2.2.2.2.1 _ hw) hd ?_
  exact h p l e R s m args below meth cd D cs B H locs ls C hE hH hS hl hn
theorem g_ldc2 {i : Nat} {z : Int} (hd : decode Y.1.2.1 pc = .ok (.ldc2_w i, 3)) (hw : Cond.constantLong Y.1.1.cls i (Int64.ofInt z) ∈ qALL) (h : qG Y w (pc + 3) lo (qJ z :: st) c) : qG Y w pc lo st c := by
  intro p l e R s m args below meth cd D cs B H locs ls C hE hH hS hl hn
  refine lv_ldc2 C.1 C.2.1 C.2.2.2.2.1 (C.2.2.2.2.2.1 _ hw) hd ?_
  exact h p l e R s m args below meth cd D cs B H locs ls C hE hH hS hl hn
theorem g_iload {i : Nat} {z : Int} (hd : decode Y.1.2.1 pc = .ok (.iload i, 2)) (hi : lo[i]? = some (some (qI z))) (h : qG Y w (pc + 2) lo (qI z :: st) c) : qG Y w pc lo st c := by
  intro p l e R s m args below meth cd D cs B H locs ls C hE hH hS hl hn
  refine lv_iload C.1 C.2.1 hd (hl.2.2 i _ hi) ?_
  exact h p l e R s m args below meth cd D cs B H locs ls C hE hH hS hl hn
theorem g_iload_n {k : Fin 4} {i : Nat} {z : Int} (hd : decode Y.1.2.1 pc = .ok (.iload_n k, 1)) (hk : (k : Nat) = i) (hi : lo[i]? = some (some (qI z))) (h : qG Y w (pc + 1) lo (qI z :: st) c) : qG Y w pc lo st c := by
  intro p l e R s m args below meth cd D cs B H locs ls C hE hH hS hl hn
  refine lv_iload_n C.1 C.2.1 hd hk (hl.2.2 i _ hi) ?_
  exact h p l e R s m args below meth cd D cs B H locs ls C hE hH hS hl hn
theorem g_lload {i : Nat} {z : Int} (hd : decode Y.1.2.1 pc = .ok (.lload i, 2)) (hi : lo[i]? = some (some (qJ z))) (h : qG Y w (pc + 2) lo (qJ z :: st) c) : qG Y w pc lo st c := by
  intro p l e R s m args below meth cd D cs B H locs ls C hE hH hS hl hn
  refine lv_lload C.1 C.2.1 hd (hl.2.2 i _ hi) ?_
  exact h p l e R s m args below meth cd D cs B H locs ls C hE hH hS hl hn
theorem g_lload_n {k : Fin 4} {i : Nat} {z : Int} (hd : decode Y.1.2.1 pc = .ok (.lload_n k, 1)) (hk : (k : Nat) = i) (hi : lo[i]? = some (some (qJ z))) (h : qG Y w (pc + 1) lo (qJ z :: st) c) : qG Y w pc lo st c := by
  intro p l e R s m args below meth cd D cs B H locs ls C hE hH hS hl hn
  refine lv_lload_n C.1 C.2.1 hd hk (hl.2.2 i _ hi) ?_
  exact h p l e R s m args below meth cd D cs B H locs ls C hE hH hS hl hn
theorem g_aload {i : Nat} {z : Nat} (hd : decode Y.1.2.1 pc = .ok (.aload i, 2)) (hi : lo[i]? = some (some (qP z))) (h : qG Y w (pc + 2) lo (qP z :: st) c) : qG Y w pc lo st c := by
  intro p l e R s m args below meth cd D cs B H locs ls C hE hH hS hl hn
  refine lv_aload C.1 C.2.1 hd (hl.2.2 i _ hi) ?_
  exact h p l e R s m args below meth cd D cs B H locs ls C hE hH hS hl hn
theorem g_aload_n {k : Fin 4} {i : Nat} {z : Nat} (hd : decode Y.1.2.1 pc = .ok (.aload_n k, 1)) (hk : (k : Nat) = i) (hi : lo[i]? = some (some (qP z))) (h : qG Y w (pc + 1) lo (qP z :: st) c) : qG Y w pc lo st c := by
  intro p l e R s m args below meth cd D cs B H locs ls C hE hH hS hl hn
  refine lv_aload_n C.1 C.2.1 hd hk (hl.2.2 i _ hi) ?_
  exact h p l e R s m args below meth cd D cs B H locs ls C hE hH hS hl hn
theorem g_aloadO_n {k : Fin 4} {i z : Nat} (hd : decode Y.1.2.1 pc = .ok (.aload_n k, 1)) (hk : (k : Nat) = i) (hi : lo[i]? = some (some (qO z))) (h : qG Y w (pc + 1) lo (qO z :: st) c) : qG Y w pc lo st c := by
  intro p l e R s m args below meth cd D cs B H locs ls C hE hH hS hl hn
  refine lv_aload_n C.1 C.2.1 hd hk (hl.2.2 i _ hi) ?_
  exact h p l e R s m args below meth cd D cs B H locs ls C hE hH hS hl hn
theorem g_istore_g {i : Nat} {z : Int} {lo' : List (Option qV)} (hd : decode Y.1.2.1 pc = .ok (.istore i, 2)) (hb : i < lo.length) (hlo : qs1 (qI z) lo i = lo') (h : qG Y w (pc + 2) lo' st c) : qG Y w pc lo (qI z :: st) c := by
  subst hlo
  intro p l e R s m args below meth cd D cs B H locs ls C hE hH hS hl hn
  refine lv_istore C.1 C.2.1 hd hl.has hb rfl (fun ls2 hl2 => ?_)
  exact h p l e R s m args below meth cd D cs B H locs ls2 C hE hH hS (qLs.s1 hl2) (by rw [hl2.1, ← hl.1, hn])
theorem g_istore_ng {k : Fin 4} {i : Nat} {z : Int} {lo' : List (Option qV)} (hd : decode Y.1.2.1 pc = .ok (.istore_n k, 1)) (hk : (k : Nat) = i) (hb : i < lo.length) (hlo : qs1 (qI z) lo i = lo') (h : qG Y w (pc + 1) lo' st c) : qG Y w pc lo (qI z :: st) c := by
  subst hlo
  intro p l e R s m args below meth cd D cs B H locs ls C hE hH hS hl hn
  refine lv_istore_n C.1 C.2.1 hd hk hl.has hb rfl (fun ls2 hl2 => ?_)
  exact h p l e R s m args below meth cd D cs B H locs ls2 C hE hH hS (qLs.s1 hl2) (by rw [hl2.1, ← hl.1, hn])
theorem g_lstore_g {i : Nat} {z : Int} {lo' : List (Option qV)} (hd : decode Y.1.2.1 pc = .ok (.lstore i, 2)) (hb : i + 1 < lo.length) (hlo : qs2 (qJ z) lo i = lo') (h : qG Y w (pc + 2) lo' st c) : qG Y w pc lo (qJ z :: st) c := by
  subst hlo
  intro p l e R s m args below meth cd D cs B H locs ls C hE hH hS hl hn
  refine lv_lstore C.1 C.2.1 hd hl.has hb rfl (fun ls2 hl2 => ?_)
  exact h p l e R s m args below meth cd D cs B H locs ls2 C hE hH hS (qLs.s2 hb hl2) (by rw [hl2.1, ← hl.1, hn])
theorem g_lstore_ng {k : Fin 4} {i : Nat} {z : Int} {lo' : List (Option qV)} (hd : decode Y.1.2.1 pc = .ok (.lstore_n k, 1)) (hk : (k : Nat) = i) (hb : i + 1 < lo.length) (hlo : qs2 (qJ z) lo i = lo') (h : qG Y w (pc + 1) lo' st c) : qG Y w pc lo (qJ z :: st) c := by
  subst hlo
  intro p l e R s m args below meth cd D cs B H locs ls C hE hH hS hl hn
  refine lv_lstore_n C.1 C.2.1 hd hk hl.has hb rfl (fun ls2 hl2 => ?_)
  exact h p l e R s m args below meth cd D cs B H locs ls2 C hE hH hS (qLs.s2 hb hl2) (by rw [hl2.1, ← hl.1, hn])
theorem g_astore_g {i : Nat} {z : Nat} {lo' : List (Option qV)} (hd : decode Y.1.2.1 pc = .ok (.astore i, 2)) (hb : i < lo.length) (hlo : qs1 (qP z) lo i = lo') (h : qG Y w (pc + 2) lo' st c) : qG Y w pc lo (qP z :: st) c := by
  subst hlo
  intro p l e R s m args below meth cd D cs B H locs ls C hE hH hS hl hn
  refine lv_astore C.1 C.2.1 hd hl.has hb rfl (fun ls2 hl2 => ?_)
  exact h p l e R s m args below meth cd D cs B H locs ls2 C hE hH hS (qLs.s1 hl2) (by rw [hl2.1, ← hl.1, hn])
theorem g_astore_ng {k : Fin 4} {i : Nat} {z : Nat} {lo' : List (Option qV)} (hd : decode Y.1.2.1 pc = .ok (.astore_n k, 1)) (hk : (k : Nat) = i) (hb : i < lo.length) (hlo : qs1 (qP z) lo i = lo') (h : qG Y w (pc + 1) lo' st c) : qG Y w pc lo (qP z :: st) c := by
  subst hlo
  intro p l e R s m args below meth cd D cs B H locs ls C hE hH hS hl hn
  refine lv_astore_n C.1 C.2.1 hd hk hl.has hb rfl (fun ls2 hl2 => ?_)
  exact h p l e R s m args below meth cd D cs B H locs ls2 C hE hH hS (qLs.s1 hl2) (by rw [hl2.1, ← hl.1, hn])
theorem g_iinc_g {i : Nat} {n z : Int} {lo' : List (Option qV)} (hd : decode Y.1.2.1 pc = .ok (.iinc i n, 3)) (hi : lo[i]? = some (some (qI z))) (hlo : qs1 (qI (z + n)) lo i = lo') (h : qG Y w (pc + 3) lo' st c) : qG Y w pc lo st c := by
  subst hlo
  intro p l e R s m args below meth cd D cs B H locs ls C hE hH hS hl hn
  have hm := q_lvm B lo 0 i _ hi
  rw [Nat.zero_add] at hm
  obtain ⟨k, hk⟩ := List.getElem?_of_mem hm
  have hb : i < lo.length := (List.getElem?_eq_some_iff.mp hi).1
  refine lv_iinc (v := Int32.ofInt (z + n)) C.1 C.2.1 hd hl.has (k := k) hk (Int32.ofInt_add z n).symm hb rfl (fun ls2 hl2 => ?_)
  exact h p l e R s m args below meth cd D cs B H locs ls2 C hE hH hS (qLs.s1 (v := qI (z + n)) hl2) (by rw [hl2.1, ← hl.1, hn])
theorem g_iadd {x y : Int} (hd : decode Y.1.2.1 pc = .ok (.iadd, 1))
    (h : qG Y w (pc + 1) lo (qI (x + y) :: st) c) : qG Y w pc lo (qI y :: qI x :: st) c := by
  intro p l e R s m args below meth cd D cs B H locs ls C hE hH hS hl hn
  refine lv_iadd (x := Int32.ofInt x) (y := Int32.ofInt y) C.1 C.2.1 hd ?_
  rw [← Int32.ofInt_add]
  exact h p l e R s m args below meth cd D cs B H locs ls C hE hH hS hl hn
theorem g_isub {x y : Int} (hd : decode Y.1.2.1 pc = .ok (.isub, 1))
    (h : qG Y w (pc + 1) lo (qI (x - y) :: st) c) : qG Y w pc lo (qI y :: qI x :: st) c := by
  intro p l e R s m args below meth cd D cs B H locs ls C hE hH hS hl hn
  refine lv_isub (x := Int32.ofInt x) (y := Int32.ofInt y) C.1 C.2.1 hd ?_
  rw [← Int32.ofInt_sub]
  exact h p l e R s m args below meth cd D cs B H locs ls C hE hH hS hl hn
theorem g_imul {x y : Int} (hd : decode Y.1.2.1 pc = .ok (.imul, 1))
    (h : qG Y w (pc + 1) lo (qI (x * y) :: st) c) : qG Y w pc lo (qI y :: qI x :: st) c := by
  intro p l e R s m args below meth cd D cs B H locs ls C hE hH hS hl hn
  refine lv_imul (x := Int32.ofInt x) (y := Int32.ofInt y) C.1 C.2.1 hd ?_
  rw [← Int32.ofInt_mul]
  exact h p l e R s m args below meth cd D cs B H locs ls C hE hH hS hl hn
theorem g_ladd {x y : Int} (hd : decode Y.1.2.1 pc = .ok (.ladd, 1))
    (h : qG Y w (pc + 1) lo (qJ (x + y) :: st) c) : qG Y w pc lo (qJ y :: qJ x :: st) c := by
  intro p l e R s m args below meth cd D cs B H locs ls C hE hH hS hl hn
  refine lv_ladd (x := Int64.ofInt x) (y := Int64.ofInt y) C.1 C.2.1 hd ?_
  rw [← Int64.ofInt_add]
  exact h p l e R s m args below meth cd D cs B H locs ls C hE hH hS hl hn
theorem g_lsub {x y : Int} (hd : decode Y.1.2.1 pc = .ok (.lsub, 1))
    (h : qG Y w (pc + 1) lo (qJ (x - y) :: st) c) : qG Y w pc lo (qJ y :: qJ x :: st) c := by
  intro p l e R s m args below meth cd D cs B H locs ls C hE hH hS hl hn
  refine lv_lsub (x := Int64.ofInt x) (y := Int64.ofInt y) C.1 C.2.1 hd ?_
  rw [← Int64.ofInt_sub]
  exact h p l e R s m args below meth cd D cs B H locs ls C hE hH hS hl hn
theorem g_lmul {x y : Int} (hd : decode Y.1.2.1 pc = .ok (.lmul, 1))
    (h : qG Y w (pc + 1) lo (qJ (x * y) :: st) c) : qG Y w pc lo (qJ y :: qJ x :: st) c := by
  intro p l e R s m args below meth cd D cs B H locs ls C hE hH hS hl hn
  refine lv_lmul (x := Int64.ofInt x) (y := Int64.ofInt y) C.1 C.2.1 hd ?_
  rw [← Int64.ofInt_mul]
  exact h p l e R s m args below meth cd D cs B H locs ls C hE hH hS hl hn
theorem g_i2l {x : Int} (hd : decode Y.1.2.1 pc = .ok (.i2l, 1)) (hx : iR x := by omega)
    (h : qG Y w (pc + 1) lo (qJ x :: st) c) : qG Y w pc lo (qI x :: st) c := by
  intro p l e R s m args below meth cd D cs B H locs ls C hE hH hS hl hn
  refine lv_i2l C.1 C.2.1 hd (q_i2l hx) ?_
  exact h p l e R s m args below meth cd D cs B H locs ls C hE hH hS hl hn
theorem g_l2i {x : Int} (hd : decode Y.1.2.1 pc = .ok (.l2i, 1))
    (h : qG Y w (pc + 1) lo (qI x :: st) c) : qG Y w pc lo (qJ x :: st) c := by
  intro p l e R s m args below meth cd D cs B H locs ls C hE hH hS hl hn
  refine lv_l2i C.1 C.2.1 hd Int64.toInt32_ofInt ?_
  exact h p l e R s m args below meth cd D cs B H locs ls C hE hH hS hl hn
theorem g_ldiv {x y : Int} (hd : decode Y.1.2.1 pc = .ok (.ldiv, 1)) (hy0 : y ≠ 0) (hx : lR x) (hy : lR y)
    (h : qG Y w (pc + 1) lo (qJ (x.tdiv y) :: st) c) : qG Y w pc lo (qJ y :: qJ x :: st) c := by
  intro p l e R s m args below meth cd D cs B H locs ls C hE hH hS hl hn
  refine lv_ldiv (x := Int64.ofInt x) (y := Int64.ofInt y) C.1 C.2.1 hd (fun q => hy0 ((q_leq hy q_lr0).mp (q.trans q_l0))) ?_
  rw [q_ldiv hx hy]
  exact h p l e R s m args below meth cd D cs B H locs ls C hE hH hS hl hn
theorem g_lrem {x y : Int} (hd : decode Y.1.2.1 pc = .ok (.lrem, 1)) (hy0 : y ≠ 0) (hx : lR x) (hy : lR y)
    (h : qG Y w (pc + 1) lo (qJ (x.tmod y) :: st) c) : qG Y w pc lo (qJ y :: qJ x :: st) c := by
  intro p l e R s m args below meth cd D cs B H locs ls C hE hH hS hl hn
  refine lv_lrem (x := Int64.ofInt x) (y := Int64.ofInt y) C.1 C.2.1 hd (fun q => hy0 ((q_leq hy q_lr0).mp (q.trans q_l0))) ?_
  rw [q_lrem hx hy]
  exact h p l e R s m args below meth cd D cs B H locs ls C hE hH hS hl hn
theorem g_lcmp {x y : Int} (hd : decode Y.1.2.1 pc = .ok (.lcmp, 1)) (hx : lR x) (hy : lR y)
    (h : qG Y w (pc + 1) lo (qI (if y < x then 1 else if x = y then 0 else -1) :: st) c) : qG Y w pc lo (qJ y :: qJ x :: st) c := by
  intro p l e R s m args below meth cd D cs B H locs ls C hE hH hS hl hn
  refine W.lcmp (x := Int64.ofInt x) (y := Int64.ofInt y) C.1 C.2.1 hd ?_
  rw [q_cmp hx hy]
  exact h p l e R s m args below meth cd D cs B H locs ls C hE hH hS hl hn
theorem g_dup {v : qV} (hd : decode Y.1.2.1 pc = .ok (.dup, 1)) (hv : qcat v = 1)
    (h : qG Y w (pc + 1) lo (v :: v :: st) c) : qG Y w pc lo (v :: st) c := by
  intro p l e R s m args below meth cd D cs B H locs ls C hE hH hS hl hn
  refine lv_dup C.1 C.2.1 hd ((q_cat B v).trans hv) ?_
  exact h p l e R s m args below meth cd D cs B H locs ls C hE hH hS hl hn
theorem g_pop {v : qV} (hd : decode Y.1.2.1 pc = .ok (.pop, 1)) (hv : qcat v = 1)
    (h : qG Y w (pc + 1) lo st c) : qG Y w pc lo (v :: st) c := by
  intro p l e R s m args below meth cd D cs B H locs ls C hE hH hS hl hn
  refine lv_pop (va := qv B v) C.1 C.2.1 hd ((q_cat B v).trans hv) ?_
  exact h p l e R s m args below meth cd D cs B H locs ls C hE hH hS hl hn
theorem g_pop2 {v : qV} (hd : decode Y.1.2.1 pc = .ok (.pop2, 1)) (hv : qcat v = 2)
    (h : qG Y w (pc + 1) lo st c) : qG Y w pc lo (v :: st) c := by
  intro p l e R s m args below meth cd D cs B H locs ls C hE hH hS hl hn
  refine lv_pop2_2 (va := qv B v) C.1 C.2.1 hd ((q_cat B v).trans hv) ?_
  exact h p l e R s m args below meth cd D cs B H locs ls C hE hH hS hl hn
theorem g_dup_x1 {v u : qV} (hd : decode Y.1.2.1 pc = .ok (.dup_x1, 1)) (hv : qcat v = 1) (hu : qcat u = 1)
    (h : qG Y w (pc + 1) lo (v :: u :: v :: st) c) : qG Y w pc lo (v :: u :: st) c := by
  intro p l e R s m args below meth cd D cs B H locs ls C hE hH hS hl hn
  refine lv_dup_x1 C.1 C.2.1 hd ((q_cat B v).trans hv) ((q_cat B u).trans hu) ?_
  exact h p l e R s m args below meth cd D cs B H locs ls C hE hH hS hl hn
theorem g_dup_x2 {v u t : qV} (hd : decode Y.1.2.1 pc = .ok (.dup_x2, 1)) (hv : qcat v = 1) (hu : qcat u = 1) (ht : qcat t = 1)
    (h : qG Y w (pc + 1) lo (v :: u :: t :: v :: st) c) : qG Y w pc lo (v :: u :: t :: st) c := by
  intro p l e R s m args below meth cd D cs B H locs ls C hE hH hS hl hn
  refine lv_dup_x2 C.1 C.2.1 hd ((q_cat B v).trans hv) ((q_cat B u).trans hu) ((q_cat B t).trans ht) ?_
  exact h p l e R s m args below meth cd D cs B H locs ls C hE hH hS hl hn
theorem g_dup2 {v u : qV} (hd : decode Y.1.2.1 pc = .ok (.dup2, 1)) (hv : qcat v = 1) (hu : qcat u = 1)
    (h : qG Y w (pc + 1) lo (v :: u :: v :: u :: st) c) : qG Y w pc lo (v :: u :: st) c := by
  intro p l e R s m args below meth cd D cs B H locs ls C hE hH hS hl hn
  refine lv_dup2_11 C.1 C.2.1 hd ((q_cat B v).trans hv) ((q_cat B u).trans hu) ?_
  exact h p l e R s m args below meth cd D cs B H locs ls C hE hH hS hl hn
theorem g_dup2l {v : qV} (hd : decode Y.1.2.1 pc = .ok (.dup2, 1)) (hv : qcat v = 2)
    (h : qG Y w (pc + 1) lo (v :: v :: st) c) : qG Y w pc lo (v :: st) c := by
  intro p l e R s m args below meth cd D cs B H locs ls C hE hH hS hl hn
  refine lv_dup2_2 C.1 C.2.1 hd ((q_cat B v).trans hv) ?_
  exact h p l e R s m args below meth cd D cs B H locs ls C hE hH hS hl hn
theorem g_goto {off : Int} (tgt : Nat) (hd : decode Y.1.2.1 pc = .ok (.goto off, 3)) (ht : (pc : Int) + off = (tgt : Int)) (h : qG Y w tgt lo st c) : qG Y w pc lo st c := by
  intro p l e R s m args below meth cd D cs B H locs ls C hE hH hS hl hn
  refine lv_goto (tgt := tgt) C.1 C.2.1 hd ht ?_
  exact h p l e R s m args below meth cd D cs B H locs ls C hE hH hS hl hn
theorem g_icmp_eq {x y : Int} {off : Int} (tgt : Nat) (hd : decode Y.1.2.1 pc = .ok (.if_icmp .eq off, 3)) (ht : (pc : Int) + off = (tgt : Int)) (kt : x = y → qG Y w tgt lo st c) (kf : ¬ (x = y) → qG Y w (pc + 3) lo st c) (hx : iR x := by omega) (hy : iR y := by omega) : qG Y w pc lo (qI y :: qI x :: st) c := by
  intro p l e R s m args below meth cd D cs B H locs ls C hE hH hS hl hn
  refine lv_icmp_eq (x := Int32.ofInt x) (y := Int32.ofInt y) (tgt := tgt) C.1 C.2.1 hd ht (fun q => ?_) (fun q => ?_)
  · exact kt ((q_ieq hx hy).mp q) p l e R s m args below meth cd D cs B H locs ls C hE hH hS hl hn
  · exact kf (fun z => q ((q_ieq hx hy).mpr z)) p l e R s m args below meth cd D cs B H locs ls C hE hH hS hl hn
theorem g_if_eq {x : Int} {off : Int} (tgt : Nat) (hd : decode Y.1.2.1 pc = .ok (.ifCond .eq off, 3)) (ht : (pc : Int) + off = (tgt : Int)) (kt : x = 0 → qG Y w tgt lo st c) (kf : ¬ (x = 0) → qG Y w (pc + 3) lo st c) (hx : iR x := by omega) : qG Y w pc lo (qI x :: st) c := by
  intro p l e R s m args below meth cd D cs B H locs ls C hE hH hS hl hn
  refine lv_if_eq (x := Int32.ofInt x) (tgt := tgt) C.1 C.2.1 hd ht (fun q => ?_) (fun q => ?_)
  · exact kt ((q_ieq hx q_r0).mp (by rw [← q_i0]; exact q)) p l e R s m args below meth cd D cs B H locs ls C hE hH hS hl hn
  · exact kf (fun z => q (by rw [q_i0]; exact (q_ieq hx q_r0).mpr z)) p l e R s m args below meth cd D cs B H locs ls C hE hH hS hl hn
theorem g_icmp_ne {x y : Int} {off : Int} (tgt : Nat) (hd : decode Y.1.2.1 pc = .ok (.if_icmp .ne off, 3)) (ht : (pc : Int) + off = (tgt : Int)) (kt : ¬ x = y → qG Y w tgt lo st c) (kf : x = y → qG Y w (pc + 3) lo st c) (hx : iR x := by omega) (hy : iR y := by omega) : qG Y w pc lo (qI y :: qI x :: st) c := by
  intro p l e R s m args below meth cd D cs B H locs ls C hE hH hS hl hn
  refine lv_icmp_ne (x := Int32.ofInt x) (y := Int32.ofInt y) (tgt := tgt) C.1 C.2.1 hd ht (fun q => ?_) (fun q => ?_)
  · exact kt ((not_congr (q_ieq hx hy)).mp q) p l e R s m args below meth cd D cs B H locs ls C hE hH hS hl hn
  · exact kf ((q_ieq hx hy).mp q) p l e R s m args below meth cd D cs B H locs ls C hE hH hS hl hn
theorem g_if_ne {x : Int} {off : Int} (tgt : Nat) (hd : decode Y.1.2.1 pc = .ok (.ifCond .ne off, 3)) (ht : (pc : Int) + off = (tgt : Int)) (kt : ¬ x = 0 → qG Y w tgt lo st c) (kf : x = 0 → qG Y w (pc + 3) lo st c) (hx : iR x := by omega) : qG Y w pc lo (qI x :: st) c := by
  intro p l e R s m args below meth cd D cs B H locs ls C hE hH hS hl hn
  refine lv_if_ne (x := Int32.ofInt x) (tgt := tgt) C.1 C.2.1 hd ht (fun q => ?_) (fun q => ?_)
  · exact kt (fun z => q (((q_ieq hx q_r0).mpr z).trans q_i0.symm)) p l e R s m args below meth cd D cs B H locs ls C hE hH hS hl hn
  · exact kf ((q_ieq hx q_r0).mp (q.trans q_i0)) p l e R s m args below meth cd D cs B H locs ls C hE hH hS hl hn
theorem g_icmp_lt {x y : Int} {off : Int} (tgt : Nat) (hd : decode Y.1.2.1 pc = .ok (.if_icmp .lt off, 3)) (ht : (pc : Int) + off = (tgt : Int)) (kt : x < y → qG Y w tgt lo st c) (kf : ¬ (x < y) → qG Y w (pc + 3) lo st c) (hx : iR x := by omega) (hy : iR y := by omega) : qG Y w pc lo (qI y :: qI x :: st) c := by
  intro p l e R s m args below meth cd D cs B H locs ls C hE hH hS hl hn
  refine lv_icmp_lt (x := Int32.ofInt x) (y := Int32.ofInt y) (tgt := tgt) C.1 C.2.1 hd ht (fun q => ?_) (fun q => ?_)
  · exact kt ((q_ilt hx hy).mp q) p l e R s m args below meth cd D cs B H locs ls C hE hH hS hl hn
  · exact kf (fun z => q ((q_ilt hx hy).mpr z)) p l e R s m args below meth cd D cs B H locs ls C hE hH hS hl hn
theorem g_if_lt {x : Int} {off : Int} (tgt : Nat) (hd : decode Y.1.2.1 pc = .ok (.ifCond .lt off, 3)) (ht : (pc : Int) + off = (tgt : Int)) (kt : x < 0 → qG Y w tgt lo st c) (kf : ¬ (x < 0) → qG Y w (pc + 3) lo st c) (hx : iR x := by omega) : qG Y w pc lo (qI x :: st) c := by
  intro p l e R s m args below meth cd D cs B H locs ls C hE hH hS hl hn
  refine lv_if_lt (x := Int32.ofInt x) (tgt := tgt) C.1 C.2.1 hd ht (fun q => ?_) (fun q => ?_)
  · exact kt ((q_ilt hx q_r0).mp (by rw [← q_i0]; exact q)) p l e R s m args below meth cd D cs B H locs ls C hE hH hS hl hn
  · exact kf (fun z => q (by rw [q_i0]; exact (q_ilt hx q_r0).mpr z)) p l e R s m args below meth cd D cs B H locs ls C hE hH hS hl hn
theorem g_icmp_ge {x y : Int} {off : Int} (tgt : Nat) (hd : decode Y.1.2.1 pc = .ok (.if_icmp .ge off, 3)) (ht : (pc : Int) + off = (tgt : Int)) (kt : y ≤ x → qG Y w tgt lo st c) (kf : ¬ (y ≤ x) → qG Y w (pc + 3) lo st c) (hx : iR x := by omega) (hy : iR y := by omega) : qG Y w pc lo (qI y :: qI x :: st) c := by
  intro p l e R s m args below meth cd D cs B H locs ls C hE hH hS hl hn
  refine lv_icmp_ge (x := Int32.ofInt x) (y := Int32.ofInt y) (tgt := tgt) C.1 C.2.1 hd ht (fun q => ?_) (fun q => ?_)
  · exact kt ((q_ile hy hx).mp q) p l e R s m args below meth cd D cs B H locs ls C hE hH hS hl hn
  · exact kf (fun z => q ((q_ile hy hx).mpr z)) p l e R s m args below meth cd D cs B H locs ls C hE hH hS hl hn
theorem g_if_ge {x : Int} {off : Int} (tgt : Nat) (hd : decode Y.1.2.1 pc = .ok (.ifCond .ge off, 3)) (ht : (pc : Int) + off = (tgt : Int)) (kt : 0 ≤ x → qG Y w tgt lo st c) (kf : ¬ (0 ≤ x) → qG Y w (pc + 3) lo st c) (hx : iR x := by omega) : qG Y w pc lo (qI x :: st) c := by
  intro p l e R s m args below meth cd D cs B H locs ls C hE hH hS hl hn
  refine lv_if_ge (x := Int32.ofInt x) (tgt := tgt) C.1 C.2.1 hd ht (fun q => ?_) (fun q => ?_)
  · exact kt ((q_ile q_r0 hx).mp (by rw [← q_i0]; exact q)) p l e R s m args below meth cd D cs B H locs ls C hE hH hS hl hn
  · exact kf (fun z => q (by rw [q_i0]; exact (q_ile q_r0 hx).mpr z)) p l e R s m args below meth cd D cs B H locs ls C hE hH hS hl hn
theorem g_icmp_gt {x y : Int} {off : Int} (tgt : Nat) (hd : decode Y.1.2.1 pc = .ok (.if_icmp .gt off, 3)) (ht : (pc : Int) + off = (tgt : Int)) (kt : y < x → qG Y w tgt lo st c) (kf : ¬ (y < x) → qG Y w (pc + 3) lo st c) (hx : iR x := by omega) (hy : iR y := by omega) : qG Y w pc lo (qI y :: qI x :: st) c := by
  intro p l e R s m args below meth cd D cs B H locs ls C hE hH hS hl hn
  refine lv_icmp_gt (x := Int32.ofInt x) (y := Int32.ofInt y) (tgt := tgt) C.1 C.2.1 hd ht (fun q => ?_) (fun q => ?_)
  · exact kt ((q_ilt hy hx).mp q) p l e R s m args below meth cd D cs B H locs ls C hE hH hS hl hn
  · exact kf (fun z => q ((q_ilt hy hx).mpr z)) p l e R s m args below meth cd D cs B H locs ls C hE hH hS hl hn
theorem g_if_gt {x : Int} {off : Int} (tgt : Nat) (hd : decode Y.1.2.1 pc = .ok (.ifCond .gt off, 3)) (ht : (pc : Int) + off = (tgt : Int)) (kt : 0 < x → qG Y w tgt lo st c) (kf : ¬ (0 < x) → qG Y w (pc + 3) lo st c) (hx : iR x := by omega) : qG Y w pc lo (qI x :: st) c := by
  intro p l e R s m args below meth cd D cs B H locs ls C hE hH hS hl hn
  refine lv_if_gt (x := Int32.ofInt x) (tgt := tgt) C.1 C.2.1 hd ht (fun q => ?_) (fun q => ?_)
  · exact kt ((q_ilt q_r0 hx).mp (by rw [← q_i0]; exact q)) p l e R s m args below meth cd D cs B H locs ls C hE hH hS hl hn
  · exact kf (fun z => q (by rw [q_i0]; exact (q_ilt q_r0 hx).mpr z)) p l e R s m args below meth cd D cs B H locs ls C hE hH hS hl hn
theorem g_icmp_le {x y : Int} {off : Int} (tgt : Nat) (hd : decode Y.1.2.1 pc = .ok (.if_icmp .le off, 3)) (ht : (pc : Int) + off = (tgt : Int)) (kt : x ≤ y → qG Y w tgt lo st c) (kf : ¬ (x ≤ y) → qG Y w (pc + 3) lo st c) (hx : iR x := by omega) (hy : iR y := by omega) : qG Y w pc lo (qI y :: qI x :: st) c := by
  intro p l e R s m args below meth cd D cs B H locs ls C hE hH hS hl hn
  refine lv_icmp_le (x := Int32.ofInt x) (y := Int32.ofInt y) (tgt := tgt) C.1 C.2.1 hd ht (fun q => ?_) (fun q => ?_)
  · exact kt ((q_ile hx hy).mp q) p l e R s m args below meth cd D cs B H locs ls C hE hH hS hl hn
  · exact kf (fun z => q ((q_ile hx hy).mpr z)) p l e R s m args below meth cd D cs B H locs ls C hE hH hS hl hn
theorem g_if_le {x : Int} {off : Int} (tgt : Nat) (hd : decode Y.1.2.1 pc = .ok (.ifCond .le off, 3)) (ht : (pc : Int) + off = (tgt : Int)) (kt : x ≤ 0 → qG Y w tgt lo st c) (kf : ¬ (x ≤ 0) → qG Y w (pc + 3) lo st c) (hx : iR x := by omega) : qG Y w pc lo (qI x :: st) c := by
  intro p l e R s m args below meth cd D cs B H locs ls C hE hH hS hl hn
  refine lv_if_le (x := Int32.ofInt x) (tgt := tgt) C.1 C.2.1 hd ht (fun q => ?_) (fun q => ?_)
  · exact kt ((q_ile hx q_r0).mp (by rw [← q_i0]; exact q)) p l e R s m args below meth cd D cs B H locs ls C hE hH hS hl hn
  · exact kf (fun z => q (by rw [q_i0]; exact (q_ile hx q_r0).mpr z)) p l e R s m args below meth cd D cs B H locs ls C hE hH hS hl hn
theorem g_lif_eq {x y : Int} {off : Int} (tgt : Nat) (hd : decode Y.1.2.1 pc = .ok (.lcmp, 1)) (hd2 : decode Y.1.2.1 (pc + 1) = .ok (.ifCond .eq off, 3)) (ht : ((pc + 1 : Nat) : Int) + off = (tgt : Int)) (kt : x = y → qG Y w tgt lo st c) (kf : ¬ (x = y) → qG Y w (pc + 1 + 3) lo st c) (hx : lR x := by omega) (hy : lR y := by omega) : qG Y w pc lo (qJ y :: qJ x :: st) c := by
  refine g_lcmp hd hx hy (g_if_eq tgt hd2 ht (fun q => kt ?_) (fun q => kf ?_) ?_)
  · split at q <;> first | omega | (split at q <;> omega)
  · split at q <;> first | omega | (split at q <;> omega)
  · split <;> first | omega | (split <;> omega)
theorem g_lif_ne {x y : Int} {off : Int} (tgt : Nat) (hd : decode Y.1.2.1 pc = .ok (.lcmp, 1)) (hd2 : decode Y.1.2.1 (pc + 1) = .ok (.ifCond .ne off, 3)) (ht : ((pc + 1 : Nat) : Int) + off = (tgt : Int)) (kt : ¬ x = y → qG Y w tgt lo st c) (kf : x = y → qG Y w (pc + 1 + 3) lo st c) (hx : lR x := by omega) (hy : lR y := by omega) : qG Y w pc lo (qJ y :: qJ x :: st) c := by
  refine g_lcmp hd hx hy (g_if_ne tgt hd2 ht (fun q => kt ?_) (fun q => kf ?_) ?_)
  · split at q <;> first | omega | (split at q <;> omega)
  · split at q <;> first | omega | (split at q <;> omega)
  · split <;> first | omega | (split <;> omega)
theorem g_lif_lt {x y : Int} {off : Int} (tgt : Nat) (hd : decode Y.1.2.1 pc = .ok (.lcmp, 1)) (hd2 : decode Y.1.2.1 (pc + 1) = .ok (.ifCond .lt off, 3)) (ht : ((pc + 1 : Nat) : Int) + off = (tgt : Int)) (kt : x < y → qG Y w tgt lo st c) (kf : ¬ (x < y) → qG Y w (pc + 1 + 3) lo st c) (hx : lR x := by omega) (hy : lR y := by omega) : qG Y w pc lo (qJ y :: qJ x :: st) c := by
  refine g_lcmp hd hx hy (g_if_lt tgt hd2 ht (fun q => kt ?_) (fun q => kf ?_) ?_)
  · split at q <;> first | omega | (split at q <;> omega)
  · split at q <;> first | omega | (split at q <;> omega)
  · split <;> first | omega | (split <;> omega)
theorem g_lif_ge {x y : Int} {off : Int} (tgt : Nat) (hd : decode Y.1.2.1 pc = .ok (.lcmp, 1)) (hd2 : decode Y.1.2.1 (pc + 1) = .ok (.ifCond .ge off, 3)) (ht : ((pc + 1 : Nat) : Int) + off = (tgt : Int)) (kt : y ≤ x → qG Y w tgt lo st c) (kf : ¬ (y ≤ x) → qG Y w (pc + 1 + 3) lo st c) (hx : lR x := by omega) (hy : lR y := by omega) : qG Y w pc lo (qJ y :: qJ x :: st) c := by
  refine g_lcmp hd hx hy (g_if_ge tgt hd2 ht (fun q => kt ?_) (fun q => kf ?_) ?_)
  · split at q <;> first | omega | (split at q <;> omega)
  · split at q <;> first | omega | (split at q <;> omega)
  · split <;> first | omega | (split <;> omega)
theorem g_lif_gt {x y : Int} {off : Int} (tgt : Nat) (hd : decode Y.1.2.1 pc = .ok (.lcmp, 1)) (hd2 : decode Y.1.2.1 (pc + 1) = .ok (.ifCond .gt off, 3)) (ht : ((pc + 1 : Nat) : Int) + off = (tgt : Int)) (kt : y < x → qG Y w tgt lo st c) (kf : ¬ (y < x) → qG Y w (pc + 1 + 3) lo st c) (hx : lR x := by omega) (hy : lR y := by omega) : qG Y w pc lo (qJ y :: qJ x :: st) c := by
  refine g_lcmp hd hx hy (g_if_gt tgt hd2 ht (fun q => kt ?_) (fun q => kf ?_) ?_)
  · split at q <;> first | omega | (split at q <;> omega)
  · split at q <;> first | omega | (split at q <;> omega)
  · split <;> first | omega | (split <;> omega)
theorem g_lif_le {x y : Int} {off : Int} (tgt : Nat) (hd : decode Y.1.2.1 pc = .ok (.lcmp, 1)) (hd2 : decode Y.1.2.1 (pc + 1) = .ok (.ifCond .le off, 3)) (ht : ((pc + 1 : Nat) : Int) + off = (tgt : Int)) (kt : x ≤ y → qG Y w tgt lo st c) (kf : ¬ (x ≤ y) → qG Y w (pc + 1 + 3) lo st c) (hx : lR x := by omega) (hy : lR y := by omega) : qG Y w pc lo (qJ y :: qJ x :: st) c := by
  refine g_lcmp hd hx hy (g_if_le tgt hd2 ht (fun q => kt ?_) (fun q => kf ?_) ?_)
  · split at q <;> first | omega | (split at q <;> omega)
  · split at q <;> first | omega | (split at q <;> omega)
  · split <;> first | omega | (split <;> omega)
theorem g_tableOut {x dflt lo0 hi : Int} {offs : Array Int} {len : Nat} (tgt : Nat) (hd : decode Y.1.2.1 pc = .ok (.tableswitch dflt lo0 hi offs, len)) (ho : x < lo0 ∨ hi < x) (ht : (pc : Int) + dflt = (tgt : Int)) (h : qG Y w tgt lo st c) (hx : iR x := by omega) : qG Y w pc lo (qI x :: st) c := by
  intro p l e R s m args below meth cd D cs B H locs ls C hE hH hS hl hn
  refine lv_tableOut (x := Int32.ofInt x) (tgt := tgt) C.1 C.2.1 hd (by rw [q_it hx]; exact ho) ht ?_
  exact h p l e R s m args below meth cd D cs B H locs ls C hE hH hS hl hn
theorem g_tableIn {x dflt lo0 hi off : Int} {offs : Array Int} {len : Nat} (tgt : Nat) (hd : decode Y.1.2.1 pc = .ok (.tableswitch dflt lo0 hi offs, len)) (h1 : ¬ x < lo0) (h2 : ¬ hi < x) (ho : offs[(x - lo0).toNat]? = some off) (ht : (pc : Int) + off = (tgt : Int)) (h : qG Y w tgt lo st c) (hx : iR x := by omega) : qG Y w pc lo (qI x :: st) c := by
  intro p l e R s m args below meth cd D cs B H locs ls C hE hH hS hl hn
  refine lv_tableIn (x := Int32.ofInt x) (tgt := tgt) C.1 C.2.1 hd (by rw [q_it hx]; exact h1) (by rw [q_it hx]; exact h2) (by rw [q_it hx]; exact ho) ht ?_
  exact h p l e R s m args below meth cd D cs B H locs ls C hE hH hS hl hn
theorem g_lookup {x dflt off : Int} {ps : Array (Int × Int)} {len : Nat} (tgt : Nat) (hd : decode Y.1.2.1 pc = .ok (.lookupswitch dflt ps, len)) (hp : (ps.toList.zip (ps.toList.drop 1)).all (fun (a, next) => a.1 < next.1) = true) (ho : Op.lookupswitch.offset ps.toList dflt x = off) (ht : (pc : Int) + off = (tgt : Int)) (h : qG Y w tgt lo st c) (hx : iR x := by omega) : qG Y w pc lo (qI x :: st) c := by
  intro p l e R s m args below meth cd D cs B H locs ls C hE hH hS hl hn
  refine lv_lookup (x := Int32.ofInt x) (tgt := tgt) C.1 C.2.1 hd hp (by rw [q_it hx]; exact ho) ht ?_
  exact h p l e R s m args below meth cd D cs B H locs ls C hE hH hS hl hn
theorem g_iaload {a n : Nat} {i : Int} (hd : decode Y.1.2.1 pc = .ok (.iaload, 1)) (hL : w.1 a = .inl (0, n)) (ha : a < w.2.1) (h : qG Y w (pc + 1) lo (qI (c a i) :: st) c) (h0 : 0 ≤ i := by omega) (h1 : i < (n : Int) := by omega) (hn0 : n < 2147483648 := by decide) : qG Y w pc lo (qI i :: qP a :: st) c := by
  intro p l e R s m args below meth cd D cs B H locs ls C hE hH hS hl hn
  refine va_iald (D := D) (cl := qcl) (tys := qtys cs) C.1 C.2.1 C.2.2.2.2.2.2.2.1 (hH.one ha hL) 0 0 rfl rfl (q_in h0 h1 hn0) hd ?_
  rw [q_cl h0 (by omega)]
  have ei : ((i.toNat : Nat) : Int) = i := by omega
  show W p l e R s m args below meth cd H locs _ _ _ (F0 m (pc + 1) ls (qv B (qI (c a ((i.toNat : Nat) : Int))) :: st.map (qv B)))
  rw [ei]
  exact h p l e R s m args below meth cd D cs B H locs ls C hE hH hS hl hn
theorem g_laload {a n : Nat} {i : Int} (hd : decode Y.1.2.1 pc = .ok (.laload, 1)) (hL : w.1 a = .inl (1, n)) (ha : a < w.2.1) (h : qG Y w (pc + 1) lo (qJ (c a i) :: st) c) (h0 : 0 ≤ i := by omega) (h1 : i < (n : Int) := by omega) (hn0 : n < 2147483648 := by decide) : qG Y w pc lo (qI i :: qP a :: st) c := by
  intro p l e R s m args below meth cd D cs B H locs ls C hE hH hS hl hn
  refine va_lald (D := D) (cl := qcl) (tys := qtys cs) C.1 C.2.1 C.2.2.2.2.2.2.2.1 (hH.one ha hL) 0 1 rfl rfl (q_in h0 h1 hn0) hd ?_
  rw [q_cl h0 (by omega)]
  have ei : ((i.toNat : Nat) : Int) = i := by omega
  show W p l e R s m args below meth cd H locs _ _ _ (F0 m (pc + 1) ls (qv B (qJ (c a ((i.toNat : Nat) : Int))) :: st.map (qv B)))
  rw [ei]
  exact h p l e R s m args below meth cd D cs B H locs ls C hE hH hS hl hn
theorem g_baload {a n : Nat} {i : Int} (hd : decode Y.1.2.1 pc = .ok (.baload, 1)) (hL : w.1 a = .inl (2, n)) (ha : a < w.2.1) (h : qG Y w (pc + 1) lo (qI (c a i) :: st) c) (h0 : 0 ≤ i := by omega) (h1 : i < (n : Int) := by omega) (hn0 : n < 2147483648 := by decide) : qG Y w pc lo (qI i :: qP a :: st) c := by
  intro p l e R s m args below meth cd D cs B H locs ls C hE hH hS hl hn
  refine va_zald (D := D) (cl := qcl) (tys := qtys cs) C.1 C.2.1 C.2.2.2.2.2.2.2.1 (hH.one ha hL) 0 2 rfl rfl (q_in h0 h1 hn0) hd ?_
  rw [q_cl h0 (by omega)]
  have ei : ((i.toNat : Nat) : Int) = i := by omega
  show W p l e R s m args below meth cd H locs _ _ _ (F0 m (pc + 1) ls (qv B (qI (c a ((i.toNat : Nat) : Int))) :: st.map (qv B)))
  rw [ei]
  exact h p l e R s m args below meth cd D cs B H locs ls C hE hH hS hl hn
theorem q_put {A : Nat → Prop} {H0 H H1 : Heap} {locs : List Loc} {a k : Nat} (h : va_S A H0 H locs) (z : H1.size = H.size) (oq : ∀ q : Nat, q ≠ a → H1[q]? = H[q]?) (ha : A a) : va_S A H0 H1 (locs ++ [⟨a, k⟩]) := h.put z oq ha
theorem g_iastore {a n : Nat} {i x : Int} (hd : decode Y.1.2.1 pc = .ok (.iastore, 1)) (hL : w.1 a = .inl (0, n)) (ha : a < w.2.1) (h : qG Y w (pc + 1) lo st (qu c a i x)) (h0 : 0 ≤ i := by omega) (h1 : i < (n : Int) := by omega) (hn0 : n < 2147483648 := by decide) : qG Y w pc lo (qI x :: qI i :: qP a :: st) c := by
  intro p l e R s m args below meth cd D cs B H locs ls C hE hH hS hl hn
  have hc : H[B + a]? = some (arrV cs.1 n (fun j => .int (Int32.ofInt (c a j)))) := by
    have := hH.2 a ha
    rw [hL] at this
    exact this
  refine W.iast (a := B + a) (j := Int32.ofInt i) C.1 C.2.1 hc ((C.2.2.2.2.2.2.2.1.2 0 _ rfl).1 n _) (fun q => by cases q) (by rw [arrV_size]; exact q_in h0 h1 hn0) rfl rfl hd fun H1 e1 z1 o1 => ?_
  refine h p l e R s m args below meth cd D cs B H1 _ ls C hE (hH.set (k := a) z1 o1 ?_ (fun j hj => ⟨qu_ne hj, rfl⟩)) (hS.put z1 o1 (by show B ≤ B + a; omega)) hl hn
  rw [hL]
  show H1[B + a]? = some (arrV cs.1 n (fun j => .int (Int32.ofInt (qu c a i x a j))))
  rw [e1, q_cl h0 (by omega), arrV_store]
  congr 2
  funext j
  by_cases hj : j = i.toNat
  · have ei : (j : Int) = i := by omega
    have ej : i.toNat = j := hj.symm
    simp [updV, qu, ei, ej]
  · have e : ¬ (j : Int) = i := by omega
    simp [updV, hj, qu, e]
theorem g_lastore {a n : Nat} {i x : Int} (hd : decode Y.1.2.1 pc = .ok (.lastore, 1)) (hL : w.1 a = .inl (1, n)) (ha : a < w.2.1) (h : qG Y w (pc + 1) lo st (qu c a i x)) (h0 : 0 ≤ i := by omega) (h1 : i < (n : Int) := by omega) (hn0 : n < 2147483648 := by decide) : qG Y w pc lo (qJ x :: qI i :: qP a :: st) c := by
  intro p l e R s m args below meth cd D cs B H locs ls C hE hH hS hl hn
  have hc : H[B + a]? = some (arrV cs.2.1 n (fun j => .long (Int64.ofInt (c a j)))) := by
    have := hH.2 a ha
    rw [hL] at this
    exact this
  refine W.last (a := B + a) (j := Int32.ofInt i) C.1 C.2.1 hc ((C.2.2.2.2.2.2.2.1.2 1 _ rfl).1 n _) (fun q => by cases q) (by rw [arrV_size]; exact q_in h0 h1 hn0) rfl rfl hd fun H1 e1 z1 o1 => ?_
  refine h p l e R s m args below meth cd D cs B H1 _ ls C hE (hH.set (k := a) z1 o1 ?_ (fun j hj => ⟨qu_ne hj, rfl⟩)) (hS.put z1 o1 (by show B ≤ B + a; omega)) hl hn
  rw [hL]
  show H1[B + a]? = some (arrV cs.2.1 n (fun j => .long (Int64.ofInt (qu c a i x a j))))
  rw [e1, q_cl h0 (by omega), arrV_store]
  congr 2
  funext j
  by_cases hj : j = i.toNat
  · have ei : (j : Int) = i := by omega
    have ej : i.toNat = j := hj.symm
    simp [updV, qu, ei, ej]
  · have e : ¬ (j : Int) = i := by omega
    simp [updV, hj, qu, e]
theorem g_bastore {a n : Nat} {i x : Int} (hd : decode Y.1.2.1 pc = .ok (.bastore, 1)) (hL : w.1 a = .inl (2, n)) (ha : a < w.2.1) (hb : x = 0 ∨ x = 1) (h : qG Y w (pc + 1) lo st (qu c a i x)) (h0 : 0 ≤ i := by omega) (h1 : i < (n : Int) := by omega) (hn0 : n < 2147483648 := by decide) : qG Y w pc lo (qI x :: qI i :: qP a :: st) c := by
  intro p l e R s m args below meth cd D cs B H locs ls C hE hH hS hl hn
  have hnar : narrow .boolean (.int (Int32.ofInt x)) = .int (Int32.ofInt x) := by rcases hb with rfl | rfl <;> decide
  have hc : H[B + a]? = some (arrV cs.2.2.1 n (fun j => .int (Int32.ofInt (c a j)))) := by
    have := hH.2 a ha
    rw [hL] at this
    exact this
  refine W.zast (a := B + a) (j := Int32.ofInt i) C.1 C.2.1 hc ((C.2.2.2.2.2.2.2.1.2 2 _ rfl).1 n _) (fun q => by cases q) (by rw [arrV_size]; exact q_in h0 h1 hn0) rfl rfl hd fun H1 e1 z1 o1 => ?_
  rw [hnar] at e1
  refine h p l e R s m args below meth cd D cs B H1 _ ls C hE (hH.set (k := a) z1 o1 ?_ (fun j hj => ⟨qu_ne hj, rfl⟩)) (hS.put z1 o1 (by show B ≤ B + a; omega)) hl hn
  rw [hL]
  show H1[B + a]? = some (arrV cs.2.2.1 n (fun j => .int (Int32.ofInt (qu c a i x a j))))
  rw [e1, q_cl h0 (by omega), arrV_store]
  congr 2
  funext j
  by_cases hj : j = i.toNat
  · have ei : (j : Int) = i := by omega
    have ej : i.toNat = j := hj.symm
    simp [updV, qu, ei, ej]
  · have e : ¬ (j : Int) = i := by omega
    simp [updV, hj, qu, e]
theorem g_aaload {a n b : Nat} {f : Nat → Option Nat} {i : Int} (hd : decode Y.1.2.1 pc = .ok (.aaload, 1)) (hL : w.1 a = .inr (.inl (n, f))) (ha : a < w.2.1) (hf : f i.toNat = some b) (h : qG Y w (pc + 1) lo (qP b :: st) c) (h0 : 0 ≤ i := by omega) (h1 : i < (n : Int) := by omega) (hn0 : n < 2147483648 := by decide) : qG Y w pc lo (qI i :: qP a :: st) c := by
  intro p l e R s m args below meth cd D cs B H locs ls C hE hH hS hl hn
  refine va_aldq (D := D) (cl := qcl) (tys := qtys cs) (C := qgr) C.1 C.2.1 C.2.2.2.2.2.2.2.1 (hH.one ha hL) 0 3 rfl rfl (q_in h0 h1 hn0) hd ?_
  rw [q_cl h0 (by omega), hf]
  exact h p l e R s m args below meth cd D cs B H locs ls C hE hH hS hl hn
end QG
