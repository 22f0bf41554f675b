theorem w_all : ∀ w ∈ qALL, w ∈ lw_tbl := fun w hw => (List.mem_filter.mp hw).1
theorem w_nz : ∀ w ∈ qNZ, w ∈ lw_tbl := fun w hw => (List.mem_filter.mp hw).1
theorem w_int {s : State} {args : Array Value} (h : (Cond.arrayClass .int).before args s = true) : ∃ c : ClassId, ArrOfT s c .int ∧ va_RA s c .int := by
  obtain ⟨c, k, comp, h1, h2, h3⟩ := Cond.arrayClass_spec h
  exact ⟨c, fun n z => ⟨fun k h => (by cases h), k, h2, comp, h3⟩, h1⟩
theorem w_long {s : State} {args : Array Value} (h : (Cond.arrayClass .long).before args s = true) : ∃ c : ClassId, ArrOfT s c .long ∧ va_RA s c .long := by
  obtain ⟨c, k, comp, h1, h2, h3⟩ := Cond.arrayClass_spec h
  exact ⟨c, fun n z => ⟨fun k h => (by cases h), k, h2, comp, h3⟩, h1⟩
theorem w_bool {s : State} {args : Array Value} (h : (Cond.arrayClass .boolean).before args s = true) : ∃ c : ClassId, ArrOfT s c .boolean ∧ va_RA s c .boolean := by
  obtain ⟨c, k, comp, h1, h2, h3⟩ := Cond.arrayClass_spec h
  exact ⟨c, fun n z => ⟨fun k h => (by cases h), k, h2, comp, h3⟩, h1⟩
theorem w_over {s : State} {args : Array Value} (h : (Cond.arrayOver (.object qgr)).before args s = true) : ∃ c : ClassId, ArrOfT s c (.object qgr) ∧ va_RA s c (.object qgr) := by
  obtain ⟨comp, c, k, h1, h2, h3, h4, h5⟩ := Cond.arrayOver_spec h
  exact ⟨c, fun n z => ⟨fun k h => (by cases h), k, h3, comp, h4⟩, k, comp, h3, h4, h1, h5⟩
theorem w_known {s : State} {args : Array Value} (hts : ∀ w ∈ qALL, w.before args s = true) (hO : (Cond.arrayOver (.object qgr)).before args s = true) : ∃ (D : va_G) (cs : qS), va_K D qcl (qtys cs) s := by
  obtain ⟨d0, i0, kn0⟩ := u_known (C := RX0) (T := TX0) (N := 6) hts fin0 (hts (.instantiable RX0 6) (q_mem 102 (by decide +kernel) (by decide +kernel)))
  obtain ⟨d1, i1, kn1⟩ := u_known (C := RX1) (T := TX1) (N := 3) hts fin1 (hts (.instantiable RX1 3) (q_mem 130 (by decide +kernel) (by decide +kernel)))
  obtain ⟨d2, i2, kn2⟩ := u_known (C := RX2) (T := TX2) (N := 2) hts fin2 (hts (.instantiable RX2 2) (q_mem 154 (by decide +kernel) (by decide +kernel)))
  obtain ⟨d3, i3, kn3⟩ := u_known (C := RX3) (T := TX3) (N := 4) hts fin3 (hts (.instantiable RX3 4) (q_mem 51 (by decide +kernel) (by decide +kernel)))
  obtain ⟨d4, i4, kn4⟩ := u_known (C := RX4) (T := TX4) (N := 12) hts fin4 (hts (.instantiable RX4 12) (q_mem 148 (by decide +kernel) (by decide +kernel)))
  obtain ⟨d5, i5, kn5⟩ := u_known (C := RX5) (T := TX5) (N := 7) hts fin5 (hts (.instantiable RX5 7) (q_mem 73 (by decide +kernel) (by decide +kernel)))
  obtain ⟨d6, i6, kn6⟩ := u_known (C := RX6) (T := TX6) (N := 4) hts fin6 (hts (.instantiable RX6 4) (q_mem 20 (by decide +kernel) (by decide +kernel)))
  obtain ⟨d7, i7, kn7⟩ := u_known (C := RX7) (T := TX7) (N := 7) hts fin7 (hts (.instantiable RX7 7) (q_mem 12 (by decide +kernel) (by decide +kernel)))
  obtain ⟨d8, i8, kn8⟩ := u_known (C := RX8) (T := TX8) (N := 29) hts fin8 (hts (.instantiable RX8 29) (q_mem 595 (by decide +kernel) (by decide +kernel)))
  obtain ⟨c1, f1, g1⟩ := w_int (hts _ qa_I)
  obtain ⟨c2, f2, g2⟩ := w_long (hts _ qa_J)
  obtain ⟨c3, f3, g3⟩ := w_bool (hts _ qa_Z)
  obtain ⟨c4, f4, g4⟩ := w_over hO
  refine ⟨(fun k => [d0, d1, d2, d3, d4, d5, d6, d7, d8].getD k d0, fun k => [i0, i1, i2, i3, i4, i5, i6, i7, i8].getD k i0), (c1, c2, c3, c4), fun k q hq => ?_, fun k q hq => ?_⟩
  · match k, hq with
    | 0, hq => cases hq; exact kn0
    | 1, hq => cases hq; exact kn1
    | 2, hq => cases hq; exact kn2
    | 3, hq => cases hq; exact kn3
    | 4, hq => cases hq; exact kn4
    | 5, hq => cases hq; exact kn5
    | 6, hq => cases hq; exact kn6
    | 7, hq => cases hq; exact kn7
    | 8, hq => cases hq; exact kn8
    | k + 9, hq => cases hq
  · match k, hq with
    | 0, hq => cases hq; exact ⟨f1, g1⟩
    | 1, hq => cases hq; exact ⟨f2, g2⟩
    | 2, hq => cases hq; exact ⟨f3, g3⟩
    | 3, hq => cases hq; exact ⟨f4, g4⟩
    | k + 4, hq => cases hq
/-- from the entry -/
theorem whole_start {p : Program} {e : Env} {s : State} {m : MethodId} {below : List Frame} {meth : Method} {c : Code} (l : Launch) {b L : Nat} {xs : Nat → Int32} (hL : L ≤ 2560) (C0 : lw_At p s m meth c b L xs) : W p l e room_1 s m #[Value.ref b] below meth c s.heap [] 0 0 (lw_Z below #[Value.ref b] s) (entryFrame m ([Value.ref b] : List Value).toArray 4) := by
  obtain ⟨hx, hb, hr, hml, hown, hts, hX, hbl, hlk, hgv⟩ := C0
  have hts2 : ∀ w ∈ qALL, w.before #[Value.ref b] s = true := fun w hw => hts w (w_all w hw)
  obtain ⟨D, cs, hK⟩ := w_known hts2 (hts _ (w_nz _ qa_O))
  have hl := lv_entry [Value.ref b] (n := 4) (Nat.le_of_ble_eq_true rfl)
  rw [lg_entry_eq]
  generalize (lg_sl [Value.ref b] ++ List.replicate (4 - (lg_sl [Value.ref b]).length) Slot.unset).toArray = ls at hl ⊢
  refine law_all (nm := meth.name) hL p l e room_1 s m #[Value.ref b] below meth c D cs s.heap.size s.heap [] ls ⟨hx, hb, hr, hml, hown, hts2, fun w hw => ?_, hK, hlk, rfl, Nat.le_refl _, Nat.le_of_ble_eq_true rfl, Nat.le_of_ble_eq_true rfl, Nat.le_of_ble_eq_true rfl, Nat.le_of_ble_eq_true rfl⟩ ⟨rfl, hX, hbl, rfl⟩ ⟨rfl, fun k hk => absurd hk (Nat.not_lt_zero k)⟩ va_S.rf ?_ hl.1
  · exact q_nw hw (hts w (w_nz w hw))
  · refine qLs.of hl (fun i v hi => ?_)
    match i, hi with
    | 0, hi => cases hi; exact List.mem_cons_self
    | 1, hi => cases hi
    | 2, hi => cases hi
    | 3, hi => cases hi
set_option maxHeartbeats 4000000 in
theorem lw_walk (l : Launch) (b : Addr) (xs : List Int32) : MetFree l x (headSpec (Jvm.Cond.code x code maxLocals ret :: tables_1) room_1) (lw_P b xs) (fun _ _ _ _ _ => True) lw_Q := by
  refine MetFree.of_bodyS (code := code) (maxLocals := maxLocals) (ret := ret) (by decide) ?_ ?_
  · intro args s m h hn
    obtain ⟨meth, c, h1, h2, h3, h4, h5, h6, -, -⟩ := Cond.code_spec hn (atoms_spec (ws := Jvm.Cond.code x code maxLocals ret :: tables_1) h _ List.mem_cons_self)
    exact ⟨meth, c, h1, h2, h3, h4, h5, h6⟩
  · intro p e s m args below meth c s₁ B hml0 hP _
    obtain ⟨rfl, hx, hbd, hgv⟩ := hP
    obtain ⟨scr, harrAt, hlist, hof, hsmall⟩ := hx
    obtain ⟨hcb, hkn, -, -⟩ := State.arrayAt?_spec harrAt
    have hown : s.vm.findClass R_law = some m.cls := findClass_of_methodNamed B.named
    have hts0 : ∀ c ∈ (Jvm.Cond.code x code maxLocals ret :: tables_1), c.before #[Value.ref b] s = true := atoms_spec (ws := Jvm.Cond.code x code maxLocals ret :: tables_1) B.pre
    have hts : ∀ w ∈ lw_tbl, w.before #[Value.ref b] s = true := k2_hts_sels lw_privs (fun w hw => hts0 w (List.mem_cons_of_mem _ hw)) lw_privs_ok
    have hml : c.maxLocals = 4 := B.maxLocals_eq (hts0 _ List.mem_cons_self)
    have X₀ : Stand p l e room_1 s m #[Value.ref b] below meth c s₁ [] 0 0 := Stand.of_body B
    have hh0 : s₁.heap = s.heap := by rw [B.state]; rfl
    have hsz : scr.slots.size = xs.length := by rw [← Array.length_toList, hlist, List.length_map]
    have hval : ∀ j : Nat, j < xs.length → scr.slots[j]? = some (.int (xs.getD j 0)) := fun j hj => by
      rw [← Array.getElem?_toList, hlist]
      simp [hj]
    have hbl : b < s.heap.size := (Array.getElem?_eq_some_iff.mp hcb).1
    have hX : va_X b xs.length (fun j => xs.getD j 0) s s.heap := ⟨scr, hcb, hof, hkn, hsz, hval⟩
    have K : W p l e room_1 s m #[Value.ref b] below meth c s₁.heap [] 0 0 (lw_Z below #[Value.ref b] s) (entryFrame m ([Value.ref b] : List Value).toArray 4) := by
      rw [hh0]
      exact whole_start l hbd ⟨B.exec, B.bytes, B.returns, hml, hown, hts, hX, hbl, B.notSynchronized, hgv⟩
    obtain ⟨t, a1, o, b1, b2, b3⟩ := K s₁ rfl X₀
    exact ⟨t, o, a1, b1, b2, b3⟩
theorem lw_pre_spec {args : Array Value} {s : State} (h : (Jvm.Cond.and given_1 narrow_1).before args s = true) (hr : rest_1_c.before args s = true) : ∃ (b : Addr) (xs : List Int32), lw_P b xs args s := by
  have hs := flat_of_before _ h
  have hq := flat_of_before _ hr
  have hc : (Cond.count 1).before args s = true := hs _ (by decide +kernel)
  have harr : (Cond.arrayOf (.arg 0) .int).before args s = true := hs _ (by decide +kernel)
  have hle : (Cond.le (.length (.arg 0)) (.int 2560)).before args s = true := hs _ (by decide +kernel)
  have hlen : (Cond.isInt (.length (.arg 0))).before args s = true := hq _ (by decide +kernel)
  have hall : (Cond.all (.arg 0) (.isInt (.elem (.arg 0) (.index 0)))).before args s = true := hq _ (by decide +kernel)
  obtain ⟨b, xs, hb, hx⟩ := State.ints_of_pre rfl harr hlen hall
  have hsm : xs.length < 2 ^ 31 := hx.choose_spec.2.2.2
  have hev : (Term.length (.arg 0)).eval args s none [] s = some (.int xs.length.toInt32) := hx.length_eval hb
  have hv := Cond.le_ints hev (show (Term.int 2560).eval args s none [] s = some (.int 2560) from rfl)
  have hd : xs.length.toInt32 ≤ 2560 := by
    simpa [Cond.before, Cond.holds, hv] using hle
  have hN : xs.length ≤ 2560 := (Int32.ofNat_le_ofNat hsm (by decide)).mp (show Int32.ofNat xs.length ≤ Int32.ofNat 2560 from hd)
  exact ⟨b, xs, Cond.one_arg hc (show args[0]? = some (.ref b) from hb), hx, hN, h⟩
theorem lw_comes (l : Launch) : Comes l x (Jvm.Cond.code x code maxLocals ret :: tables_1) room_1 (fun tb e args s => Calls_1 tb e args s ∧ rest_1 tb e args s ∧ Pre_1 tb e args s)
    (fun _ _ args s o t => lw_Q args s o t) := by
  intro p e ha hc hk s m args below hf hfit hheap happ hpre
  obtain ⟨b, xs, hP⟩ := lw_pre_spec hpre.2.2 hpre.2.1
  obtain ⟨k, o, h1, h2, h3, hQ⟩ := lw_walk l b xs p e ha hc hk s m args below hf ((Spec.applies_iff_loose hf).mp happ).1 hP trivial
  exact ⟨k, o, h1, h2, h3, hQ⟩
theorem lw_frame {s t : State} {o : Outcome} {args : Array Value} (h : Framed s o t [] 600000 7302250) :
    Framed s o t (fieldLocs frame_1_writes args s ++ arrayLocs frame_1_arrays args s ++ staticLocs frame_1_statics s) 600000 7302250 := h
theorem lw_limb (L : Cond) (hL : ∀ (args : Array Value) (s t : State), L.after args s (.returned (some (.int 1))) t = true) :
    ArmFor flags0 classFile x code maxLocals ret World_1 tables_1 room_1 Calls_1 rest_1 Pre_1
      (fun tb e a s o t => postC L tb e a s o t ∧ Framed s o t (fieldLocs frame_1_writes a s ++ arrayLocs frame_1_arrays a s ++ staticLocs frame_1_statics s) 600000 7302250) := by
  intro l _ _ _ p e ha hc hk s m args below hf hfit hheap happ hpre
  obtain ⟨k, o, h1, h2, h3, rfl, hF⟩ := lw_comes l p e ha hc hk s m args below hf hfit hheap happ hpre
  exact ⟨k, _, h1, h2, h3, hL args s _, lw_frame hF⟩
theorem i_vc : Claimed_1_1 ∧ Claimed_1_2 := ⟨lw_limb limb_1_1 (fun args s t => by simp [limb_1_1, Cond.after, Cond.holds, Cond.value]), lw_limb limb_1_2 (fun args s t => Cond.after_iff.mpr (by
  first | (rw [show limb_1_2 = Cond.eq .result (.int 1) from rfl, Cond.eq_ints (x := 1) (y := 1) rfl rfl]; simp; done) | (simp [limb_1_2, Cond.value, Term.eval]; done)))⟩
