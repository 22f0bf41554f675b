/-- the CLUSTER of each ROW behind k joins -/
def CL (J : Int → Int → Int) : Nat → Int → Int
  | 0, x => x
  | k + 1, x => if CL J k x = J 1 k then J 0 k else CL J k x
theorem CL_s {J : Int → Int → Int} {k x : Int} (k0 : 0 ≤ k) : CL J (k + 1).toNat x = if CL J k.toNat x = J 1 k then J 0 k else CL J k.toNat x := by
  rw [show (k + 1).toNat = k.toNat + 1 by omega, CL, show ((k.toNat : Nat) : Int) = k by omega]
/-- the joined ones are CLUSTERS, the first the lesser -/
def JOK (J : Int → Int → Int) (n jn : Int) : Prop := ∀ k, 0 ≤ k → k < jn → (0 ≤ J 0 k ∧ J 0 k < J 1 k ∧ J 1 k < n) ∧ CL J k.toNat (J 0 k) = J 0 k ∧ CL J k.toNat (J 1 k) = J 1 k
def TrOK (n : Int) (T : Tr) : Prop := match T with
  | none => True
  | some p => JOK p.2 n p.1
theorem CL_ok {J : Int → Int → Int} {n jn : Int} (h : JOK J n jn) : ∀ k : Nat, k ≤ jn → ∀ x, 0 ≤ x → (0 ≤ CL J k x ∧ CL J k x ≤ x) ∧ CL J k (CL J k x) = CL J k x
  | 0, _, x, x0 => ⟨⟨x0, Int.le_refl x⟩, rfl⟩
  | k + 1, hk, x, x0 => by
    have ih := CL_ok h k (by omega)
    have hj := h k (by omega) (by omega)
    rw [Int.toNat_natCast] at hj
    have h1 := ih x x0
    have e : ∀ y, CL J (k + 1) y = if CL J k y = J 1 k then J 0 k else CL J k y := fun y => rfl
    rw [e x]
    by_cases hx : CL J k x = J 1 k
    · rw [if_pos hx, e (J 0 k), hj.2.1, if_neg (by omega)]; omega
    · rw [if_neg hx, e (CL J k x), h1.2, if_neg hx]; omega
/-- how many CLUSTERS are called by a ROW below r -/
def nb (L : Int → Int) (r : Int) : Int := sI (fun q => if L q = q then 1 else 0) r
theorem nb_s {L : Int → Int} {r : Int} (h : 0 ≤ r) : nb L (r + 1) = nb L r + if L r = r then 1 else 0 := sI_s h
theorem nb_mono {L : Int → Int} : ∀ (d : Nat) (r : Int), 0 ≤ r → nb L r ≤ nb L (r + d) ∧ 0 ≤ nb L r
  | 0, r, h => by
    have := sI_bd (f := fun q => if L q = q then 1 else 0) (lo := 0) (hi := 1) h (fun q _ _ => by split <;> omega)
    refine ⟨by rw [show r + ((0 : Nat) : Int) = r by omega]; omega, ?_⟩
    unfold nb; omega
  | d + 1, r, h => by
    have ih := nb_mono (L := L) d r h
    rw [show r + ((d + 1 : Nat) : Int) = (r + d) + 1 by omega, nb_s (by omega)]
    refine ⟨?_, ih.2⟩
    split <;> omega
theorem nb_lt {L : Int → Int} {r n : Int} (r0 : 0 ≤ r) (r1 : r < n) (h : L r = r) : 0 ≤ nb L r ∧ nb L r < nb L n := by
  have h1 := nb_mono (L := L) (n - (r + 1)).toNat (r + 1) (by omega)
  rw [show r + 1 + (((n - (r + 1)).toNat : Nat) : Int) = n by omega, nb_s r0, if_pos h] at h1
  have h2 := nb_mono (L := L) 0 r r0
  omega
theorem sm_one (b : Int) : ∀ k : Nat, 0 ≤ b → sm (fun q => if q = b then 1 else 0) k = if b < k then 1 else 0
  | 0, h => by rw [if_neg (by omega)]; rfl
  | k + 1, h => by
    rw [sm, sm_one b k h]
    by_cases e : (k : Int) = b
    · subst e; rw [if_neg (by omega), if_pos rfl, if_pos (by omega)]; rfl
    · rw [if_neg e]
      by_cases e2 : b < k
      · rw [if_pos e2, if_pos (by omega)]; rfl
      · rw [if_neg e2, if_neg (by omega)]; rfl
theorem CL_root {J : Int → Int → Int} {n jn : Int} (h : JOK J n jn) {k : Nat} (hk : k < jn) (q : Int) : (CL J (k + 1) q = q) ↔ (CL J k q = q ∧ ¬ q = J 1 k) := by
  have hj := h k (by omega) (by omega)
  rw [Int.toNat_natCast] at hj
  have e : CL J (k + 1) q = if CL J k q = J 1 k then J 0 k else CL J k q := rfl
  rw [e]
  by_cases hq : CL J k q = J 1 k
  · rw [if_pos hq]
    constructor
    · intro h1
      rw [← h1, hj.2.1] at hq
      omega
    · intro h1; omega
  · rw [if_neg hq]
    constructor
    · intro h1
      refine ⟨h1, fun h2 => hq ?_⟩
      rw [h2]; exact hj.2.2
    · exact fun h1 => h1.1
/-- so many CLUSTERS are left -/
theorem CL_left {J : Int → Int → Int} {n jn : Int} (h : JOK J n jn) (hn : 0 ≤ n) : ∀ k : Nat, k ≤ jn → nb (CL J k) n = n - k
  | 0, _ => by
    have h1 : nb (CL J 0) n = sI (fun _ => 1) n := sI_congr (fun q _ _ => if_pos rfl)
    have h2 := sI_bd (f := fun _ => (1 : Int)) (lo := 1) (hi := 1) hn (fun q _ _ => by omega)
    rw [h1]; omega
  | k + 1, hk => by
    have ih := CL_left h hn k (by omega)
    have hj := h k (by omega) (by omega)
    have h1 : sm (fun q => if CL J k q = q then 1 else 0) n.toNat = sm (fun q => (if CL J (k + 1) q = q then 1 else 0) + (if q = J 1 k then 1 else 0)) n.toNat := sm_congr _ (fun q _ _ => by
      have hr := CL_root h (k := k) (by omega) q
      by_cases e1 : q = J 1 k
      · rw [if_pos e1, if_neg (fun z => (hr.mp z).2 e1), if_pos (by rw [e1]; have := hj.2.2; rw [Int.toNat_natCast] at this; exact this)]; rfl
      · rw [if_neg e1]
        by_cases e2 : CL J k q = q
        · rw [if_pos e2, if_pos (hr.mpr ⟨e2, e1⟩)]; rfl
        · rw [if_neg e2, if_neg (fun z => e2 (hr.mp z).1)]; rfl)
    rw [sm_add, sm_one _ _ (by omega), if_pos (by omega)] at h1
    have h2 : sm (fun q => if CL J k q = q then 1 else 0) n.toNat = n - k := ih
    have h3 : nb (CL J (k + 1)) n = sm (fun q => if CL J (k + 1) q = q then 1 else 0) n.toNat := rfl
    omega
def ctG (J : Int → Int → Int) (n g : Int) : Int → Int := fun x => nb (CL J (n - g).toNat) (CL J (n - g).toNat x)
theorem ctG_bd {J : Int → Int → Int} {n g : Int} (h : JOK J n (n - 1)) (g0 : 1 ≤ g) (g1 : g ≤ n) {x : Int} (x0 : 0 ≤ x) (x1 : x < n) : 0 ≤ ctG J n g x ∧ ctG J n g x < g := by
  have h1 := CL_ok h (n - g).toNat (by omega) x x0
  have h2 := CL_left h (by omega) (n - g).toNat (by omega)
  have h3 := nb_lt (L := CL J (n - g).toNat) (n := n) h1.1.1 (by omega) h1.2
  unfold ctG
  omega
def a_cut (n : Int) (T : Tr) (s g : Int) : Int := if (0 ≤ s ∧ s ≤ 1) ∧ 1 ≤ g ∧ g ≤ 30 then (match T with | none => -2000000003 | some _ => if g ≤ n then 1 else -2000000003) else -2000000002
def s_cut (n : Int) (S : Sl) (T : Tr) (s g : Int) : Sl := if (0 ≤ s ∧ s ≤ 1) ∧ 1 ≤ g ∧ g ≤ 30 then (match T with | none => S | some p => if g ≤ n then Sup S s (ctG p.2 n g) g else S) else S
set_option maxHeartbeats 4000000 in
set_option maxRecDepth 100000 in
theorem k_X4_numberByLeastRows (c : qC) (n : Int) (L : Int → Int) (n0 : 0 ≤ n ∧ n ≤ 30) (hl : ∀ x, 0 ≤ x → x < n → c 33 x = L x) (hL : ∀ x, 0 ≤ x → x < n → (0 ≤ L x ∧ L x ≤ x) ∧ L (L x) = L x) : qN X4_numberByLeastRows 0 [qP 27, qI n] c (pV (fun c' => (∀ k, k ≠ 33 → c' k = c k) ∧ ∀ x, 0 ≤ x → x < n → c' 33 x = nb L (L x))) := by
  refine qN.of [some (qP 27), some (qI n), none, none] (by decide) rfl (fun _ => rfl) (fun _ => Nat.le_of_ble_eq_true rfl) ?_
  refine g_iconst dX4_numberByLeastRows_0 ?_
  refine g_istore_n2 dX4_numberByLeastRows_1 rfl ?_
  refine g_iconst dX4_numberByLeastRows_2 ?_
  refine g_istore_n3 dX4_numberByLeastRows_3 rfl ?_
  have L4 : ∀ (fu4 : Nat) (a r : Int) (c1 : qC), (n - r).toNat < fu4 → (0 ≤ r) → (r ≤ n) → (a = nb L r) → (∀ k, k ≠ 33 → c1 k = c k) → (∀ x, 0 ≤ x → x < r → c1 33 x = nb L (L x)) → (∀ x, r ≤ x → x < n → c1 33 x = L x) → qG (qYn X4_numberByLeastRows 0 (pV (fun c' => (∀ k, k ≠ 33 → c' k = c k) ∧ ∀ x, 0 ≤ x → x < n → c' 33 x = nb L (L x)))) wN 4 [some (qP 27), some (qI n), some (qI a), some (qI r)] [] c1 := by
    intro fu4
    induction fu4 with
    | zero => intro a r c1 hm; exact absurd hm (Nat.not_lt_zero _)
    | succ fu4 ih4 =>
      intro a r c1 hm4 r0 r1 ha ff h1 h2
      have hab := nb_mono (L := L) 0 r r0
      refine g_iload_n (i := 3) dX4_numberByLeastRows_4 rfl rfl ?_
      refine g_iload_n (i := 1) dX4_numberByLeastRows_5 rfl rfl ?_
      refine g_icmp_ge 55 dX4_numberByLeastRows_6 (by decide) (fun b6 => ?_) (fun b6 => ?_)
      · skip
        exact n_retv dX4_numberByLeastRows_55 rfl (⟨ff, fun x q0 q1 => h1 x q0 (by omega)⟩)
      · skip
        have hcr := h2 r (by omega) (by omega)
        have hLr := hL r r0 (by omega)
        refine g_aload_n (i := 0) dX4_numberByLeastRows_9 rfl rfl ?_
        refine g_getP dX4_numberByLeastRows_10 fl4_28 (by first | rfl | assumption) (by first | decide | (show _ < 62; omega)) (by first | rfl | assumption) ?_
        refine g_iload_n (i := 3) dX4_numberByLeastRows_13 rfl rfl ?_
        refine g_iaload dX4_numberByLeastRows_14 rfl (by decide) ?_
        rw [hcr]
        skip -- ?_
        refine g_iload_n (i := 3) dX4_numberByLeastRows_15 rfl rfl ?_
        refine g_icmp_ne 32 dX4_numberByLeastRows_16 (by decide) (fun b16 => ?_) (fun b16 => ?_)
        · skip
          refine g_aload_n (i := 0) dX4_numberByLeastRows_32 rfl rfl ?_
          refine g_getP dX4_numberByLeastRows_33 fl4_28 (by first | rfl | assumption) (by first | decide | (show _ < 62; omega)) (by first | rfl | assumption) ?_
          refine g_iload_n (i := 3) dX4_numberByLeastRows_36 rfl rfl ?_
          refine g_aload_n (i := 0) dX4_numberByLeastRows_37 rfl rfl ?_
          refine g_getP dX4_numberByLeastRows_38 fl4_28 (by first | rfl | assumption) (by first | decide | (show _ < 62; omega)) (by first | rfl | assumption) ?_
          refine g_aload_n (i := 0) dX4_numberByLeastRows_41 rfl rfl ?_
          refine g_getP dX4_numberByLeastRows_42 fl4_28 (by first | rfl | assumption) (by first | decide | (show _ < 62; omega)) (by first | rfl | assumption) ?_
          refine g_iload_n (i := 3) dX4_numberByLeastRows_45 rfl rfl ?_
          refine g_iaload dX4_numberByLeastRows_46 rfl (by decide) ?_
          rw [hcr]
          skip -- ?_
          refine g_iaload dX4_numberByLeastRows_47 (by first | rfl | assumption) (by first | decide | (show _ < 62; omega)) ?_
          refine g_iastore dX4_numberByLeastRows_48 (by first | rfl | assumption) (by first | decide | (show _ < 62; omega)) ?_
          refine g_iinc3 dX4_numberByLeastRows_49 rfl ?_
          refine g_goto 4 dX4_numberByLeastRows_52 (by decide) ?_
          exact ih4 _ _ _ (by omega) (by first | assumption | omega) (by first | assumption | omega) (by rw [nb_s r0, ← ha]; first | (rw [if_pos (by omega)]) | (rw [if_neg (by omega)]; omega)) (fun k hk => by rw [qu_ne hk]; exact ff k hk) (fun x q0 q1 => by
        by_cases h : x = r
        · subst h; rw [qu_eq]
          first
            | (rw [show L x = x by omega]; exact ha)
            | (rw [h1 (L x) (by omega) (by omega), hLr.2])
        · rw [qu_off h]; exact h1 x q0 (by omega)) (fun x q0 q1 => by rw [qu_off (by omega)]; exact h2 x (by omega) q1)
        · skip
          refine g_aload_n (i := 0) dX4_numberByLeastRows_19 rfl rfl ?_
          refine g_getP dX4_numberByLeastRows_20 fl4_28 (by first | rfl | assumption) (by first | decide | (show _ < 62; omega)) (by first | rfl | assumption) ?_
          refine g_iload_n (i := 3) dX4_numberByLeastRows_23 rfl rfl ?_
          refine g_iload_n (i := 2) dX4_numberByLeastRows_24 rfl rfl ?_
          refine g_iastore dX4_numberByLeastRows_25 (by first | rfl | assumption) (by first | decide | (show _ < 62; omega)) ?_
          refine g_iinc2 dX4_numberByLeastRows_26 rfl ?_
          refine g_goto 49 dX4_numberByLeastRows_29 (by decide) ?_
          refine g_iinc3 dX4_numberByLeastRows_49 rfl ?_
          refine g_goto 4 dX4_numberByLeastRows_52 (by decide) ?_
          exact ih4 _ _ _ (by omega) (by first | assumption | omega) (by first | assumption | omega) (by rw [nb_s r0, ← ha]; first | (rw [if_pos (by omega)]) | (rw [if_neg (by omega)]; omega)) (fun k hk => by rw [qu_ne hk]; exact ff k hk) (fun x q0 q1 => by
        by_cases h : x = r
        · subst h; rw [qu_eq]
          first
            | (rw [show L x = x by omega]; exact ha)
            | (rw [h1 (L x) (by omega) (by omega), hLr.2])
        · rw [qu_off h]; exact h1 x q0 (by omega)) (fun x q0 q1 => by rw [qu_off (by omega)]; exact h2 x (by omega) q1)
  exact L4 _ _ _ _ (Nat.lt_succ_self _) (by first | assumption | omega) (by first | assumption | omega) rfl (fun k _ => rfl) (fun x q0 q1 => by omega) (fun x q0 q1 => hl x (by omega) q1)
set_option maxHeartbeats 4000000 in
set_option maxRecDepth 100000 in
theorem k_X4_split (c : qC) (n g jn : Int) (J : Int → Int → Int) (n0 : 1 ≤ n ∧ n ≤ 30) (g0 : 1 ≤ g ∧ g ≤ n) (hj : c 27 11 = jn) (hjn : jn = n - 1) (hJ : JOK J n jn) (hA : ∀ k, 0 ≤ k → k < jn → c 28 k = J 0 k ∧ c 29 k = J 1 k) : qN X4_split 1 [qP 27, qI n, qI g] c (pV (fun c' => (∀ k, k ≠ 33 → c' k = c k) ∧ ∀ x, 0 ≤ x → x < n → c' 33 x = ctG J n g x)) := by
  refine qN.of [some (qP 27), some (qI n), some (qI g), none, none] (by decide) rfl (fun _ => rfl) (fun _ => Nat.le_of_ble_eq_true rfl) ?_
  refine g_iconst dX4_split_0 ?_
  refine g_istore_n3 dX4_split_1 rfl ?_
  have L2 : ∀ (fu2 : Nat) (x : Int) (c1 : qC), (n - x).toNat < fu2 → (0 ≤ x) → (x ≤ n) → (∀ k, k ≠ 33 → c1 k = c k) → (∀ y, 0 ≤ y → y < x → c1 33 y = y) → qG (qYn X4_split 1 (pV (fun c' => (∀ k, k ≠ 33 → c' k = c k) ∧ ∀ x, 0 ≤ x → x < n → c' 33 x = ctG J n g x))) wN 2 [some (qP 27), some (qI n), some (qI g), some (qI x), none] [] c1 := by
    intro fu2
    induction fu2 with
    | zero => intro x c1 hm; exact absurd hm (Nat.not_lt_zero _)
    | succ fu2 ih2 =>
      intro x c1 hm2 x0 x1 ff h1
      refine g_iload_n (i := 3) dX4_split_2 rfl rfl ?_
      refine g_iload_n (i := 1) dX4_split_3 rfl rfl ?_
      refine g_icmp_ge 20 dX4_split_4 (by decide) (fun b4 => ?_) (fun b4 => ?_)
      · skip
        refine g_iconst dX4_split_20 ?_
        refine g_istore_n3 dX4_split_21 rfl ?_
        have L22 : ∀ (fu22 : Nat) (k : Int) (c1 : qC), (n - k).toNat < fu22 → (0 ≤ k) → (k ≤ n - g) → (∀ k, k ≠ 33 → c1 k = c k) → (∀ y, 0 ≤ y → y < n → c1 33 y = CL J k.toNat y) → qG (qYn X4_split 1 (pV (fun c' => (∀ k, k ≠ 33 → c' k = c k) ∧ ∀ x, 0 ≤ x → x < n → c' 33 x = ctG J n g x))) wN 22 [some (qP 27), some (qI n), some (qI g), some (qI k), none] [] c1 := by
          intro fu22
          induction fu22 with
          | zero => intro k c1 hm; exact absurd hm (Nat.not_lt_zero _)
          | succ fu22 ih22 =>
            intro k c1 hm22 k0 k1 ff h1
            have hj1 : c1 27 11 = jn := by rw [ff 27 (by decide)]; exact hj
            have hok := CL_ok hJ k.toNat (by omega)
            refine g_iload_n (i := 3) dX4_split_22 rfl rfl ?_
            refine g_iload_n (i := 1) dX4_split_23 rfl rfl ?_
            refine g_iload_n (i := 2) dX4_split_24 rfl rfl ?_
            refine g_isub dX4_split_25 ?_
            refine g_icmp_ge 87 dX4_split_26 (by decide) (fun b26 => ?_) (fun b26 => ?_)
            · skip
              refine g_aload_n (i := 0) dX4_split_87 rfl rfl ?_
              refine g_iload_n (i := 1) dX4_split_88 rfl rfl ?_
              refine n_callVv (k_X4_numberByLeastRows _ _ (CL J (n - g).toNat) (by omega) (fun x q0 q1 => by rw [h1 x q0 q1, show k = n - g by omega]) (fun x q0 q1 => CL_ok hJ (n - g).toNat (by omega) x q0)) dX4_split_89 lk4_71 im_X4_numberByLeastRows (by first | rfl | assumption) (by first | decide | (show _ < 62; omega)) rfl rfl rfl rfl (Nat.le_of_ble_eq_true rfl) (fun c3 hz => ?_)
              obtain ⟨hf, hn⟩ := hz
              exact n_retv dX4_split_92 rfl (⟨fun q hq => by rw [hf q hq]; exact ff q hq, hn⟩)
            · skip
              refine g_iload_n (i := 3) dX4_split_29 rfl rfl ?_
              refine g_aload_n (i := 0) dX4_split_30 rfl rfl ?_
              refine g_getI (ji := 11) dX4_split_31 fl4_51 (by first | rfl | assumption) (by first | decide | (show _ < 62; omega)) (by first | rfl | assumption) (by decide) rfl (by first | assumption | rfl) ?_
              refine g_icmp_ge 87 dX4_split_34 (by decide) (fun b34 => ?_) (fun b34 => ?_)
              · skip
                refine g_aload_n (i := 0) dX4_split_87 rfl rfl ?_
                refine g_iload_n (i := 1) dX4_split_88 rfl rfl ?_
                refine n_callVv (k_X4_numberByLeastRows _ _ (CL J (n - g).toNat) (by omega) (fun x q0 q1 => by rw [h1 x q0 q1, show k = n - g by omega]) (fun x q0 q1 => CL_ok hJ (n - g).toNat (by omega) x q0)) dX4_split_89 lk4_71 im_X4_numberByLeastRows (by first | rfl | assumption) (by first | decide | (show _ < 62; omega)) rfl rfl rfl rfl (Nat.le_of_ble_eq_true rfl) (fun c3 hz => ?_)
                obtain ⟨hf, hn⟩ := hz
                exact n_retv dX4_split_92 rfl (⟨fun q hq => by rw [hf q hq]; exact ff q hq, hn⟩)
              · skip
                refine g_iconst dX4_split_37 ?_
                refine g_istore4 dX4_split_38 rfl ?_
                have L40 : ∀ (fu40 : Nat) (x : Int) (c2 : qC), (n - x).toNat < fu40 → (0 ≤ x) → (x ≤ n) → (∀ k, k ≠ 33 → c2 k = c k) → (∀ y, 0 ≤ y → y < x → c2 33 y = CL J (k + 1).toNat y) → (∀ y, x ≤ y → y < n → c2 33 y = CL J k.toNat y) → qG (qYn X4_split 1 (pV (fun c' => (∀ k, k ≠ 33 → c' k = c k) ∧ ∀ x, 0 ≤ x → x < n → c' 33 x = ctG J n g x))) wN 40 [some (qP 27), some (qI n), some (qI g), some (qI k), some (qI x)] [] c2 := by
                  intro fu40
                  induction fu40 with
                  | zero => intro x c2 hm; exact absurd hm (Nat.not_lt_zero _)
                  | succ fu40 ih40 =>
                    intro x c2 hm40 x0 x1 ff2 h2 h3
                    have hAk := hA k k0 (by omega)
                    have hJk := hJ k k0 (by omega)
                    have hak : c2 28 k = J 0 k := by rw [ff2 28 (by decide)]; exact hAk.1
                    have hbk : c2 29 k = J 1 k := by rw [ff2 29 (by decide)]; exact hAk.2
                    refine g_iload dX4_split_40 rfl ?_
                    refine g_iload_n (i := 1) dX4_split_42 rfl rfl ?_
                    refine g_icmp_ge 81 dX4_split_43 (by decide) (fun b43 => ?_) (fun b43 => ?_)
                    · skip
                      refine g_iinc3 dX4_split_81 rfl ?_
                      refine g_goto 22 dX4_split_84 (by decide) ?_
                      refine g_fg4 ?_
                      exact ih22 _ _ (by omega) (by first | assumption | omega) (by first | assumption | omega) ff2 (fun y q0 q1 => h2 y q0 (by omega))
                    · skip
                      have hcx := h3 x (by omega) (by omega)
                      have hokx := hok x x0
                      refine g_aload_n (i := 0) dX4_split_46 rfl rfl ?_
                      refine g_getP dX4_split_47 fl4_28 (by first | rfl | assumption) (by first | decide | (show _ < 62; omega)) (by first | rfl | assumption) ?_
                      refine g_iload dX4_split_50 rfl ?_
                      refine g_iaload dX4_split_52 rfl (by decide) ?_
                      rw [hcx]
                      skip -- ?_
                      refine g_aload_n (i := 0) dX4_split_53 rfl rfl ?_
                      refine g_getP dX4_split_54 fl4_15 (by first | rfl | assumption) (by first | decide | (show _ < 62; omega)) (by first | rfl | assumption) ?_
                      refine g_iload_n (i := 3) dX4_split_57 rfl rfl ?_
                      refine g_iaload dX4_split_58 rfl (by decide) ?_
                      rw [hbk]
                      skip -- ?_
                      refine g_icmp_ne 75 dX4_split_59 (by decide) (fun b59 => ?_) (fun b59 => ?_)
                      · skip
                        refine g_iinc4 dX4_split_75 rfl ?_
                        refine g_goto 40 dX4_split_78 (by decide) ?_
                        exact ih40 _ _ (by omega) (by first | assumption | omega) (by first | assumption | omega) (by first | exact ff2 | exact fun k hk => by rw [qu_ne hk]; exact ff2 k hk) (fun y q0 q1 => by
            by_cases h : y = x
            · subst h
              rw [CL_s k0]
              first
                | (rw [qu_eq, if_pos (by omega)])
                | (rw [if_neg (by omega)]; exact h3 y (by omega) (by omega))
            · first
                | (rw [qu_off h]; exact h2 y q0 (by omega))
                | exact h2 y q0 (by omega)) (fun y q0 q1 => by
            first
              | (rw [qu_off (by omega)]; exact h3 y (by omega) q1)
              | exact h3 y (by omega) q1)
                      · skip
                        refine g_aload_n (i := 0) dX4_split_62 rfl rfl ?_
                        refine g_getP dX4_split_63 fl4_28 (by first | rfl | assumption) (by first | decide | (show _ < 62; omega)) (by first | rfl | assumption) ?_
                        refine g_iload dX4_split_66 rfl ?_
                        refine g_aload_n (i := 0) dX4_split_68 rfl rfl ?_
                        refine g_getP dX4_split_69 fl4_9 (by first | rfl | assumption) (by first | decide | (show _ < 62; omega)) (by first | rfl | assumption) ?_
                        refine g_iload_n (i := 3) dX4_split_72 rfl rfl ?_
                        refine g_iaload dX4_split_73 rfl (by decide) ?_
                        rw [hak]
                        skip -- ?_
                        refine g_iastore dX4_split_74 (by first | rfl | assumption) (by first | decide | (show _ < 62; omega)) ?_
                        refine g_iinc4 dX4_split_75 rfl ?_
                        refine g_goto 40 dX4_split_78 (by decide) ?_
                        exact ih40 _ _ (by omega) (by first | assumption | omega) (by first | assumption | omega) (by first | exact ff2 | exact fun k hk => by rw [qu_ne hk]; exact ff2 k hk) (fun y q0 q1 => by
            by_cases h : y = x
            · subst h
              rw [CL_s k0]
              first
                | (rw [qu_eq, if_pos (by omega)])
                | (rw [if_neg (by omega)]; exact h3 y (by omega) (by omega))
            · first
                | (rw [qu_off h]; exact h2 y q0 (by omega))
                | exact h2 y q0 (by omega)) (fun y q0 q1 => by
            first
              | (rw [qu_off (by omega)]; exact h3 y (by omega) q1)
              | exact h3 y (by omega) q1)
                exact L40 _ _ _ (Nat.lt_succ_self _) (by first | assumption | omega) (by first | assumption | omega) ff (fun y q0 q1 => by omega) (fun y q0 q1 => h1 y (by omega) q1)
        exact L22 _ _ _ (Nat.lt_succ_self _) (by first | assumption | omega) (by first | assumption | omega) (by first | assumption | omega) (fun y q0 q1 => h1 y q0 (by omega))
      · skip
        refine g_aload_n (i := 0) dX4_split_7 rfl rfl ?_
        refine g_getP dX4_split_8 fl4_28 (by first | rfl | assumption) (by first | decide | (show _ < 62; omega)) (by first | rfl | assumption) ?_
        refine g_iload_n (i := 3) dX4_split_11 rfl rfl ?_
        refine g_iload_n (i := 3) dX4_split_12 rfl rfl ?_
        refine g_iastore dX4_split_13 (by first | rfl | assumption) (by first | decide | (show _ < 62; omega)) ?_
        refine g_iinc3 dX4_split_14 rfl ?_
        refine g_goto 2 dX4_split_17 (by decide) ?_
        exact ih2 _ _ (by omega) (by first | assumption | omega) (by first | assumption | omega) (fun k hk => by rw [qu_ne hk]; exact ff k hk) (fun y q0 q1 => by
        rw [qu_at]; split
        · rename_i h; exact h.symm
        · exact h1 y q0 (by omega))
  exact L2 _ _ _ (Nat.lt_succ_self _) (by first | assumption | omega) (by first | assumption | omega) (fun k _ => rfl) (fun y q0 q1 => by omega)
set_option maxHeartbeats 4000000 in
set_option maxRecDepth 100000 in
theorem k_X7_cut (c : qC) (n wd : Int) (N : Int → Int → Int) (S : Sl) (mm : Int) (md : Int → Int) (T : Tr) (hS : CS c n wd N S mm md T) (hOK : TrOK n T) (s g : Int) (s0 : iR s) (g0 : iR g) : qN X7_cut 3 [qP 0, qI s, qI g] c (pI (fun z c' => z = a_cut n T s g ∧ CS c' n wd N (s_cut n S T s g) mm md T ∧ FrC c c')) := by
  have hS0 := hS
  obtain ⟨hT, hSl, hMd, hTr⟩ := hS
  have hT0 := hT
  obtain ⟨t1, t2, t3, t4, t5, t6, t7⟩ := hT
  have hbt := hTr.b t3.2
  refine qN.of [some (qP 0), some (qI s), some (qI g)] (by decide) rfl (fun _ => rfl) (fun _ => Nat.le_of_ble_eq_true rfl) ?_
  refine g_iload_n (i := 1) dX7_cut_0 rfl rfl ?_
  refine n_callSi (k_X7_isSlot _ _ (by omega)) dX7_cut_1 lk7_100 sm_X7_isSlot rfl rfl rfl (Nat.le_of_ble_eq_true rfl) (fun z c' hz => ?_)
  obtain ⟨hz2, hz⟩ := hz
  have hz2 := hz2.symm
  subst hz2
  refine g_if_eq 18 dX7_cut_4 (by decide) (fun b4 => ?_) (fun b4 => ?_)
  · skip
    refine g_ldc (z := -2000000002) dX7_cut_18 cw7_58 ?_
    exact n_reti dX7_cut_20 rfl (⟨by unfold a_cut; rw [if_neg (by omega)], by unfold s_cut; rw [if_neg (by omega)]; exact hS0, FrC.rf c⟩)
  · skip
    refine g_iload_n (i := 2) dX7_cut_7 rfl rfl ?_
    refine g_iconst dX7_cut_8 ?_
    refine g_icmp_lt 18 dX7_cut_9 (by decide) (fun b9 => ?_) (fun b9 => ?_)
    · skip
      refine g_ldc (z := -2000000002) dX7_cut_18 cw7_58 ?_
      exact n_reti dX7_cut_20 rfl (⟨by unfold a_cut; rw [if_neg (by omega)], by unfold s_cut; rw [if_neg (by omega)]; exact hS0, FrC.rf c⟩)
    · skip
      refine g_iload_n (i := 2) dX7_cut_12 rfl rfl ?_
      refine g_bipush dX7_cut_13 (by decide) ?_
      refine g_icmp_le 21 dX7_cut_15 (by decide) (fun b15 => ?_) (fun b15 => ?_)
      · skip
        refine g_aload_n (i := 0) dX7_cut_21 rfl rfl ?_
        refine g_getP dX7_cut_22 fl7_47 (by first | rfl | assumption) (by first | decide | (show _ < 62; omega)) (by first | rfl | assumption) ?_
        refine g_getI (ji := 11) dX7_cut_25 fl7_82 (by first | rfl | assumption) (by first | decide | (show _ < 62; omega)) (by first | rfl | assumption) (by decide) rfl (by first | assumption | rfl) ?_
        refine g_iconst dX7_cut_28 ?_
        refine g_icmp_eq 43 dX7_cut_29 (by decide) (fun b29 => ?_) (fun b29 => ?_)
        · skip
          have hno : T = none ∨ n < g := by by_cases h : c 27 11 = -1; exact Or.inl (hTr.no h); exact Or.inr (by omega)
          refine g_ldc (z := -2000000003) dX7_cut_43 cw7_63 ?_
          exact n_reti dX7_cut_45 rfl (⟨by
      unfold a_cut; rw [if_pos (by omega)]
      rcases hno with h | h
      · rw [h]
      · cases T with
        | none => rfl
        | some p => exact (if_neg (by omega)).symm, by
      unfold s_cut; rw [if_pos (by omega)]
      rcases hno with h | h
      · rw [h]; rw [h] at hS0; exact hS0
      · cases T with
        | none => exact hS0
        | some p => show CS c n wd N (if g ≤ n then _ else S) mm md _; rw [if_neg (by omega)]; exact hS0, FrC.rf c⟩)
        · skip
          refine g_aload_n (i := 0) dX7_cut_32 rfl rfl ?_
          refine g_getP dX7_cut_33 fl7_10 (by first | rfl | assumption) (by first | decide | (show _ < 62; omega)) (by first | rfl | assumption) ?_
          refine g_getI (ji := 3) dX7_cut_36 fl7_59 (by first | rfl | assumption) (by first | decide | (show _ < 62; omega)) (by first | rfl | assumption) (by decide) rfl (by first | assumption | rfl) ?_
          refine g_iload_n (i := 2) dX7_cut_39 rfl rfl ?_
          refine g_icmp_ge 46 dX7_cut_40 (by decide) (fun b40 => ?_) (fun b40 => ?_)
          · skip
            obtain ⟨jn, J, hT, hj1, hj2, hj3, hj⟩ := hTr.yes (by omega)
            rw [hT] at hOK
            obtain ⟨o, hoS, ho1, hLo, ho62, ho58, hL1, hL2, ho63, ho64⟩ := oS_ex (s := s) (by omega)
            refine g_aload_n (i := 0) dX7_cut_46 rfl rfl ?_
            refine g_getP dX7_cut_47 fl7_47 (by first | rfl | assumption) (by first | decide | (show _ < 62; omega)) (by first | rfl | assumption) ?_
            refine g_aload_n (i := 0) dX7_cut_50 rfl rfl ?_
            refine g_getP dX7_cut_51 fl7_10 (by first | rfl | assumption) (by first | decide | (show _ < 62; omega)) (by first | rfl | assumption) ?_
            refine g_getI (ji := 3) dX7_cut_54 fl7_59 (by first | rfl | assumption) (by first | decide | (show _ < 62; omega)) (by first | rfl | assumption) (by decide) rfl (by first | assumption | rfl) ?_
            refine g_iload_n (i := 2) dX7_cut_57 rfl rfl ?_
            refine n_callVv (k_X4_split _ _ _ jn J (by omega) (by omega) hj1 hj2 hOK (fun k k0 k1 => ⟨(hj k k0 k1).1.1, (hj k k0 k1).1.2.1⟩)) dX7_cut_58 lk7_157 im_X4_split (by first | rfl | assumption) (by first | decide | (show _ < 62; omega)) rfl rfl rfl rfl (Nat.le_of_ble_eq_true rfl) (fun c1 hz => ?_)
            obtain ⟨hf, hl⟩ := hz
            have r1 : c1 1 3 = n := by rw [hf 1 (by decide)]; exact t1
            refine g_aload_n (i := 0) dX7_cut_61 rfl rfl ?_
            refine g_getP dX7_cut_62 fl7_18 (by first | rfl | assumption) (by first | decide | (show _ < 62; omega)) (by first | rfl | assumption) ?_
            refine g_iload_n (i := 1) dX7_cut_65 rfl rfl ?_
            refine g_aaload dX7_cut_66 rfl (by decide) ho1 ?_
            refine g_aload_n (i := 0) dX7_cut_67 rfl rfl ?_
            refine g_getP dX7_cut_68 fl7_47 (by first | rfl | assumption) (by first | decide | (show _ < 62; omega)) (by first | rfl | assumption) ?_
            refine g_getP dX7_cut_71 fl7_161 (by first | rfl | assumption) (by first | decide | (show _ < 62; omega)) (by first | rfl | assumption) ?_
            refine g_aload_n (i := 0) dX7_cut_74 rfl rfl ?_
            refine g_getP dX7_cut_75 fl7_10 (by first | rfl | assumption) (by first | decide | (show _ < 62; omega)) (by first | rfl | assumption) ?_
            refine g_getI (ji := 3) dX7_cut_78 fl7_59 (by first | rfl | assumption) (by first | decide | (show _ < 62; omega)) (by first | rfl | assumption) (by decide) rfl (by first | assumption | rfl) ?_
            refine g_iload_n (i := 2) dX7_cut_81 rfl rfl ?_
            refine n_callVv (kk_fill (q := 33) (g := ctG J n g) ho58 rfl (by decide) (by omega) t3 (by omega) (fun r q0 q1 => ⟨hl r q0 q1, by have := ctG_bd (g := g) (show JOK J n (n - 1) by rw [← hj2]; exact hOK) (by omega) (by omega) q0 q1; omega⟩)) dX7_cut_82 lk7_111 im_X3_fill hLo ho62 rfl rfl rfl rfl (Nat.le_of_ble_eq_true rfl) (fun c2 hz => ?_)
            obtain ⟨hG, hf2⟩ := hz
            refine g_iconst dX7_cut_85 ?_
            exact n_reti dX7_cut_86 rfl (⟨by unfold a_cut; rw [if_pos (by omega), hT]; exact (if_pos (by omega)).symm, by
      unfold s_cut; rw [if_pos (by omega), hT]
      show CS c2 n wd N (if g ≤ n then Sup S s (ctG J n g) g else S) mm md _
      rw [if_pos (by omega)]
      rw [hT] at hS0
      exact hS0.sup hoS (by omega) ho58 hG (fun k k0 k1 k2 k3 => by rw [hf2 k k1 k2 k3]; exact hf k (by omega)), fun k hk => by rw [hf2 k (by omega) (by omega) (by omega)]; exact hf k (by omega)⟩)
          · skip
            have hno : T = none ∨ n < g := by by_cases h : c 27 11 = -1; exact Or.inl (hTr.no h); exact Or.inr (by omega)
            refine g_ldc (z := -2000000003) dX7_cut_43 cw7_63 ?_
            exact n_reti dX7_cut_45 rfl (⟨by
      unfold a_cut; rw [if_pos (by omega)]
      rcases hno with h | h
      · rw [h]
      · cases T with
        | none => rfl
        | some p => exact (if_neg (by omega)).symm, by
      unfold s_cut; rw [if_pos (by omega)]
      rcases hno with h | h
      · rw [h]; rw [h] at hS0; exact hS0
      · cases T with
        | none => exact hS0
        | some p => show CS c n wd N (if g ≤ n then _ else S) mm md _; rw [if_neg (by omega)]; exact hS0, FrC.rf c⟩)
      · skip
        refine g_ldc (z := -2000000002) dX7_cut_18 cw7_58 ?_
        exact n_reti dX7_cut_20 rfl (⟨by unfold a_cut; rw [if_neg (by omega)], by unfold s_cut; rw [if_neg (by omega)]; exact hS0, FrC.rf c⟩)
set_option maxHeartbeats 4000000 in
set_option maxRecDepth 100000 in
theorem k_X8_cut (c : qC) (n wd : Int) (N : Int → Int → Int) (S : Sl) (mm : Int) (md : Int → Int) (T : Tr) (hS : TS c n wd N S mm md T) (hOK : TrOK n T) (s g : Int) (s0 : iR s) (g0 : iR g) : qN X8_cut 1 [qP 39, qI s, qI g] c (pI (fun z c' => z = a_cut n T s g ∧ TS c' n wd N (s_cut n S T s g) mm md T ∧ FrT c c')) := by
  have hS0 := hS
  obtain ⟨hM, hSl, hMd, hTr⟩ := hS
  have hM0 := hM
  obtain ⟨t1, t2, t3, t4, t5, t6⟩ := hM
  have hbt := hTr.b
  refine qN.of [some (qP 39), some (qI s), some (qI g), none, none] (by decide) rfl (fun _ => rfl) (fun _ => Nat.le_of_ble_eq_true rfl) ?_
  refine g_iload_n (i := 1) dX8_cut_0 rfl rfl ?_
  refine g_iconst dX8_cut_1 ?_
  refine g_iconst dX8_cut_2 ?_
  refine n_callSi (k_X8_within _ _ _ _ (by omega) (by omega) (by omega)) dX8_cut_3 lk8_85 sm_X8_within rfl rfl rfl (Nat.le_of_ble_eq_true rfl) (fun z c' hz => ?_)
  obtain ⟨hz2, hz⟩ := hz
  have hz2 := hz2.symm
  subst hz2
  refine g_if_eq 19 dX8_cut_6 (by decide) (fun b6 => ?_) (fun b6 => ?_)
  · skip
    refine g_ldc (z := -2000000002) dX8_cut_19 cw8_96 ?_
    exact n_reti dX8_cut_21 rfl (⟨by unfold a_cut; rw [if_neg (by omega)], by unfold s_cut; rw [if_neg (by omega)]; exact hS0, FrT.rf c⟩)
  · skip
    refine g_iload_n (i := 2) dX8_cut_9 rfl rfl ?_
    refine g_iconst dX8_cut_10 ?_
    refine g_bipush dX8_cut_11 (by decide) ?_
    refine n_callSi (k_X8_within _ _ _ _ (by omega) (by omega) (by omega)) dX8_cut_13 lk8_85 sm_X8_within rfl rfl rfl (Nat.le_of_ble_eq_true rfl) (fun z c' hz => ?_)
    obtain ⟨hz2, hz⟩ := hz
    have hz2 := hz2.symm
    subst hz2
    refine g_if_ne 22 dX8_cut_16 (by decide) (fun b16 => ?_) (fun b16 => ?_)
    · skip
      refine g_aload_n (i := 0) dX8_cut_22 rfl rfl ?_
      refine g_getI (ji := 8) dX8_cut_23 fl8_92 (by first | rfl | assumption) (by first | decide | (show _ < 62; omega)) (by first | rfl | assumption) (by decide) rfl (by first | assumption | rfl) ?_
      refine g_if_eq 37 dX8_cut_26 (by decide) (fun b26 => ?_) (fun b26 => ?_)
      · skip
        have hno : T = none ∨ n < g := by by_cases h : c 39 8 = 0; exact Or.inl (hTr.no h); exact Or.inr (by omega)
        refine g_ldc (z := -2000000003) dX8_cut_37 cw8_97 ?_
        exact n_reti dX8_cut_39 rfl (⟨by
      unfold a_cut; rw [if_pos (by omega)]
      rcases hno with h | h
      · rw [h]
      · cases T with
        | none => rfl
        | some p => exact (if_neg (by omega)).symm, by
      unfold s_cut; rw [if_pos (by omega)]
      rcases hno with h | h
      · rw [h]; rw [h] at hS0; exact hS0
      · cases T with
        | none => exact hS0
        | some p => show TS c n wd N (if g ≤ n then _ else S) mm md _; rw [if_neg (by omega)]; exact hS0, FrT.rf c⟩)
      · skip
        refine g_aload_n (i := 0) dX8_cut_29 rfl rfl ?_
        refine g_getI (ji := 0) dX8_cut_30 fl8_82 (by first | rfl | assumption) (by first | decide | (show _ < 62; omega)) (by first | rfl | assumption) (by decide) rfl (by first | assumption | rfl) ?_
        refine g_iload_n (i := 2) dX8_cut_33 rfl rfl ?_
        refine g_icmp_ge 40 dX8_cut_34 (by decide) (fun b34 => ?_) (fun b34 => ?_)
        · skip
          obtain ⟨jn, J, hT, hj1, hj2, hj3, hj⟩ := hTr.yes (by omega)
          rw [hT] at hOK
          have hJ : JOK J n jn := hOK
          refine g_iconst dX8_cut_40 ?_
          refine g_istore_n3 dX8_cut_41 rfl ?_
          have L42 : ∀ (fu42 : Nat) (x : Int) (c1 : qC), (n - x).toNat < fu42 → (0 ≤ x) → (x ≤ n) → (∀ k, k ≠ 56 → c1 k = c k) → (∀ y, 0 ≤ y → y < x → c1 56 y = y) → qG (qYn X8_cut 1 (pI (fun z c' => z = a_cut n T s g ∧ TS c' n wd N (s_cut n S T s g) mm md T ∧ FrT c c'))) wN 42 [some (qP 39), some (qI s), some (qI g), some (qI x), none] [] c1 := by
            intro fu42
            induction fu42 with
            | zero => intro x c1 hm; exact absurd hm (Nat.not_lt_zero _)
            | succ fu42 ih42 =>
              intro x c1 hm42 x0 x1 ff h1
              have r1 : c1 39 0 = n := by rw [ff 39 (by decide)]; exact t1
              refine g_iload_n (i := 3) dX8_cut_42 rfl rfl ?_
              refine g_aload_n (i := 0) dX8_cut_43 rfl rfl ?_
              refine g_getI (ji := 0) dX8_cut_44 fl8_82 (by first | rfl | assumption) (by first | decide | (show _ < 62; omega)) (by first | rfl | assumption) (by decide) rfl (by first | assumption | rfl) ?_
              refine g_icmp_ge 63 dX8_cut_47 (by decide) (fun b47 => ?_) (fun b47 => ?_)
              · skip
                refine g_iconst dX8_cut_63 ?_
                refine g_istore_n3 dX8_cut_64 rfl ?_
                have L65 : ∀ (fu65 : Nat) (k : Int) (c1 : qC), (n - k).toNat < fu65 → (0 ≤ k) → (k ≤ n - g) → (∀ k, k ≠ 56 → c1 k = c k) → (∀ y, 0 ≤ y → y < n → c1 56 y = CL J k.toNat y) → qG (qYn X8_cut 1 (pI (fun z c' => z = a_cut n T s g ∧ TS c' n wd N (s_cut n S T s g) mm md T ∧ FrT c c'))) wN 65 [some (qP 39), some (qI s), some (qI g), some (qI k), none] [] c1 := by
                  intro fu65
                  induction fu65 with
                  | zero => intro k c1 hm; exact absurd hm (Nat.not_lt_zero _)
                  | succ fu65 ih65 =>
                    intro k c1 hm65 k0 k1 ff h1
                    have r1 : c1 39 0 = n := by rw [ff 39 (by decide)]; exact t1
                    have hok := CL_ok hJ k.toNat (by omega)
                    refine g_iload_n (i := 3) dX8_cut_65 rfl rfl ?_
                    refine g_aload_n (i := 0) dX8_cut_66 rfl rfl ?_
                    refine g_getI (ji := 0) dX8_cut_67 fl8_82 (by first | rfl | assumption) (by first | decide | (show _ < 62; omega)) (by first | rfl | assumption) (by decide) rfl (by first | assumption | rfl) ?_
                    refine g_iload_n (i := 2) dX8_cut_70 rfl rfl ?_
                    refine g_isub dX8_cut_71 ?_
                    refine g_icmp_ge 138 dX8_cut_72 (by decide) (fun b72 => ?_) (fun b72 => ?_)
                    · skip
                      refine g_iconst dX8_cut_138 ?_
                      refine g_istore_n3 dX8_cut_139 rfl ?_
                      refine g_iconst dX8_cut_140 ?_
                      refine g_istore4 dX8_cut_141 rfl ?_
                      have L143 : ∀ (fu143 : Nat) (a x : Int) (c1 : qC), (n - x).toNat < fu143 → (0 ≤ x) → (x ≤ n) → (a = nb (CL J (n - g).toNat) x) → (∀ k, k ≠ 56 → k ≠ 53 → k ≠ 43 → c1 k = c k) → (∀ y, 0 ≤ y → y < n → c1 56 y = CL J (n - g).toNat y) → (∀ y, 0 ≤ y → y < x → CL J (n - g).toNat y = y → c1 53 y = nb (CL J (n - g).toNat) y) → (∀ y, 0 ≤ y → y < x → c1 43 (30 * s + y) = ctG J n g y) → (∀ t y, 0 ≤ t → t ≤ 1 → ¬ t = s → 0 ≤ y → y < n → c1 43 (30 * t + y) = c 43 (30 * t + y)) → qG (qYn X8_cut 1 (pI (fun z c' => z = a_cut n T s g ∧ TS c' n wd N (s_cut n S T s g) mm md T ∧ FrT c c'))) wN 143 [some (qP 39), some (qI s), some (qI g), some (qI a), some (qI x)] [] c1 := by
                        intro fu143
                        induction fu143 with
                        | zero => intro a x c1 hm; exact absurd hm (Nat.not_lt_zero _)
                        | succ fu143 ih143 =>
                          intro a x c1 hm143 x0 x1 ha ff hcl hnw hd ho
                          have r1 : c1 39 0 = n := by rw [ff 39 (by decide) (by decide) (by decide)]; exact t1
                          have hok := CL_ok hJ (n - g).toNat (by omega)
                          refine g_iload dX8_cut_143 rfl ?_
                          refine g_aload_n (i := 0) dX8_cut_145 rfl rfl ?_
                          refine g_getI (ji := 0) dX8_cut_146 fl8_82 (by first | rfl | assumption) (by first | decide | (show _ < 62; omega)) (by first | rfl | assumption) (by decide) rfl (by first | assumption | rfl) ?_
                          refine g_icmp_ge 205 dX8_cut_149 (by decide) (fun b149 => ?_) (fun b149 => ?_)
                          · skip
                            refine g_aload_n (i := 0) dX8_cut_205 rfl rfl ?_
                            refine g_getP dX8_cut_206 fl8_21 (by first | rfl | assumption) (by first | decide | (show _ < 62; omega)) (by first | rfl | assumption) ?_
                            refine g_iload_n (i := 1) dX8_cut_209 rfl rfl ?_
                            refine g_iload_n (i := 2) dX8_cut_210 rfl rfl ?_
                            refine g_iastore dX8_cut_211 (by first | rfl | assumption) (by first | decide | (show _ < 62; omega)) ?_
                            refine g_aload_n (i := 0) dX8_cut_212 rfl rfl ?_
                            refine g_getP dX8_cut_213 fl8_17 (by first | rfl | assumption) (by first | decide | (show _ < 62; omega)) (by first | rfl | assumption) ?_
                            refine g_iload_n (i := 1) dX8_cut_216 rfl rfl ?_
                            refine g_iconst dX8_cut_217 ?_
                            refine g_bastore dX8_cut_218 (by first | rfl | assumption) (by first | decide | (show _ < 62; omega)) (by first | exact Or.inl rfl | exact Or.inr rfl | omega) ?_
                            refine g_iconst dX8_cut_219 ?_
                            exact n_reti dX8_cut_220 rfl (⟨by unfold a_cut; rw [if_pos (by omega), hT]; exact (if_pos (by omega)).symm, by
      unfold s_cut; rw [if_pos (by omega), hT]
      show TS _ n wd N (if g ≤ n then Sup S s (ctG J n g) g else S) mm md _
      rw [if_pos (by omega)]
      rw [hT] at hS0
      exact hS0.sup (by omega) (by omega) (by show qu c1 41 s 1 41 = _; unfold qu; rw [if_pos rfl, if_pos rfl, ff 41 (by decide) (by decide) (by decide)]) (by show qu c1 42 s g 42 = _; unfold qu; rw [if_pos rfl, if_pos rfl, ff 42 (by decide) (by decide) (by decide)]) (fun r q0 q1 => ⟨hd r q0 (by omega), by have := ctG_bd (g := g) (show JOK J n (n - 1) by rw [← hj2]; exact hJ) (by omega) (by omega) q0 q1; omega⟩) ho (fun k k0 k1 k2 k3 k4 => by rw [qu_ne k2, qu_ne k3]; exact ff k (by omega) (by omega) k4), fun k hk => by rw [qu_ne (by omega), qu_ne (by omega)]; exact ff k (by omega) (by omega) (by omega)⟩)
                          · skip
                            have hcx := hcl x x0 (by omega)
                            have hokx := hok x x0
                            refine g_aload_n (i := 0) dX8_cut_152 rfl rfl ?_
                            refine g_getP dX8_cut_153 fl8_64 (by first | rfl | assumption) (by first | decide | (show _ < 62; omega)) (by first | rfl | assumption) ?_
                            refine g_iload dX8_cut_156 rfl ?_
                            refine g_iaload dX8_cut_158 rfl (by decide) ?_
                            rw [hcx]
                            skip -- ?_
                            refine g_iload dX8_cut_159 rfl ?_
                            refine g_icmp_ne 175 dX8_cut_161 (by decide) (fun b161 => ?_) (fun b161 => ?_)
                            · skip
                              refine g_aload_n (i := 0) dX8_cut_175 rfl rfl ?_
                              refine g_getP dX8_cut_176 fl8_24 (by first | rfl | assumption) (by first | decide | (show _ < 62; omega)) (by first | rfl | assumption) ?_
                              refine g_bipush dX8_cut_179 (by decide) ?_
                              refine g_iload_n (i := 1) dX8_cut_181 rfl rfl ?_
                              refine g_imul dX8_cut_182 ?_
                              refine g_iload dX8_cut_183 rfl ?_
                              refine g_iadd dX8_cut_185 ?_
                              refine g_aload_n (i := 0) dX8_cut_186 rfl rfl ?_
                              refine g_getP dX8_cut_187 fl8_55 (by first | rfl | assumption) (by first | decide | (show _ < 62; omega)) (by first | rfl | assumption) ?_
                              refine g_aload_n (i := 0) dX8_cut_190 rfl rfl ?_
                              refine g_getP dX8_cut_191 fl8_64 (by first | rfl | assumption) (by first | decide | (show _ < 62; omega)) (by first | rfl | assumption) ?_
                              refine g_iload dX8_cut_194 rfl ?_
                              refine g_iaload dX8_cut_196 rfl (by decide) ?_
                              refine g_iaload dX8_cut_197 rfl (by decide) ?_ (h0 := by first | (show 0 ≤ c1 56 x; omega)) (h1 := by first | (show c1 56 x < _; omega))
                              refine g_iastore dX8_cut_198 (by first | rfl | assumption) (by first | decide | (show _ < 62; omega)) ?_
                              refine g_iinc4 dX8_cut_199 rfl ?_
                              refine g_goto 143 dX8_cut_202 (by decide) ?_
                              exact ih143 _ _ _ (by omega) (by first | assumption | omega) (by first | assumption | omega) (by rw [nb_s x0, ← ha]; first | (rw [if_pos (by omega)]) | (rw [if_neg (by omega)]; omega)) (fun k k1 k2 k3 => by first | (rw [qu_ne k3, qu_ne k2]; exact ff k k1 k2 k3) | (rw [qu_ne k3]; exact ff k k1 k2 k3)) (fun y q0 q1 => hcl y q0 q1) (fun y q0 q1 hy => by
        by_cases h : y = x
        · subst h
          first
            | omega
            | (show qu c1 53 y a 53 y = _; rw [qu_eq]; exact ha)
        · first
            | (show qu c1 53 x a 53 y = _; rw [qu_off h]; exact hnw y q0 (by omega) hy)
            | exact hnw y q0 (by omega) hy) (fun y q0 q1 => by
        by_cases h : y = x
        · subst h
          rw [qu_eq]
          unfold ctG
          first
            | (show qu c1 53 y a 53 (qu c1 53 y a 56 y) = _
               rw [show qu c1 53 y a 56 y = CL J (n - g).toNat y from hcx, show CL J (n - g).toNat y = y by omega, qu_eq]; exact ha)
            | (rw [hcx]; exact hnw (CL J (n - g).toNat y) hokx.1.1 (by omega) hokx.2)
        · rw [qu_off (by omega)]; exact hd y q0 (by omega)) (fun t y t0 t1 ts y0 y1 => by rw [qu_off (by omega)]; exact ho t y t0 t1 ts y0 y1)
                            · skip
                              refine g_aload_n (i := 0) dX8_cut_164 rfl rfl ?_
                              refine g_getP dX8_cut_165 fl8_55 (by first | rfl | assumption) (by first | decide | (show _ < 62; omega)) (by first | rfl | assumption) ?_
                              refine g_iload dX8_cut_168 rfl ?_
                              refine g_iload_n (i := 3) dX8_cut_170 rfl rfl ?_
                              refine g_iastore dX8_cut_171 (by first | rfl | assumption) (by first | decide | (show _ < 62; omega)) ?_
                              refine g_iinc3 dX8_cut_172 rfl ?_
                              refine g_aload_n (i := 0) dX8_cut_175 rfl rfl ?_
                              refine g_getP dX8_cut_176 fl8_24 (by first | rfl | assumption) (by first | decide | (show _ < 62; omega)) (by first | rfl | assumption) ?_
                              refine g_bipush dX8_cut_179 (by decide) ?_
                              refine g_iload_n (i := 1) dX8_cut_181 rfl rfl ?_
                              refine g_imul dX8_cut_182 ?_
                              refine g_iload dX8_cut_183 rfl ?_
                              refine g_iadd dX8_cut_185 ?_
                              refine g_aload_n (i := 0) dX8_cut_186 rfl rfl ?_
                              refine g_getP dX8_cut_187 fl8_55 (by first | rfl | assumption) (by first | decide | (show _ < 62; omega)) (by first | rfl | assumption) ?_
                              refine g_aload_n (i := 0) dX8_cut_190 rfl rfl ?_
                              refine g_getP dX8_cut_191 fl8_64 (by first | rfl | assumption) (by first | decide | (show _ < 62; omega)) (by first | rfl | assumption) ?_
                              refine g_iload dX8_cut_194 rfl ?_
                              refine g_iaload dX8_cut_196 rfl (by decide) ?_
                              refine g_iaload dX8_cut_197 rfl (by decide) ?_ (h0 := by first | (show 0 ≤ c1 56 x; omega)) (h1 := by first | (show c1 56 x < _; omega))
                              refine g_iastore dX8_cut_198 (by first | rfl | assumption) (by first | decide | (show _ < 62; omega)) ?_
                              refine g_iinc4 dX8_cut_199 rfl ?_
                              refine g_goto 143 dX8_cut_202 (by decide) ?_
                              exact ih143 _ _ _ (by omega) (by first | assumption | omega) (by first | assumption | omega) (by rw [nb_s x0, ← ha]; first | (rw [if_pos (by omega)]) | (rw [if_neg (by omega)]; omega)) (fun k k1 k2 k3 => by first | (rw [qu_ne k3, qu_ne k2]; exact ff k k1 k2 k3) | (rw [qu_ne k3]; exact ff k k1 k2 k3)) (fun y q0 q1 => hcl y q0 q1) (fun y q0 q1 hy => by
        by_cases h : y = x
        · subst h
          first
            | omega
            | (show qu c1 53 y a 53 y = _; rw [qu_eq]; exact ha)
        · first
            | (show qu c1 53 x a 53 y = _; rw [qu_off h]; exact hnw y q0 (by omega) hy)
            | exact hnw y q0 (by omega) hy) (fun y q0 q1 => by
        by_cases h : y = x
        · subst h
          rw [qu_eq]
          unfold ctG
          first
            | (show qu c1 53 y a 53 (qu c1 53 y a 56 y) = _
               rw [show qu c1 53 y a 56 y = CL J (n - g).toNat y from hcx, show CL J (n - g).toNat y = y by omega, qu_eq]; exact ha)
            | (rw [hcx]; exact hnw (CL J (n - g).toNat y) hokx.1.1 (by omega) hokx.2)
        · rw [qu_off (by omega)]; exact hd y q0 (by omega)) (fun t y t0 t1 ts y0 y1 => by rw [qu_off (by omega)]; exact ho t y t0 t1 ts y0 y1)
                      exact L143 _ _ _ _ (Nat.lt_succ_self _) (by first | assumption | omega) (by first | assumption | omega) rfl (fun k k1 _ _ => ff k k1) (fun y q0 q1 => by rw [h1 y q0 q1, show k = n - g by omega]) (fun y q0 q1 => by omega) (fun y q0 q1 => by omega) (fun t y _ _ _ _ _ => by rw [ff 43 (by decide)])
                    · skip
                      refine g_iconst dX8_cut_75 ?_
                      refine g_istore4 dX8_cut_76 rfl ?_
                      have L78 : ∀ (fu78 : Nat) (x : Int) (c2 : qC), (n - x).toNat < fu78 → (0 ≤ x) → (x ≤ n) → (∀ k, k ≠ 56 → c2 k = c k) → (∀ y, 0 ≤ y → y < x → c2 56 y = CL J (k + 1).toNat y) → (∀ y, x ≤ y → y < n → c2 56 y = CL J k.toNat y) → qG (qYn X8_cut 1 (pI (fun z c' => z = a_cut n T s g ∧ TS c' n wd N (s_cut n S T s g) mm md T ∧ FrT c c'))) wN 78 [some (qP 39), some (qI s), some (qI g), some (qI k), some (qI x)] [] c2 := by
                        intro fu78
                        induction fu78 with
                        | zero => intro x c2 hm; exact absurd hm (Nat.not_lt_zero _)
                        | succ fu78 ih78 =>
                          intro x c2 hm78 x0 x1 ff2 h2 h3
                          have r2 : c2 39 0 = n := by rw [ff2 39 (by decide)]; exact t1
                          have hAk := hj k k0 (by omega)
                          have hJk := hJ k k0 (by omega)
                          have hak : c2 45 k = J 0 k := by rw [ff2 45 (by decide)]; exact hAk.1.1
                          have hbk : c2 46 k = J 1 k := by rw [ff2 46 (by decide)]; exact hAk.1.2.1
                          refine g_iload dX8_cut_78 rfl ?_
                          refine g_aload_n (i := 0) dX8_cut_80 rfl rfl ?_
                          refine g_getI (ji := 0) dX8_cut_81 fl8_82 (by first | rfl | assumption) (by first | decide | (show _ < 62; omega)) (by first | rfl | assumption) (by decide) rfl (by first | assumption | rfl) ?_
                          refine g_icmp_ge 132 dX8_cut_84 (by decide) (fun b84 => ?_) (fun b84 => ?_)
                          · skip
                            refine g_iinc3 dX8_cut_132 rfl ?_
                            refine g_goto 65 dX8_cut_135 (by decide) ?_
                            refine g_fg4 ?_
                            exact ih65 _ _ (by omega) (by first | assumption | omega) (by first | assumption | omega) ff2 (fun y q0 q1 => h2 y q0 (by omega))
                          · skip
                            have hcx := h3 x (by omega) (by omega)
                            have hokx := hok x x0
                            refine g_aload_n (i := 0) dX8_cut_87 rfl rfl ?_
                            refine g_getP dX8_cut_88 fl8_64 (by first | rfl | assumption) (by first | decide | (show _ < 62; omega)) (by first | rfl | assumption) ?_
                            refine g_iload dX8_cut_91 rfl ?_
                            refine g_aload_n (i := 0) dX8_cut_93 rfl rfl ?_
                            refine g_getP dX8_cut_94 fl8_64 (by first | rfl | assumption) (by first | decide | (show _ < 62; omega)) (by first | rfl | assumption) ?_
                            refine g_iload dX8_cut_97 rfl ?_
                            refine g_iaload dX8_cut_99 rfl (by decide) ?_
                            rw [hcx]
                            skip -- ?_
                            refine g_aload_n (i := 0) dX8_cut_100 rfl rfl ?_
                            refine g_getP dX8_cut_101 fl8_33 (by first | rfl | assumption) (by first | decide | (show _ < 62; omega)) (by first | rfl | assumption) ?_
                            refine g_iload_n (i := 3) dX8_cut_104 rfl rfl ?_
                            refine g_iaload dX8_cut_105 rfl (by decide) ?_
                            rw [hbk]
                            skip -- ?_
                            refine g_icmp_ne 118 dX8_cut_106 (by decide) (fun b106 => ?_) (fun b106 => ?_)
                            · skip
                              refine g_aload_n (i := 0) dX8_cut_118 rfl rfl ?_
                              refine g_getP dX8_cut_119 fl8_64 (by first | rfl | assumption) (by first | decide | (show _ < 62; omega)) (by first | rfl | assumption) ?_
                              refine g_iload dX8_cut_122 rfl ?_
                              refine g_iaload dX8_cut_124 rfl (by decide) ?_
                              rw [hcx]
                              skip -- ?_
                              refine g_iastore dX8_cut_125 (by first | rfl | assumption) (by first | decide | (show _ < 62; omega)) ?_
                              refine g_iinc4 dX8_cut_126 rfl ?_
                              refine g_goto 78 dX8_cut_129 (by decide) ?_
                              exact ih78 _ _ (by omega) (by first | assumption | omega) (by first | assumption | omega) (fun k hk => by rw [qu_ne hk]; exact ff2 k hk) (fun y q0 q1 => by
            by_cases h : y = x
            · subst h
              rw [CL_s k0, qu_eq]
              first
                | (rw [if_pos (by omega)])
                | (rw [if_neg (by omega)])
            · rw [qu_off h]; exact h2 y q0 (by omega)) (fun y q0 q1 => by rw [qu_off (by omega)]; exact h3 y (by omega) q1)
                            · skip
                              refine g_aload_n (i := 0) dX8_cut_109 rfl rfl ?_
                              refine g_getP dX8_cut_110 fl8_30 (by first | rfl | assumption) (by first | decide | (show _ < 62; omega)) (by first | rfl | assumption) ?_
                              refine g_iload_n (i := 3) dX8_cut_113 rfl rfl ?_
                              refine g_iaload dX8_cut_114 rfl (by decide) ?_
                              rw [hak]
                              skip -- ?_
                              refine g_goto 125 dX8_cut_115 (by decide) ?_
                              refine g_iastore dX8_cut_125 (by first | rfl | assumption) (by first | decide | (show _ < 62; omega)) ?_
                              refine g_iinc4 dX8_cut_126 rfl ?_
                              refine g_goto 78 dX8_cut_129 (by decide) ?_
                              exact ih78 _ _ (by omega) (by first | assumption | omega) (by first | assumption | omega) (fun k hk => by rw [qu_ne hk]; exact ff2 k hk) (fun y q0 q1 => by
            by_cases h : y = x
            · subst h
              rw [CL_s k0, qu_eq]
              first
                | (rw [if_pos (by omega)])
                | (rw [if_neg (by omega)])
            · rw [qu_off h]; exact h2 y q0 (by omega)) (fun y q0 q1 => by rw [qu_off (by omega)]; exact h3 y (by omega) q1)
                      exact L78 _ _ _ (Nat.lt_succ_self _) (by first | assumption | omega) (by first | assumption | omega) ff (fun y q0 q1 => by omega) (fun y q0 q1 => h1 y (by omega) q1)
                exact L65 _ _ _ (Nat.lt_succ_self _) (by first | assumption | omega) (by first | assumption | omega) (by first | assumption | omega) (fun y q0 q1 => h1 y q0 (by omega))
              · skip
                refine g_aload_n (i := 0) dX8_cut_50 rfl rfl ?_
                refine g_getP dX8_cut_51 fl8_64 (by first | rfl | assumption) (by first | decide | (show _ < 62; omega)) (by first | rfl | assumption) ?_
                refine g_iload_n (i := 3) dX8_cut_54 rfl rfl ?_
                refine g_iload_n (i := 3) dX8_cut_55 rfl rfl ?_
                refine g_iastore dX8_cut_56 (by first | rfl | assumption) (by first | decide | (show _ < 62; omega)) ?_
                refine g_iinc3 dX8_cut_57 rfl ?_
                refine g_goto 42 dX8_cut_60 (by decide) ?_
                exact ih42 _ _ (by omega) (by first | assumption | omega) (by first | assumption | omega) (fun k hk => by rw [qu_ne hk]; exact ff k hk) (fun y q0 q1 => by
        rw [qu_at]; split
        · rename_i h; exact h.symm
        · exact h1 y q0 (by omega))
          exact L42 _ _ _ (Nat.lt_succ_self _) (by first | assumption | omega) (by first | assumption | omega) (fun k _ => rfl) (fun y q0 q1 => by omega)
        · skip
          have hno : T = none ∨ n < g := by by_cases h : c 39 8 = 0; exact Or.inl (hTr.no h); exact Or.inr (by omega)
          refine g_ldc (z := -2000000003) dX8_cut_37 cw8_97 ?_
          exact n_reti dX8_cut_39 rfl (⟨by
      unfold a_cut; rw [if_pos (by omega)]
      rcases hno with h | h
      · rw [h]
      · cases T with
        | none => rfl
        | some p => exact (if_neg (by omega)).symm, by
      unfold s_cut; rw [if_pos (by omega)]
      rcases hno with h | h
      · rw [h]; rw [h] at hS0; exact hS0
      · cases T with
        | none => exact hS0
        | some p => show TS c n wd N (if g ≤ n then _ else S) mm md _; rw [if_neg (by omega)]; exact hS0, FrT.rf c⟩)
    · skip
      refine g_ldc (z := -2000000002) dX8_cut_19 cw8_96 ?_
      exact n_reti dX8_cut_21 rfl (⟨by unfold a_cut; rw [if_neg (by omega)], by unfold s_cut; rw [if_neg (by omega)]; exact hS0, FrT.rf c⟩)
