/-! what the loops of WindowMeters count, as they count it -/
def qc_cnt (f : Nat → Int32) : Nat → Nat
  | 0 => 0
  | i + 1 => if f i = 0 then qc_cnt f i else qc_cnt f i + 1
def qc_sum (v f : Nat → Int32) : Nat → Int32
  | 0 => 0
  | i + 1 => if f i = 0 then qc_sum v f i else qc_sum v f i + v i
def qc_bel (v f : Nat → Int32) (x : Int32) : Nat → Nat
  | 0 => 0
  | i + 1 => if f i = 0 then qc_bel v f x i else if x ≤ v i then qc_bel v f x i else qc_bel v f x i + 1
def qc_eqc (v f : Nat → Int32) (x : Int32) : Nat → Nat
  | 0 => 0
  | i + 1 => if f i = 0 then qc_eqc v f x i else if v i = x then qc_eqc v f x i + 1 else qc_eqc v f x i
/-- a number of a tuple, or NONE -/
def qc_o (o : Option Nat) : Int32 := match o with
  | none => -1
  | some j => nI j
def qc_unl (v : Nat → Int32) (b : Nat → Nat) (f : Nat → Int32) : Nat → Nat × Option Nat
  | 0 => (0, none)
  | i + 1 => if f (b i) = 0 then qc_unl v b f i else
    (match (qc_unl v b f i).2 with
      | none => (qc_unl v b f i).1 + 1
      | some j => if v (b i) = v j then (qc_unl v b f i).1 else (qc_unl v b f i).1 + 1, some (b i))
/-- how often, with the next one x -/
def qc_oft (v : Nat → Int32) (x : Int32) (lo : Option Nat) (o : Nat) : Nat := match lo with
  | none => 1
  | some j => if x = v j then o + 1 else 1
/-- findMostFrequent: (most, mostOften, last, often) -/
def qc_fmf (v : Nat → Int32) (b : Nat → Nat) (f : Nat → Int32) : Nat → Option Nat × Nat × Option Nat × Nat
  | 0 => (none, 0, none, 0)
  | i + 1 => if f (b i) = 0 then qc_fmf v b f i else
    let q := qc_fmf v b f i
    let o := qc_oft v (v (b i)) q.2.2.1 q.2.2.2
    if q.2.1 < o then (some (b i), o, some (b i), o) else (q.1, q.2.1, some (b i), o)
def qc_cnb (b : Nat → Nat) (f : Nat → Int32) : Nat → Nat
  | 0 => 0
  | i + 1 => if f (b i) = 0 then qc_cnb b f i else qc_cnb b f i + 1
/-- countMostFrequent -/
def qc_cmf (v : Nat → Int32) (b : Nat → Nat) (f : Nat → Int32) (n : Nat) : Int32 := match (qc_fmf v b f n).1 with
  | none => 0
  | some j => nI (qc_eqc v f (v j) n)
theorem qc_o_none {o : Option Nat} (hN : ∀ j, o = some j → j < 2 ^ 31) (h : qc_o o = -1) : o = none := by
  cases o with
  | none => rfl
  | some j => exact absurd h (yn_m1 (hN j rfl))
theorem qc_o_some {o : Option Nat} (h : ¬ qc_o o = -1) : ∃ j, o = some j := by
  cases o with
  | none => exact absurd rfl h
  | some j => exact ⟨j, rfl⟩
theorem qc_cnt_le (f : Nat → Int32) : ∀ i, qc_cnt f i ≤ i
  | 0 => Nat.le_refl 0
  | i + 1 => by have := qc_cnt_le f i; unfold qc_cnt; split <;> omega
theorem qc_unl_in {v : Nat → Int32} {b : Nat → Nat} {f : Nat → Int32} {n : Nat} (hb : ∀ j, j < n → b j < n) : ∀ i, i ≤ n → ∀ j, (qc_unl v b f i).2 = some j → j < n
  | 0, _, j, h => by cases h
  | i + 1, hi, j, h => by
    unfold qc_unl at h
    split at h
    · exact qc_unl_in hb i (by omega) j h
    · cases h
      exact hb i (by omega)
theorem qc_fmf_in {v : Nat → Int32} {b : Nat → Nat} {f : Nat → Int32} {n : Nat} (hb : ∀ j, j < n → b j < n) : ∀ i, i ≤ n → (∀ j, (qc_fmf v b f i).1 = some j → j < n) ∧ (∀ j, (qc_fmf v b f i).2.2.1 = some j → j < n) ∧ (qc_fmf v b f i).2.1 ≤ i ∧ (qc_fmf v b f i).2.2.2 ≤ i := by
  intro i
  induction i with
  | zero =>
    intro _
    refine ⟨fun j h => ?_, fun j h => ?_, Nat.le_refl 0, Nat.le_refl 0⟩
    · cases h
    · cases h
  | succ i ih =>
    intro hi
    obtain ⟨h1, h2, h3, h4⟩ := ih (by omega)
    rw [qc_fmf]
    by_cases hf : f (b i) = 0
    · rw [if_pos hf]; exact ⟨h1, h2, by omega, by omega⟩
    · rw [if_neg hf]
      obtain ⟨o, ho⟩ : ∃ o : Nat, o = qc_oft v (v (b i)) (qc_fmf v b f i).2.2.1 (qc_fmf v b f i).2.2.2 := ⟨_, rfl⟩
      have hol : o ≤ i + 1 := by
        rw [ho]
        cases (qc_fmf v b f i).2.2.1 with
        | none => exact Nat.succ_le_succ (Nat.zero_le i)
        | some j =>
          show (if v (b i) = v j then (qc_fmf v b f i).2.2.2 + 1 else 1) ≤ i + 1
          by_cases e : v (b i) = v j
          · rw [if_pos e]; exact Nat.succ_le_succ h4
          · rw [if_neg e]; exact Nat.succ_le_succ (Nat.zero_le i)
      dsimp only
      rw [← ho]
      have hbi : ∀ j, some (b i) = some j → j < n := fun j h => by cases h; exact hb i (by omega)
      by_cases hlt : (qc_fmf v b f i).2.1 < o
      · rw [if_pos hlt]; exact ⟨hbi, hbi, hol, hol⟩
      · rw [if_neg hlt]; exact ⟨h1, hbi, Nat.le_succ_of_le h3, hol⟩
set_option maxRecDepth 100000 in
set_option maxHeartbeats 4000000 in
/-- countInside(): how many are marked -/
theorem c_countInside (l : Launch) (dC : Nat → ClassId) (dI : Nat → Nat → Nat) (ca : Nat → ClassId) (ad : Nat → Nat) (sz : Nat) (t : Nat → Int32) (k : Nat → Nat) (v : Nat → Int32) (b : Nat → Nat) (n : Nat) (kd : Nat → Int32) (ln : Nat → Int32) (w : Nat) (nw : Int32) (ins : Nat → Int32) (hn : n ≤ 300) : Met l yX0_countInside wsX0_countInside ({ frames := 0, cells := 0, slots := 0, locals := 0 }) (va_Pc [.ref (ad 0)] (wmPre dC dI ca ad sz t k v b n kd ln w nw ins)) (vp_Si (fun r => r = nI (qc_cnt ins n))) 0 0 (fun _ => False) := by
  refine Met.ofW (cc := cX0_countInside) (maxL := 3) (ret := (some .int)) (by decide) rfl ?_
  intro p e s m args below meth c s₁ B hml hv
  obtain ⟨rfl, hsz, hP, hK, hD0⟩ := hv
  have hx := B.exec
  have hb := B.bytes
  have hr := B.returns
  have hts := atoms_spec (ws := wsX0_countInside) B.pre
  have hown : s.vm.findClass RX0 = some m.cls := findClass_of_methodNamed B.named
  have hlocks := B.notSynchronized
  subst hsz
  have hin0 : ∀ w ∈ u_ws RX0 TX0 10, w ∈ wsX0_countInside := fun w h => List.mem_cons_of_mem _ (wiX0 w h)
  have fl_28 := hts _ (List.mem_cons_of_mem _ flX0_28)
  have fl_32 := hts _ (List.mem_cons_of_mem _ flX0_32)
  have hD := hD0
  have hl := lv_entry ([.ref (ad 0)]) (n := 3) (Nat.le_of_ble_eq_true rfl)
  rw [lg_entry_eq]
  generalize (lg_sl ([.ref (ad 0)]) ++ List.replicate (3 - (lg_sl ([.ref (ad 0)])).length) Slot.unset).toArray = ls at hl ⊢
  have hl : lv_has ls 3 [(0, .ref (ad 0))] := hl
  refine lv_iconst (v := 0) hx hb dX0_countInside_0 (by decide) ?_
  refine lv_istore_n (lv' := [(1, .int 0), (0, .ref (ad 0))]) hx hb dX0_countInside_1 rfl hl (by decide) rfl (fun ls hl => ?_)
  refine lv_iconst (v := 0) hx hb dX0_countInside_2 (by decide) ?_
  refine lv_istore_n (lv' := [(2, .int 0), (1, .int 0), (0, .ref (ad 0))]) hx hb dX0_countInside_3 rfl hl (by decide) rfl (fun ls hl => ?_)
  have loop : ∀ (d i : Nat) (x1 : Int32), i ≤ n → n + 1 ≤ i + d → (x1 = nI (qc_cnt ins i)) → ∀ (ls : Array Slot), lv_has ls 3 [(0, .ref (ad 0)), (1, .int x1), (2, .int (nI i))] → W p l e (headSpec wsX0_countInside ({ frames := 0, cells := 0, slots := 0, locals := 0 })).room s m ([.ref (ad 0)] : List Value).toArray below meth c s.heap [] 0 0 (MQ below (vp_Si (fun r => r = nI (qc_cnt ins n))) ([.ref (ad 0)] : List Value).toArray s 0 0 (fun _ => False)) (F0 m 4 ls []) := by
    intro d
    induction d with
    | zero =>
      intro i x1 hi hfu
      exact absurd hfu (by omega)
    | succ d ih =>
      intro i x1 hi hfu hx1 ls hl
      refine lv_iload_n hx hb dX0_countInside_4 rfl (lv_at hl 2 rfl) ?_
      refine lv_aload_n hx hb dX0_countInside_5 rfl (lv_at hl 0 rfl) ?_
      refine va_get (D := (dC, dI)) (ci := 0) (v := .int (nI n)) (C := RX0) (T := TX0) (N := 10) hx hb hts hin0 hown hK hP 0 rfl rfl 4 (by decide) fl_32 (fun _ h9 => h9) rfl dX0_countInside_6 ?_
      refine yb_ge (tgt := 30) (by omega) (by omega) hx hb dX0_countInside_9 (by decide) (fun c_1 => ?_) (fun c_1 => ?_)
      · refine lv_iload_n hx hb dX0_countInside_30 rfl (lv_at hl 1 rfl) ?_
        exact W.iret (v := x1) hx hb hr (fun t ht hW => ⟨_, rfl, by rw [hx1, show i = n from by omega], ht⟩) (fun q h => by cases h) dX0_countInside_31
      · refine lv_aload_n hx hb dX0_countInside_12 rfl (lv_at hl 0 rfl) ?_
        refine va_get (D := (dC, dI)) (ci := 0) (v := .ref (ad 7)) (C := RX0) (T := TX0) (N := 10) hx hb hts hin0 hown hK hP 0 rfl rfl 9 (by decide) fl_28 (fun _ h9 => h9) rfl dX0_countInside_13 ?_
        refine lv_iload_n hx hb dX0_countInside_16 rfl (lv_at hl 2 rfl) ?_
        refine ya_zald hx hb hK hP 7 6 rfl rfl (j := i) (by omega) (by decide) dX0_countInside_17 ?_
        refine lv_if_eq (tgt := 24) hx hb dX0_countInside_18 (by decide) (fun c_2 => ?_) (fun c_2 => ?_)
        · refine lv_iinc (v := (nI (i + 1))) (lv' := [(2, .int (nI (i + 1))), (0, .ref (ad 0)), (1, .int x1)]) hx hb dX0_countInside_24 hl (k := 2) rfl (yn_inc _) (by decide) rfl (fun ls hl => ?_)
          refine lv_goto (tgt := 4) hx hb dX0_countInside_27 (by decide) ?_
          exact ih (i + 1) x1 (by omega) (by omega) (by rw [hx1]; simp [qc_cnt, c_2]) ls (lv_sub hl [1, 2, 0] rfl)
        · subst hx1
          refine lv_iinc (v := (nI ((qc_cnt ins i) + 1))) (lv' := [(1, .int (nI ((qc_cnt ins i) + 1))), (0, .ref (ad 0)), (2, .int (nI i))]) hx hb dX0_countInside_21 hl (k := 1) rfl (yn_inc _) (by decide) rfl (fun ls hl => ?_)
          refine lv_iinc (v := (nI (i + 1))) (lv' := [(2, .int (nI (i + 1))), (1, .int (nI ((qc_cnt ins i) + 1))), (0, .ref (ad 0))]) hx hb dX0_countInside_24 hl (k := 2) rfl (yn_inc _) (by decide) rfl (fun ls hl => ?_)
          refine lv_goto (tgt := 4) hx hb dX0_countInside_27 (by decide) ?_
          exact ih (i + 1) _ (by omega) (by omega) (by simp [qc_cnt, c_2]) ls (lv_sub hl [2, 1, 0] rfl)
  exact loop (n + 1) 0 0 (Nat.zero_le n) (by omega) rfl ls (lv_sub hl [2, 1, 0] rfl)

set_option maxRecDepth 100000 in
set_option maxHeartbeats 4000000 in
/-- sumInside(): the sum of the marked -/
theorem c_sumInside (l : Launch) (dC : Nat → ClassId) (dI : Nat → Nat → Nat) (ca : Nat → ClassId) (ad : Nat → Nat) (sz : Nat) (t : Nat → Int32) (k : Nat → Nat) (v : Nat → Int32) (b : Nat → Nat) (n : Nat) (kd : Nat → Int32) (ln : Nat → Int32) (w : Nat) (nw : Int32) (ins : Nat → Int32) (hn : n ≤ 300) : Met l yX0_sumInside wsX0_sumInside ({ frames := 0, cells := 0, slots := 0, locals := 0 }) (va_Pc [.ref (ad 0)] (wmPre dC dI ca ad sz t k v b n kd ln w nw ins)) (vp_Si (fun r => r = qc_sum v ins n)) 0 0 (fun _ => False) := by
  refine Met.ofW (cc := cX0_sumInside) (maxL := 3) (ret := (some .int)) (by decide) rfl ?_
  intro p e s m args below meth c s₁ B hml hv
  obtain ⟨rfl, hsz, hP, hK, hD0⟩ := hv
  have hx := B.exec
  have hb := B.bytes
  have hr := B.returns
  have hts := atoms_spec (ws := wsX0_sumInside) B.pre
  have hown : s.vm.findClass RX0 = some m.cls := findClass_of_methodNamed B.named
  have hlocks := B.notSynchronized
  subst hsz
  have hin0 : ∀ w ∈ u_ws RX0 TX0 10, w ∈ wsX0_sumInside := fun w h => List.mem_cons_of_mem _ (wiX0 w h)
  have fl_16 := hts _ (List.mem_cons_of_mem _ flX0_16)
  have fl_28 := hts _ (List.mem_cons_of_mem _ flX0_28)
  have fl_32 := hts _ (List.mem_cons_of_mem _ flX0_32)
  have hD := hD0
  have hl := lv_entry ([.ref (ad 0)]) (n := 3) (Nat.le_of_ble_eq_true rfl)
  rw [lg_entry_eq]
  generalize (lg_sl ([.ref (ad 0)]) ++ List.replicate (3 - (lg_sl ([.ref (ad 0)])).length) Slot.unset).toArray = ls at hl ⊢
  have hl : lv_has ls 3 [(0, .ref (ad 0))] := hl
  refine lv_iconst (v := 0) hx hb dX0_sumInside_0 (by decide) ?_
  refine lv_istore_n (lv' := [(1, .int 0), (0, .ref (ad 0))]) hx hb dX0_sumInside_1 rfl hl (by decide) rfl (fun ls hl => ?_)
  refine lv_iconst (v := 0) hx hb dX0_sumInside_2 (by decide) ?_
  refine lv_istore_n (lv' := [(2, .int 0), (1, .int 0), (0, .ref (ad 0))]) hx hb dX0_sumInside_3 rfl hl (by decide) rfl (fun ls hl => ?_)
  have loop : ∀ (d i : Nat) (x1 : Int32), i ≤ n → n + 1 ≤ i + d → (x1 = qc_sum v ins i) → ∀ (ls : Array Slot), lv_has ls 3 [(0, .ref (ad 0)), (1, .int x1), (2, .int (nI i))] → W p l e (headSpec wsX0_sumInside ({ frames := 0, cells := 0, slots := 0, locals := 0 })).room s m ([.ref (ad 0)] : List Value).toArray below meth c s.heap [] 0 0 (MQ below (vp_Si (fun r => r = qc_sum v ins n)) ([.ref (ad 0)] : List Value).toArray s 0 0 (fun _ => False)) (F0 m 4 ls []) := by
    intro d
    induction d with
    | zero =>
      intro i x1 hi hfu
      exact absurd hfu (by omega)
    | succ d ih =>
      intro i x1 hi hfu hx1 ls hl
      refine lv_iload_n hx hb dX0_sumInside_4 rfl (lv_at hl 2 rfl) ?_
      refine lv_aload_n hx hb dX0_sumInside_5 rfl (lv_at hl 0 rfl) ?_
      refine va_get (D := (dC, dI)) (ci := 0) (v := .int (nI n)) (C := RX0) (T := TX0) (N := 10) hx hb hts hin0 hown hK hP 0 rfl rfl 4 (by decide) fl_32 (fun _ h9 => h9) rfl dX0_sumInside_6 ?_
      refine yb_ge (tgt := 36) (by omega) (by omega) hx hb dX0_sumInside_9 (by decide) (fun c_1 => ?_) (fun c_1 => ?_)
      · refine lv_iload_n hx hb dX0_sumInside_36 rfl (lv_at hl 1 rfl) ?_
        exact W.iret (v := x1) hx hb hr (fun t ht hW => ⟨_, rfl, by rw [hx1, show i = n from by omega], ht⟩) (fun q h => by cases h) dX0_sumInside_37
      · refine lv_aload_n hx hb dX0_sumInside_12 rfl (lv_at hl 0 rfl) ?_
        refine va_get (D := (dC, dI)) (ci := 0) (v := .ref (ad 7)) (C := RX0) (T := TX0) (N := 10) hx hb hts hin0 hown hK hP 0 rfl rfl 9 (by decide) fl_28 (fun _ h9 => h9) rfl dX0_sumInside_13 ?_
        refine lv_iload_n hx hb dX0_sumInside_16 rfl (lv_at hl 2 rfl) ?_
        refine ya_zald hx hb hK hP 7 6 rfl rfl (j := i) (by omega) (by decide) dX0_sumInside_17 ?_
        refine lv_if_eq (tgt := 30) hx hb dX0_sumInside_18 (by decide) (fun c_2 => ?_) (fun c_2 => ?_)
        · refine lv_iinc (v := (nI (i + 1))) (lv' := [(2, .int (nI (i + 1))), (0, .ref (ad 0)), (1, .int x1)]) hx hb dX0_sumInside_30 hl (k := 2) rfl (yn_inc _) (by decide) rfl (fun ls hl => ?_)
          refine lv_goto (tgt := 4) hx hb dX0_sumInside_33 (by decide) ?_
          exact ih (i + 1) x1 (by omega) (by omega) (by rw [hx1]; simp [qc_sum, c_2]) ls (lv_sub hl [1, 2, 0] rfl)
        · refine lv_iload_n hx hb dX0_sumInside_21 rfl (lv_at hl 1 rfl) ?_
          refine lv_aload_n hx hb dX0_sumInside_22 rfl (lv_at hl 0 rfl) ?_
          refine va_get (D := (dC, dI)) (ci := 0) (v := .ref (ad 3)) (C := RX0) (T := TX0) (N := 10) hx hb hts hin0 hown hK hP 0 rfl rfl 2 (by decide) fl_16 (fun _ h9 => h9) rfl dX0_sumInside_23 ?_
          refine lv_iload_n hx hb dX0_sumInside_26 rfl (lv_at hl 2 rfl) ?_
          refine ya_iald hx hb hK hP 3 2 rfl rfl (j := i) (by omega) (by decide) dX0_sumInside_27 ?_
          refine lv_iadd hx hb dX0_sumInside_28 ?_
          refine lv_istore_n (lv' := [(1, .int (x1 + (v i))), (0, .ref (ad 0)), (2, .int (nI i))]) hx hb dX0_sumInside_29 rfl hl (by decide) rfl (fun ls hl => ?_)
          refine lv_iinc (v := (nI (i + 1))) (lv' := [(2, .int (nI (i + 1))), (1, .int (x1 + (v i))), (0, .ref (ad 0))]) hx hb dX0_sumInside_30 hl (k := 2) rfl (yn_inc _) (by decide) rfl (fun ls hl => ?_)
          refine lv_goto (tgt := 4) hx hb dX0_sumInside_33 (by decide) ?_
          exact ih (i + 1) _ (by omega) (by omega) (by rw [hx1]; simp [qc_sum, c_2]) ls (lv_sub hl [2, 1, 0] rfl)
  exact loop (n + 1) 0 0 (Nat.zero_le n) (by omega) rfl ls (lv_sub hl [2, 1, 0] rfl)

set_option maxRecDepth 100000 in
set_option maxHeartbeats 4000000 in
/-- isInside(i) -/
theorem c_isInside (l : Launch) (dC : Nat → ClassId) (dI : Nat → Nat → Nat) (ca : Nat → ClassId) (ad : Nat → Nat) (sz : Nat) (t : Nat → Int32) (k : Nat → Nat) (v : Nat → Int32) (b : Nat → Nat) (n : Nat) (kd : Nat → Int32) (ln : Nat → Int32) (w : Nat) (nw : Int32) (ins : Nat → Int32) (j0 : Nat) (hn : n ≤ 300) (hj0 : j0 < n) : Met l yX0_isInside wsX0_isInside ({ frames := 0, cells := 0, slots := 0, locals := 0 }) (va_Pc [.ref (ad 0), .int (nI j0)] (wmPre dC dI ca ad sz t k v b n kd ln w nw ins)) (vp_Si (fun r => r = 0 ↔ ins j0 = 0)) 0 0 (fun _ => False) := by
  refine Met.ofW (cc := cX0_isInside) (maxL := 2) (ret := (some .boolean)) (by decide) rfl ?_
  intro p e s m args below meth c s₁ B hml hv
  obtain ⟨rfl, hsz, hP, hK, hD0⟩ := hv
  have hx := B.exec
  have hb := B.bytes
  have hr := B.returns
  have hts := atoms_spec (ws := wsX0_isInside) B.pre
  have hown : s.vm.findClass RX0 = some m.cls := findClass_of_methodNamed B.named
  have hlocks := B.notSynchronized
  subst hsz
  have hin0 : ∀ w ∈ u_ws RX0 TX0 10, w ∈ wsX0_isInside := fun w h => List.mem_cons_of_mem _ (wiX0 w h)
  have fl_28 := hts _ (List.mem_cons_of_mem _ flX0_28)
  have fl_32 := hts _ (List.mem_cons_of_mem _ flX0_32)
  have hD := hD0
  have hl := lv_entry ([.ref (ad 0), .int (nI j0)]) (n := 2) (Nat.le_of_ble_eq_true rfl)
  rw [lg_entry_eq]
  generalize (lg_sl ([.ref (ad 0), .int (nI j0)]) ++ List.replicate (2 - (lg_sl ([.ref (ad 0), .int (nI j0)])).length) Slot.unset).toArray = ls at hl ⊢
  have hl : lv_has ls 2 [(0, .ref (ad 0)), (1, .int (nI j0))] := hl
  refine lv_iload_n hx hb dX0_isInside_0 rfl (lv_at hl 1 rfl) ?_
  refine lv_if_lt (tgt := 25) hx hb dX0_isInside_1 (by decide) (fun c_1 => ?_) (fun c_1 => ?_)
  · exact absurd c_1 (nI_pos (by omega))
  · refine lv_iload_n hx hb dX0_isInside_4 rfl (lv_at hl 1 rfl) ?_
    refine lv_aload_n hx hb dX0_isInside_5 rfl (lv_at hl 0 rfl) ?_
    refine va_get (D := (dC, dI)) (ci := 0) (v := .int (nI n)) (C := RX0) (T := TX0) (N := 10) hx hb hts hin0 hown hK hP 0 rfl rfl 4 (by decide) fl_32 (fun _ h9 => h9) rfl dX0_isInside_6 ?_
    refine yb_ge (tgt := 25) (by omega) (by omega) hx hb dX0_isInside_9 (by decide) (fun c_2 => ?_) (fun c_2 => ?_)
    · exact absurd c_2 (by omega)
    · refine lv_aload_n hx hb dX0_isInside_12 rfl (lv_at hl 0 rfl) ?_
      refine va_get (D := (dC, dI)) (ci := 0) (v := .ref (ad 7)) (C := RX0) (T := TX0) (N := 10) hx hb hts hin0 hown hK hP 0 rfl rfl 9 (by decide) fl_28 (fun _ h9 => h9) rfl dX0_isInside_13 ?_
      refine lv_iload_n hx hb dX0_isInside_16 rfl (lv_at hl 1 rfl) ?_
      refine ya_zald hx hb hK hP 7 6 rfl rfl (j := j0) (by omega) (by decide) dX0_isInside_17 ?_
      refine lv_if_eq (tgt := 25) hx hb dX0_isInside_18 (by decide) (fun c_3 => ?_) (fun c_3 => ?_)
      · refine lv_iconst (v := 0) hx hb dX0_isInside_25 (by decide) ?_
        exact W.zret (v := 0) hx hb hr (by decide) (fun t9 ht hW => ⟨_, rfl, ⟨fun _ => c_3, fun _ => rfl⟩, ht⟩) (fun q h => by cases h) dX0_isInside_26
      · refine lv_iconst (v := 1) hx hb dX0_isInside_21 (by decide) ?_
        refine lv_goto (tgt := 26) hx hb dX0_isInside_22 (by decide) ?_
        exact W.zret (v := 1) hx hb hr (by decide) (fun t9 ht hW => ⟨_, rfl, ⟨fun q => absurd q (by decide), fun q => absurd q c_3⟩, ht⟩) (fun q h => by cases h) dX0_isInside_26

set_option maxRecDepth 100000 in
set_option maxHeartbeats 4000000 in
/-- countUnlike() -/
theorem c_countUnlike (l : Launch) (dC : Nat → ClassId) (dI : Nat → Nat → Nat) (ca : Nat → ClassId) (ad : Nat → Nat) (sz : Nat) (t : Nat → Int32) (k : Nat → Nat) (v : Nat → Int32) (b : Nat → Nat) (n : Nat) (kd : Nat → Int32) (ln : Nat → Int32) (w : Nat) (nw : Int32) (ins : Nat → Int32) (hn : n ≤ 300) (hbn : ∀ j, j < n → b j < n) : Met l yX0_countUnlike wsX0_countUnlike ({ frames := 1, cells := 0, slots := 0, locals := 21 }) (va_Pc [.ref (ad 0)] (wmPre dC dI ca ad sz t k v b n kd ln w nw ins)) (vp_Si (fun r => r = nI (qc_unl v b ins n).1)) 0 0 (fun _ => False) := by
  refine Met.ofW (cc := cX0_countUnlike) (maxL := 5) (ret := (some .int)) (by decide) rfl ?_
  intro p e s m args below meth c s₁ B hml hv
  obtain ⟨rfl, hsz, hP, hK, hD0⟩ := hv
  have hx := B.exec
  have hb := B.bytes
  have hr := B.returns
  have hts := atoms_spec (ws := wsX0_countUnlike) B.pre
  have hown : s.vm.findClass RX0 = some m.cls := findClass_of_methodNamed B.named
  have hlocks := B.notSynchronized
  subst hsz
  have hin0 : ∀ w ∈ u_ws RX0 TX0 10, w ∈ wsX0_countUnlike := fun w h => List.mem_cons_of_mem _ (wiX0 w h)
  have fl_16 := hts _ (List.mem_cons_of_mem _ flX0_16)
  have fl_19 := hts _ (List.mem_cons_of_mem _ flX0_19)
  have fl_32 := hts _ (List.mem_cons_of_mem _ flX0_32)
  have hD := hD0
  have hl := lv_entry ([.ref (ad 0)]) (n := 5) (Nat.le_of_ble_eq_true rfl)
  rw [lg_entry_eq]
  generalize (lg_sl ([.ref (ad 0)]) ++ List.replicate (5 - (lg_sl ([.ref (ad 0)])).length) Slot.unset).toArray = ls at hl ⊢
  have hl : lv_has ls 5 [(0, .ref (ad 0))] := hl
  refine lv_iconst (v := 0) hx hb dX0_countUnlike_0 (by decide) ?_
  refine lv_istore_n (lv' := [(1, .int 0), (0, .ref (ad 0))]) hx hb dX0_countUnlike_1 rfl hl (by decide) rfl (fun ls hl => ?_)
  refine lv_iconst (v := (-1)) hx hb dX0_countUnlike_2 (by decide) ?_
  refine lv_istore_n (lv' := [(2, .int (-1)), (1, .int 0), (0, .ref (ad 0))]) hx hb dX0_countUnlike_3 rfl hl (by decide) rfl (fun ls hl => ?_)
  refine lv_iconst (v := 0) hx hb dX0_countUnlike_4 (by decide) ?_
  refine lv_istore_n (lv' := [(3, .int 0), (2, .int (-1)), (1, .int 0), (0, .ref (ad 0))]) hx hb dX0_countUnlike_5 rfl hl (by decide) rfl (fun ls hl => ?_)
  have loop : ∀ (d i : Nat) (c0 : Nat) (lo : Option Nat), i ≤ n → n + 1 ≤ i + d → (qc_unl v b ins i = (c0, lo)) → ∀ (ls : Array Slot), lv_has ls 5 [(0, .ref (ad 0)), (1, .int (nI c0)), (2, .int (qc_o lo)), (3, .int (nI i))] → W p l e (headSpec wsX0_countUnlike ({ frames := 1, cells := 0, slots := 0, locals := 21 })).room s m ([.ref (ad 0)] : List Value).toArray below meth c s.heap [] 0 0 (MQ below (vp_Si (fun r => r = nI (qc_unl v b ins n).1)) ([.ref (ad 0)] : List Value).toArray s 0 0 (fun _ => False)) (F0 m 6 ls []) := by
    intro d
    induction d with
    | zero =>
      intro i c0 lo hi hfu
      exact absurd hfu (by omega)
    | succ d ih =>
      intro i c0 lo hi hfu hq ls hl
      refine lv_iload_n hx hb dX0_countUnlike_6 rfl (lv_at hl 3 rfl) ?_
      refine lv_aload_n hx hb dX0_countUnlike_7 rfl (lv_at hl 0 rfl) ?_
      refine va_get (D := (dC, dI)) (ci := 0) (v := .int (nI n)) (C := RX0) (T := TX0) (N := 10) hx hb hts hin0 hown hK hP 0 rfl rfl 4 (by decide) fl_32 (fun _ h9 => h9) rfl dX0_countUnlike_8 ?_
      refine yb_ge (tgt := 64) (by omega) (by omega) hx hb dX0_countUnlike_11 (by decide) (fun c_1 => ?_) (fun c_1 => ?_)
      · refine lv_iload_n hx hb dX0_countUnlike_64 rfl (lv_at hl 1 rfl) ?_
        exact W.iret (v := (nI c0)) hx hb hr (fun t ht hW => ⟨_, rfl, by rw [show n = i from by omega, hq], ht⟩) (fun q h => by cases h) dX0_countUnlike_65
      · have hbi : b i < 300 := Nat.lt_of_lt_of_le (hbn i c_1) hn
        refine lv_aload_n hx hb dX0_countUnlike_14 rfl (lv_at hl 0 rfl) ?_
        refine va_get (D := (dC, dI)) (ci := 0) (v := .ref (ad 4)) (C := RX0) (T := TX0) (N := 10) hx hb hts hin0 hown hK hP 0 rfl rfl 3 (by decide) fl_19 (fun _ h9 => h9) rfl dX0_countUnlike_15 ?_
        refine lv_iload_n hx hb dX0_countUnlike_18 rfl (lv_at hl 3 rfl) ?_
        refine ya_iald hx hb hK hP 4 3 rfl rfl (j := i) (by omega) (by decide) dX0_countUnlike_19 ?_
        refine lv_istore (lv' := [(4, .int (nI (b i))), (0, .ref (ad 0)), (1, .int (nI c0)), (2, .int (qc_o lo)), (3, .int (nI i))]) hx hb dX0_countUnlike_20 hl (by decide) rfl (fun ls hl => ?_)
        refine lv_aload_n hx hb dX0_countUnlike_22 rfl (lv_at hl 1 rfl) ?_
        refine lv_iload hx hb dX0_countUnlike_23 (lv_at hl 0 rfl) ?_
        refine vp_callSi (W.runV (As := [.int (nI (b i))]) (rest := []) ⟨hx, hb, hml, hown, hts⟩ (c_isInside l dC dI ca ad _ t k v b n kd ln w nw ins (b i)  hn (hbn i c_1)) (cwV 1 hts (gg_V mlX0_131 imX0_isInside seX0_isInside in_WindowMeters kwX0_isInside) rfl rfl rfl (by decide +kernel) ⟨Nat.le_of_ble_eq_true rfl, Nat.le_of_ble_eq_true rfl⟩) (wm_preV hK hP hD [.int (nI (b i))]) rfl rfl hl.1 rfl (lv_room (Nat.le_of_ble_eq_true rfl)) dX0_countUnlike_25 ⟨Nat.le_of_ble_eq_true rfl, Nat.le_of_ble_eq_true rfl⟩) (fun r_2 hr_3 => ?_)
        refine lv_if_eq (tgt := 58) hx hb dX0_countUnlike_28 (by decide) (fun c_4 => ?_) (fun c_4 => ?_)
        · refine lv_iinc (v := (nI (i + 1))) (lv' := [(3, .int (nI (i + 1))), (4, .int (nI (b i))), (0, .ref (ad 0)), (1, .int (nI c0)), (2, .int (qc_o lo))]) hx hb dX0_countUnlike_58 hl (k := 4) rfl (yn_inc _) (by decide) rfl (fun ls hl => ?_)
          refine lv_goto (tgt := 6) hx hb dX0_countUnlike_61 (by decide) ?_
          exact ih (i + 1) c0 lo (by omega) (by omega) (by unfold qc_unl; rw [if_pos (hr_3.mp c_4), hq]) ls (lv_sub hl [2, 3, 4, 0] rfl)
        · refine lv_iload_n hx hb dX0_countUnlike_31 rfl (lv_at hl 3 rfl) ?_
          refine lv_iconst (v := (-1)) hx hb dX0_countUnlike_32 (by decide) ?_
          refine lv_icmp_eq (tgt := 52) hx hb dX0_countUnlike_33 (by decide) (fun c_5 => ?_) (fun c_5 => ?_)
          · obtain rfl := qc_o_none (fun j h => Nat.lt_trans (qc_unl_in hbn i hi j (by rw [hq]; exact h)) (by omega)) c_5
            refine lv_iinc (v := (nI (c0 + 1))) (lv' := [(1, .int (nI (c0 + 1))), (4, .int (nI (b i))), (0, .ref (ad 0)), (2, .int (qc_o none)), (3, .int (nI i))]) hx hb dX0_countUnlike_52 hl (k := 2) rfl (yn_inc _) (by decide) rfl (fun ls hl => ?_)
            refine lv_iload hx hb dX0_countUnlike_55 (lv_at hl 1 rfl) ?_
            refine lv_istore_n (lv' := [(2, .int (nI (b i))), (1, .int (nI (c0 + 1))), (4, .int (nI (b i))), (0, .ref (ad 0)), (3, .int (nI i))]) hx hb dX0_countUnlike_57 rfl hl (by decide) rfl (fun ls hl => ?_)
            refine lv_iinc (v := (nI (i + 1))) (lv' := [(3, .int (nI (i + 1))), (2, .int (nI (b i))), (1, .int (nI (c0 + 1))), (4, .int (nI (b i))), (0, .ref (ad 0))]) hx hb dX0_countUnlike_58 hl (k := 4) rfl (yn_inc _) (by decide) rfl (fun ls hl => ?_)
            refine lv_goto (tgt := 6) hx hb dX0_countUnlike_61 (by decide) ?_
            exact ih (i + 1) (c0 + 1) (some (b i)) (by omega) (by omega) (by rw [qc_unl, if_neg (fun q => c_4 (hr_3.mpr q)), hq]) ls (lv_sub hl [4, 2, 1, 0] rfl)
          · obtain ⟨j, rfl⟩ := qc_o_some c_5
            have hl : lv_has ls 5 [(4, .int (nI (b i))), (0, .ref (ad 0)), (1, .int (nI c0)), (2, .int (nI j)), (3, .int (nI i))] := hl
            have hj : j < n := qc_unl_in hbn i hi j (by rw [hq])
            refine lv_aload_n hx hb dX0_countUnlike_36 rfl (lv_at hl 1 rfl) ?_
            refine va_get (D := (dC, dI)) (ci := 0) (v := .ref (ad 3)) (C := RX0) (T := TX0) (N := 10) hx hb hts hin0 hown hK hP 0 rfl rfl 2 (by decide) fl_16 (fun _ h9 => h9) rfl dX0_countUnlike_37 ?_
            refine lv_iload hx hb dX0_countUnlike_40 (lv_at hl 0 rfl) ?_
            refine ya_iald hx hb hK hP 3 2 rfl rfl (j := (b i)) hbi (by decide) dX0_countUnlike_42 ?_
            refine lv_aload_n hx hb dX0_countUnlike_43 rfl (lv_at hl 1 rfl) ?_
            refine va_get (D := (dC, dI)) (ci := 0) (v := .ref (ad 3)) (C := RX0) (T := TX0) (N := 10) hx hb hts hin0 hown hK hP 0 rfl rfl 2 (by decide) fl_16 (fun _ h9 => h9) rfl dX0_countUnlike_44 ?_
            refine lv_iload_n hx hb dX0_countUnlike_47 rfl (lv_at hl 3 rfl) ?_
            refine ya_iald hx hb hK hP 3 2 rfl rfl (j := j) (by omega) (by decide) dX0_countUnlike_48 ?_
            refine lv_icmp_eq (tgt := 55) hx hb dX0_countUnlike_49 (by decide) (fun c_6 => ?_) (fun c_6 => ?_)
            · refine lv_iload hx hb dX0_countUnlike_55 (lv_at hl 0 rfl) ?_
              refine lv_istore_n (lv' := [(2, .int (nI (b i))), (4, .int (nI (b i))), (0, .ref (ad 0)), (1, .int (nI c0)), (3, .int (nI i))]) hx hb dX0_countUnlike_57 rfl hl (by decide) rfl (fun ls hl => ?_)
              refine lv_iinc (v := (nI (i + 1))) (lv' := [(3, .int (nI (i + 1))), (2, .int (nI (b i))), (4, .int (nI (b i))), (0, .ref (ad 0)), (1, .int (nI c0))]) hx hb dX0_countUnlike_58 hl (k := 4) rfl (yn_inc _) (by decide) rfl (fun ls hl => ?_)
              refine lv_goto (tgt := 6) hx hb dX0_countUnlike_61 (by decide) ?_
              exact ih (i + 1) c0 (some (b i)) (by omega) (by omega) (by rw [qc_unl, if_neg (fun q => c_4 (hr_3.mpr q)), hq]; simp [c_6]) ls (lv_sub hl [3, 4, 1, 0] rfl)
            · refine lv_iinc (v := (nI (c0 + 1))) (lv' := [(1, .int (nI (c0 + 1))), (4, .int (nI (b i))), (0, .ref (ad 0)), (2, .int (nI j)), (3, .int (nI i))]) hx hb dX0_countUnlike_52 hl (k := 2) rfl (yn_inc _) (by decide) rfl (fun ls hl => ?_)
              refine lv_iload hx hb dX0_countUnlike_55 (lv_at hl 1 rfl) ?_
              refine lv_istore_n (lv' := [(2, .int (nI (b i))), (1, .int (nI (c0 + 1))), (4, .int (nI (b i))), (0, .ref (ad 0)), (3, .int (nI i))]) hx hb dX0_countUnlike_57 rfl hl (by decide) rfl (fun ls hl => ?_)
              refine lv_iinc (v := (nI (i + 1))) (lv' := [(3, .int (nI (i + 1))), (2, .int (nI (b i))), (1, .int (nI (c0 + 1))), (4, .int (nI (b i))), (0, .ref (ad 0))]) hx hb dX0_countUnlike_58 hl (k := 4) rfl (yn_inc _) (by decide) rfl (fun ls hl => ?_)
              refine lv_goto (tgt := 6) hx hb dX0_countUnlike_61 (by decide) ?_
              exact ih (i + 1) (c0 + 1) (some (b i)) (by omega) (by omega) (by rw [qc_unl, if_neg (fun q => c_4 (hr_3.mpr q)), hq]; simp [c_6]) ls (lv_sub hl [4, 2, 1, 0] rfl)
  exact loop (n + 1) 0 0 none (Nat.zero_le n) (by omega) rfl ls (lv_sub hl [3, 2, 1, 0] rfl)

set_option maxRecDepth 100000 in
set_option maxHeartbeats 4000000 in
/-- findMostFrequent() -/
theorem c_findMostFrequent (l : Launch) (dC : Nat → ClassId) (dI : Nat → Nat → Nat) (ca : Nat → ClassId) (ad : Nat → Nat) (sz : Nat) (t : Nat → Int32) (k : Nat → Nat) (v : Nat → Int32) (b : Nat → Nat) (n : Nat) (kd : Nat → Int32) (ln : Nat → Int32) (w : Nat) (nw : Int32) (ins : Nat → Int32) (hn : n ≤ 300) (hbn : ∀ j, j < n → b j < n) : Met l yX0_findMostFrequent wsX0_findMostFrequent ({ frames := 1, cells := 0, slots := 0, locals := 21 }) (va_Pc [.ref (ad 0)] (wmPre dC dI ca ad sz t k v b n kd ln w nw ins)) (vp_Si (fun r => r = qc_o (qc_fmf v b ins n).1)) 0 0 (fun _ => False) := by
  refine Met.ofW (cc := cX0_findMostFrequent) (maxL := 7) (ret := (some .int)) (by decide) rfl ?_
  intro p e s m args below meth c s₁ B hml hv
  obtain ⟨rfl, hsz, hP, hK, hD0⟩ := hv
  have hx := B.exec
  have hb := B.bytes
  have hr := B.returns
  have hts := atoms_spec (ws := wsX0_findMostFrequent) B.pre
  have hown : s.vm.findClass RX0 = some m.cls := findClass_of_methodNamed B.named
  have hlocks := B.notSynchronized
  subst hsz
  have hin0 : ∀ w ∈ u_ws RX0 TX0 10, w ∈ wsX0_findMostFrequent := fun w h => List.mem_cons_of_mem _ (wiX0 w h)
  have fl_16 := hts _ (List.mem_cons_of_mem _ flX0_16)
  have fl_19 := hts _ (List.mem_cons_of_mem _ flX0_19)
  have fl_32 := hts _ (List.mem_cons_of_mem _ flX0_32)
  have hD := hD0
  have hl := lv_entry ([.ref (ad 0)]) (n := 7) (Nat.le_of_ble_eq_true rfl)
  rw [lg_entry_eq]
  generalize (lg_sl ([.ref (ad 0)]) ++ List.replicate (7 - (lg_sl ([.ref (ad 0)])).length) Slot.unset).toArray = ls at hl ⊢
  have hl : lv_has ls 7 [(0, .ref (ad 0))] := hl
  refine lv_iconst (v := (-1)) hx hb dX0_findMostFrequent_0 (by decide) ?_
  refine lv_istore_n (lv' := [(1, .int (-1)), (0, .ref (ad 0))]) hx hb dX0_findMostFrequent_1 rfl hl (by decide) rfl (fun ls hl => ?_)
  refine lv_iconst (v := 0) hx hb dX0_findMostFrequent_2 (by decide) ?_
  refine lv_istore_n (lv' := [(2, .int 0), (1, .int (-1)), (0, .ref (ad 0))]) hx hb dX0_findMostFrequent_3 rfl hl (by decide) rfl (fun ls hl => ?_)
  refine lv_iconst (v := (-1)) hx hb dX0_findMostFrequent_4 (by decide) ?_
  refine lv_istore_n (lv' := [(3, .int (-1)), (2, .int 0), (1, .int (-1)), (0, .ref (ad 0))]) hx hb dX0_findMostFrequent_5 rfl hl (by decide) rfl (fun ls hl => ?_)
  refine lv_iconst (v := 0) hx hb dX0_findMostFrequent_6 (by decide) ?_
  refine lv_istore (lv' := [(4, .int 0), (3, .int (-1)), (2, .int 0), (1, .int (-1)), (0, .ref (ad 0))]) hx hb dX0_findMostFrequent_7 hl (by decide) rfl (fun ls hl => ?_)
  refine lv_iconst (v := 0) hx hb dX0_findMostFrequent_9 (by decide) ?_
  refine lv_istore (lv' := [(5, .int 0), (4, .int 0), (3, .int (-1)), (2, .int 0), (1, .int (-1)), (0, .ref (ad 0))]) hx hb dX0_findMostFrequent_10 hl (by decide) rfl (fun ls hl => ?_)
  have loop : ∀ (d i : Nat) (m0 : Option Nat) (mo : Nat) (lo : Option Nat) (of0 : Nat), i ≤ n → n + 1 ≤ i + d → (qc_fmf v b ins i = (m0, mo, lo, of0)) → ∀ (ls : Array Slot), lv_has ls 7 [(0, .ref (ad 0)), (1, .int (qc_o m0)), (2, .int (nI mo)), (3, .int (qc_o lo)), (4, .int (nI of0)), (5, .int (nI i))] → W p l e (headSpec wsX0_findMostFrequent ({ frames := 1, cells := 0, slots := 0, locals := 21 })).room s m ([.ref (ad 0)] : List Value).toArray below meth c s.heap [] 0 0 (MQ below (vp_Si (fun r => r = qc_o (qc_fmf v b ins n).1)) ([.ref (ad 0)] : List Value).toArray s 0 0 (fun _ => False)) (F0 m 12 ls []) := by
    intro d
    induction d with
    | zero =>
      intro i m0 mo lo of0 hi hfu
      exact absurd hfu (by omega)
    | succ d ih =>
      intro i m0 mo lo of0 hi hfu hq ls hl
      refine lv_iload hx hb dX0_findMostFrequent_12 (lv_at hl 5 rfl) ?_
      refine lv_aload_n hx hb dX0_findMostFrequent_14 rfl (lv_at hl 0 rfl) ?_
      refine va_get (D := (dC, dI)) (ci := 0) (v := .int (nI n)) (C := RX0) (T := TX0) (N := 10) hx hb hts hin0 hown hK hP 0 rfl rfl 4 (by decide) fl_32 (fun _ h9 => h9) rfl dX0_findMostFrequent_15 ?_
      refine yb_ge (tgt := 91) (by omega) (by omega) hx hb dX0_findMostFrequent_18 (by decide) (fun c_1 => ?_) (fun c_1 => ?_)
      · refine lv_iload_n hx hb dX0_findMostFrequent_91 rfl (lv_at hl 1 rfl) ?_
        exact W.iret (v := (qc_o m0)) hx hb hr (fun t ht hW => ⟨_, rfl, by rw [show n = i from by omega, hq], ht⟩) (fun q h => by cases h) dX0_findMostFrequent_92
      · have hbi : b i < 300 := Nat.lt_of_lt_of_le (hbn i c_1) hn
        have hin := qc_fmf_in (v := v) (f := ins) hbn i hi
        rw [hq] at hin
        obtain ⟨hm0, hl0, hmo, hof⟩ := hin
        dsimp only at hm0 hl0 hmo hof
        refine lv_aload_n hx hb dX0_findMostFrequent_21 rfl (lv_at hl 0 rfl) ?_
        refine va_get (D := (dC, dI)) (ci := 0) (v := .ref (ad 4)) (C := RX0) (T := TX0) (N := 10) hx hb hts hin0 hown hK hP 0 rfl rfl 3 (by decide) fl_19 (fun _ h9 => h9) rfl dX0_findMostFrequent_22 ?_
        refine lv_iload hx hb dX0_findMostFrequent_25 (lv_at hl 5 rfl) ?_
        refine ya_iald hx hb hK hP 4 3 rfl rfl (j := i) (by omega) (by decide) dX0_findMostFrequent_27 ?_
        refine lv_istore (lv' := [(6, .int (nI (b i))), (0, .ref (ad 0)), (1, .int (qc_o m0)), (2, .int (nI mo)), (3, .int (qc_o lo)), (4, .int (nI of0)), (5, .int (nI i))]) hx hb dX0_findMostFrequent_28 hl (by decide) rfl (fun ls hl => ?_)
        refine lv_aload_n hx hb dX0_findMostFrequent_30 rfl (lv_at hl 1 rfl) ?_
        refine lv_iload hx hb dX0_findMostFrequent_31 (lv_at hl 0 rfl) ?_
        refine vp_callSi (W.runV (As := [.int (nI (b i))]) (rest := []) ⟨hx, hb, hml, hown, hts⟩ (c_isInside l dC dI ca ad _ t k v b n kd ln w nw ins (b i)  hn (hbn i c_1)) (cwV 1 hts (gg_V mlX0_131 imX0_isInside seX0_isInside in_WindowMeters kwX0_isInside) rfl rfl rfl (by decide +kernel) ⟨Nat.le_of_ble_eq_true rfl, Nat.le_of_ble_eq_true rfl⟩) (wm_preV hK hP hD [.int (nI (b i))]) rfl rfl hl.1 rfl (lv_room (Nat.le_of_ble_eq_true rfl)) dX0_findMostFrequent_33 ⟨Nat.le_of_ble_eq_true rfl, Nat.le_of_ble_eq_true rfl⟩) (fun r_2 hr_3 => ?_)
        refine lv_if_eq (tgt := 85) hx hb dX0_findMostFrequent_36 (by decide) (fun c_4 => ?_) (fun c_4 => ?_)
        · refine lv_iinc (v := (nI (i + 1))) (lv' := [(5, .int (nI (i + 1))), (6, .int (nI (b i))), (0, .ref (ad 0)), (1, .int (qc_o m0)), (2, .int (nI mo)), (3, .int (qc_o lo)), (4, .int (nI of0))]) hx hb dX0_findMostFrequent_85 hl (k := 6) rfl (yn_inc _) (by decide) rfl (fun ls hl => ?_)
          refine lv_goto (tgt := 12) hx hb dX0_findMostFrequent_88 (by decide) ?_
          exact ih (i + 1) m0 mo lo of0 (by omega) (by omega) (by unfold qc_fmf; rw [if_pos (hr_3.mp c_4), hq]) ls (lv_sub hl [2, 3, 4, 5, 6, 0] rfl)
        · refine lv_iload_n hx hb dX0_findMostFrequent_39 rfl (lv_at hl 4 rfl) ?_
          refine lv_iconst (v := (-1)) hx hb dX0_findMostFrequent_40 (by decide) ?_
          refine lv_icmp_eq (tgt := 67) hx hb dX0_findMostFrequent_41 (by decide) (fun c_5 => ?_) (fun c_5 => ?_)
          · obtain rfl := qc_o_none (fun j h => Nat.lt_trans (hl0 j h) (by omega)) c_5
            refine lv_iconst (v := 1) hx hb dX0_findMostFrequent_67 (by decide) ?_
            refine lv_istore (lv' := [(4, .int (nI 1)), (6, .int (nI (b i))), (0, .ref (ad 0)), (1, .int (qc_o m0)), (2, .int (nI mo)), (3, .int (qc_o none)), (5, .int (nI i))]) hx hb dX0_findMostFrequent_68 hl (by decide) rfl (fun ls hl => ?_)
            refine lv_iload hx hb dX0_findMostFrequent_70 (lv_at hl 1 rfl) ?_
            refine lv_istore_n (lv' := [(3, .int (nI (b i))), (4, .int (nI 1)), (6, .int (nI (b i))), (0, .ref (ad 0)), (1, .int (qc_o m0)), (2, .int (nI mo)), (5, .int (nI i))]) hx hb dX0_findMostFrequent_72 rfl hl (by decide) rfl (fun ls hl => ?_)
            refine lv_iload hx hb dX0_findMostFrequent_73 (lv_at hl 1 rfl) ?_
            refine lv_iload_n hx hb dX0_findMostFrequent_75 rfl (lv_at hl 5 rfl) ?_
            refine yb_le (tgt := 85) (by omega) (by omega) hx hb dX0_findMostFrequent_76 (by decide) (fun c_6 => ?_) (fun c_6 => ?_)
            · refine lv_iinc (v := (nI (i + 1))) (lv' := [(5, .int (nI (i + 1))), (3, .int (nI (b i))), (4, .int (nI 1)), (6, .int (nI (b i))), (0, .ref (ad 0)), (1, .int (qc_o m0)), (2, .int (nI mo))]) hx hb dX0_findMostFrequent_85 hl (k := 6) rfl (yn_inc _) (by decide) rfl (fun ls hl => ?_)
              refine lv_goto (tgt := 12) hx hb dX0_findMostFrequent_88 (by decide) ?_
              exact ih (i + 1) m0 mo (some (b i)) 1 (by omega) (by omega) (by rw [qc_fmf, if_neg (fun q => c_4 (hr_3.mpr q)), hq]; dsimp only; rw [show qc_oft v (v (b i)) none of0 = 1 from rfl]; exact if_neg (by omega)) ls (lv_sub hl [4, 5, 6, 1, 2, 0] rfl)
            · refine lv_iload hx hb dX0_findMostFrequent_79 (lv_at hl 1 rfl) ?_
              refine lv_istore_n (lv' := [(2, .int (nI 1)), (3, .int (nI (b i))), (4, .int (nI 1)), (6, .int (nI (b i))), (0, .ref (ad 0)), (1, .int (qc_o m0)), (5, .int (nI i))]) hx hb dX0_findMostFrequent_81 rfl hl (by decide) rfl (fun ls hl => ?_)
              refine lv_iload hx hb dX0_findMostFrequent_82 (lv_at hl 3 rfl) ?_
              refine lv_istore_n (lv' := [(1, .int (nI (b i))), (2, .int (nI 1)), (3, .int (nI (b i))), (4, .int (nI 1)), (6, .int (nI (b i))), (0, .ref (ad 0)), (5, .int (nI i))]) hx hb dX0_findMostFrequent_84 rfl hl (by decide) rfl (fun ls hl => ?_)
              refine lv_iinc (v := (nI (i + 1))) (lv' := [(5, .int (nI (i + 1))), (1, .int (nI (b i))), (2, .int (nI 1)), (3, .int (nI (b i))), (4, .int (nI 1)), (6, .int (nI (b i))), (0, .ref (ad 0))]) hx hb dX0_findMostFrequent_85 hl (k := 6) rfl (yn_inc _) (by decide) rfl (fun ls hl => ?_)
              refine lv_goto (tgt := 12) hx hb dX0_findMostFrequent_88 (by decide) ?_
              exact ih (i + 1) (some (b i)) 1 (some (b i)) 1 (by omega) (by omega) (by rw [qc_fmf, if_neg (fun q => c_4 (hr_3.mpr q)), hq]; dsimp only; rw [show qc_oft v (v (b i)) none of0 = 1 from rfl]; exact if_pos (by omega)) ls (lv_sub hl [6, 1, 2, 3, 4, 0] rfl)
          · obtain ⟨j, rfl⟩ := qc_o_some c_5
            have hl : lv_has ls 7 [(6, .int (nI (b i))), (0, .ref (ad 0)), (1, .int (qc_o m0)), (2, .int (nI mo)), (3, .int (nI j)), (4, .int (nI of0)), (5, .int (nI i))] := hl
            have hj : j < n := hl0 j rfl
            refine lv_aload_n hx hb dX0_findMostFrequent_44 rfl (lv_at hl 1 rfl) ?_
            refine va_get (D := (dC, dI)) (ci := 0) (v := .ref (ad 3)) (C := RX0) (T := TX0) (N := 10) hx hb hts hin0 hown hK hP 0 rfl rfl 2 (by decide) fl_16 (fun _ h9 => h9) rfl dX0_findMostFrequent_45 ?_
            refine lv_iload hx hb dX0_findMostFrequent_48 (lv_at hl 0 rfl) ?_
            refine ya_iald hx hb hK hP 3 2 rfl rfl (j := (b i)) hbi (by decide) dX0_findMostFrequent_50 ?_
            refine lv_aload_n hx hb dX0_findMostFrequent_51 rfl (lv_at hl 1 rfl) ?_
            refine va_get (D := (dC, dI)) (ci := 0) (v := .ref (ad 3)) (C := RX0) (T := TX0) (N := 10) hx hb hts hin0 hown hK hP 0 rfl rfl 2 (by decide) fl_16 (fun _ h9 => h9) rfl dX0_findMostFrequent_52 ?_
            refine lv_iload_n hx hb dX0_findMostFrequent_55 rfl (lv_at hl 4 rfl) ?_
            refine ya_iald hx hb hK hP 3 2 rfl rfl (j := j) (by omega) (by decide) dX0_findMostFrequent_56 ?_
            refine lv_icmp_ne (tgt := 67) hx hb dX0_findMostFrequent_57 (by decide) (fun c_7 => ?_) (fun c_7 => ?_)
            · refine lv_iconst (v := 1) hx hb dX0_findMostFrequent_67 (by decide) ?_
              refine lv_istore (lv' := [(4, .int (nI 1)), (6, .int (nI (b i))), (0, .ref (ad 0)), (1, .int (qc_o m0)), (2, .int (nI mo)), (3, .int (nI j)), (5, .int (nI i))]) hx hb dX0_findMostFrequent_68 hl (by decide) rfl (fun ls hl => ?_)
              refine lv_iload hx hb dX0_findMostFrequent_70 (lv_at hl 1 rfl) ?_
              refine lv_istore_n (lv' := [(3, .int (nI (b i))), (4, .int (nI 1)), (6, .int (nI (b i))), (0, .ref (ad 0)), (1, .int (qc_o m0)), (2, .int (nI mo)), (5, .int (nI i))]) hx hb dX0_findMostFrequent_72 rfl hl (by decide) rfl (fun ls hl => ?_)
              refine lv_iload hx hb dX0_findMostFrequent_73 (lv_at hl 1 rfl) ?_
              refine lv_iload_n hx hb dX0_findMostFrequent_75 rfl (lv_at hl 5 rfl) ?_
              refine yb_le (tgt := 85) (by omega) (by omega) hx hb dX0_findMostFrequent_76 (by decide) (fun c_8 => ?_) (fun c_8 => ?_)
              · refine lv_iinc (v := (nI (i + 1))) (lv' := [(5, .int (nI (i + 1))), (3, .int (nI (b i))), (4, .int (nI 1)), (6, .int (nI (b i))), (0, .ref (ad 0)), (1, .int (qc_o m0)), (2, .int (nI mo))]) hx hb dX0_findMostFrequent_85 hl (k := 6) rfl (yn_inc _) (by decide) rfl (fun ls hl => ?_)
                refine lv_goto (tgt := 12) hx hb dX0_findMostFrequent_88 (by decide) ?_
                exact ih (i + 1) m0 mo (some (b i)) 1 (by omega) (by omega) (by rw [qc_fmf, if_neg (fun q => c_4 (hr_3.mpr q)), hq]; dsimp only; rw [show qc_oft v (v (b i)) (some j) of0 = 1 from if_neg c_7]; exact if_neg (by omega)) ls (lv_sub hl [4, 5, 6, 1, 2, 0] rfl)
              · refine lv_iload hx hb dX0_findMostFrequent_79 (lv_at hl 1 rfl) ?_
                refine lv_istore_n (lv' := [(2, .int (nI 1)), (3, .int (nI (b i))), (4, .int (nI 1)), (6, .int (nI (b i))), (0, .ref (ad 0)), (1, .int (qc_o m0)), (5, .int (nI i))]) hx hb dX0_findMostFrequent_81 rfl hl (by decide) rfl (fun ls hl => ?_)
                refine lv_iload hx hb dX0_findMostFrequent_82 (lv_at hl 3 rfl) ?_
                refine lv_istore_n (lv' := [(1, .int (nI (b i))), (2, .int (nI 1)), (3, .int (nI (b i))), (4, .int (nI 1)), (6, .int (nI (b i))), (0, .ref (ad 0)), (5, .int (nI i))]) hx hb dX0_findMostFrequent_84 rfl hl (by decide) rfl (fun ls hl => ?_)
                refine lv_iinc (v := (nI (i + 1))) (lv' := [(5, .int (nI (i + 1))), (1, .int (nI (b i))), (2, .int (nI 1)), (3, .int (nI (b i))), (4, .int (nI 1)), (6, .int (nI (b i))), (0, .ref (ad 0))]) hx hb dX0_findMostFrequent_85 hl (k := 6) rfl (yn_inc _) (by decide) rfl (fun ls hl => ?_)
                refine lv_goto (tgt := 12) hx hb dX0_findMostFrequent_88 (by decide) ?_
                exact ih (i + 1) (some (b i)) 1 (some (b i)) 1 (by omega) (by omega) (by rw [qc_fmf, if_neg (fun q => c_4 (hr_3.mpr q)), hq]; dsimp only; rw [show qc_oft v (v (b i)) (some j) of0 = 1 from if_neg c_7]; exact if_pos (by omega)) ls (lv_sub hl [6, 1, 2, 3, 4, 0] rfl)
            · refine lv_iload hx hb dX0_findMostFrequent_60 (lv_at hl 5 rfl) ?_
              refine lv_iconst (v := 1) hx hb dX0_findMostFrequent_62 (by decide) ?_
              refine lv_iadd hx hb dX0_findMostFrequent_63 ?_
              rw [nI_1 of0]
              refine W.eq (g2 := F0 m 64 ls [.int (nI (of0 + 1))]) (by rw [← nI_1]) ?_
              refine lv_goto (tgt := 68) hx hb dX0_findMostFrequent_64 (by decide) ?_
              refine lv_istore (lv' := [(4, .int (nI (of0 + 1))), (6, .int (nI (b i))), (0, .ref (ad 0)), (1, .int (qc_o m0)), (2, .int (nI mo)), (3, .int (nI j)), (5, .int (nI i))]) hx hb dX0_findMostFrequent_68 hl (by decide) rfl (fun ls hl => ?_)
              refine lv_iload hx hb dX0_findMostFrequent_70 (lv_at hl 1 rfl) ?_
              refine lv_istore_n (lv' := [(3, .int (nI (b i))), (4, .int (nI (of0 + 1))), (6, .int (nI (b i))), (0, .ref (ad 0)), (1, .int (qc_o m0)), (2, .int (nI mo)), (5, .int (nI i))]) hx hb dX0_findMostFrequent_72 rfl hl (by decide) rfl (fun ls hl => ?_)
              refine lv_iload hx hb dX0_findMostFrequent_73 (lv_at hl 1 rfl) ?_
              refine lv_iload_n hx hb dX0_findMostFrequent_75 rfl (lv_at hl 5 rfl) ?_
              refine yb_le (tgt := 85) (by omega) (by omega) hx hb dX0_findMostFrequent_76 (by decide) (fun c_9 => ?_) (fun c_9 => ?_)
              · refine lv_iinc (v := (nI (i + 1))) (lv' := [(5, .int (nI (i + 1))), (3, .int (nI (b i))), (4, .int (nI (of0 + 1))), (6, .int (nI (b i))), (0, .ref (ad 0)), (1, .int (qc_o m0)), (2, .int (nI mo))]) hx hb dX0_findMostFrequent_85 hl (k := 6) rfl (yn_inc _) (by decide) rfl (fun ls hl => ?_)
                refine lv_goto (tgt := 12) hx hb dX0_findMostFrequent_88 (by decide) ?_
                exact ih (i + 1) m0 mo (some (b i)) (of0 + 1) (by omega) (by omega) (by rw [qc_fmf, if_neg (fun q => c_4 (hr_3.mpr q)), hq]; dsimp only; rw [show qc_oft v (v (b i)) (some j) of0 = of0 + 1 from if_pos c_7]; exact if_neg (by omega)) ls (lv_sub hl [4, 5, 6, 1, 2, 0] rfl)
              · refine lv_iload hx hb dX0_findMostFrequent_79 (lv_at hl 1 rfl) ?_
                refine lv_istore_n (lv' := [(2, .int (nI (of0 + 1))), (3, .int (nI (b i))), (4, .int (nI (of0 + 1))), (6, .int (nI (b i))), (0, .ref (ad 0)), (1, .int (qc_o m0)), (5, .int (nI i))]) hx hb dX0_findMostFrequent_81 rfl hl (by decide) rfl (fun ls hl => ?_)
                refine lv_iload hx hb dX0_findMostFrequent_82 (lv_at hl 3 rfl) ?_
                refine lv_istore_n (lv' := [(1, .int (nI (b i))), (2, .int (nI (of0 + 1))), (3, .int (nI (b i))), (4, .int (nI (of0 + 1))), (6, .int (nI (b i))), (0, .ref (ad 0)), (5, .int (nI i))]) hx hb dX0_findMostFrequent_84 rfl hl (by decide) rfl (fun ls hl => ?_)
                refine lv_iinc (v := (nI (i + 1))) (lv' := [(5, .int (nI (i + 1))), (1, .int (nI (b i))), (2, .int (nI (of0 + 1))), (3, .int (nI (b i))), (4, .int (nI (of0 + 1))), (6, .int (nI (b i))), (0, .ref (ad 0))]) hx hb dX0_findMostFrequent_85 hl (k := 6) rfl (yn_inc _) (by decide) rfl (fun ls hl => ?_)
                refine lv_goto (tgt := 12) hx hb dX0_findMostFrequent_88 (by decide) ?_
                exact ih (i + 1) (some (b i)) (of0 + 1) (some (b i)) (of0 + 1) (by omega) (by omega) (by rw [qc_fmf, if_neg (fun q => c_4 (hr_3.mpr q)), hq]; dsimp only; rw [show qc_oft v (v (b i)) (some j) of0 = of0 + 1 from if_pos c_7]; exact if_pos (by omega)) ls (lv_sub hl [6, 1, 2, 3, 4, 0] rfl)
  exact loop (n + 1) 0 none 0 none 0 (Nat.zero_le n) (by omega) rfl ls (lv_sub hl [5, 4, 3, 2, 1, 0] rfl)

set_option maxRecDepth 100000 in
set_option maxHeartbeats 4000000 in
/-- findKth(k) -/
theorem c_findKth (l : Launch) (dC : Nat → ClassId) (dI : Nat → Nat → Nat) (ca : Nat → ClassId) (ad : Nat → Nat) (sz : Nat) (t : Nat → Int32) (k : Nat → Nat) (v : Nat → Int32) (b : Nat → Nat) (n : Nat) (kd : Nat → Int32) (ln : Nat → Int32) (w : Nat) (nw : Int32) (ins : Nat → Int32) (p1 : Int32) (hn : n ≤ 300) (hbn : ∀ j, j < n → b j < n) : Met l yX0_findKth wsX0_findKth ({ frames := 1, cells := 0, slots := 0, locals := 21 }) (va_Pc [.ref (ad 0), .int p1] (wmPre dC dI ca ad sz t k v b n kd ln w nw ins)) (vp_Si (fun r => (∃ q, q < n ∧ ins (b q) ≠ 0 ∧ nI (qc_cnb b ins q) = p1 ∧ r = nI (b q)) ∨ (r = -1 ∧ ∀ q, q < n → ins (b q) ≠ 0 → nI (qc_cnb b ins q) ≠ p1))) 0 0 (fun _ => False) := by
  refine Met.ofW (cc := cX0_findKth) (maxL := 5) (ret := (some .int)) (by decide) rfl ?_
  intro p e s m args below meth c s₁ B hml hv
  obtain ⟨rfl, hsz, hP, hK, hD0⟩ := hv
  have hx := B.exec
  have hb := B.bytes
  have hr := B.returns
  have hts := atoms_spec (ws := wsX0_findKth) B.pre
  have hown : s.vm.findClass RX0 = some m.cls := findClass_of_methodNamed B.named
  have hlocks := B.notSynchronized
  subst hsz
  have hin0 : ∀ w ∈ u_ws RX0 TX0 10, w ∈ wsX0_findKth := fun w h => List.mem_cons_of_mem _ (wiX0 w h)
  have fl_19 := hts _ (List.mem_cons_of_mem _ flX0_19)
  have fl_32 := hts _ (List.mem_cons_of_mem _ flX0_32)
  have hD := hD0
  have hl := lv_entry ([.ref (ad 0), .int p1]) (n := 5) (Nat.le_of_ble_eq_true rfl)
  rw [lg_entry_eq]
  generalize (lg_sl ([.ref (ad 0), .int p1]) ++ List.replicate (5 - (lg_sl ([.ref (ad 0), .int p1])).length) Slot.unset).toArray = ls at hl ⊢
  have hl : lv_has ls 5 [(0, .ref (ad 0)), (1, .int p1)] := hl
  refine lv_iconst (v := 0) hx hb dX0_findKth_0 (by decide) ?_
  refine lv_istore_n (lv' := [(2, .int 0), (0, .ref (ad 0)), (1, .int p1)]) hx hb dX0_findKth_1 rfl hl (by decide) rfl (fun ls hl => ?_)
  refine lv_iconst (v := 0) hx hb dX0_findKth_2 (by decide) ?_
  refine lv_istore_n (lv' := [(3, .int 0), (2, .int 0), (0, .ref (ad 0)), (1, .int p1)]) hx hb dX0_findKth_3 rfl hl (by decide) rfl (fun ls hl => ?_)
  have loop : ∀ (d i : Nat), i ≤ n → n + 1 ≤ i + d → (∀ q, q < i → ins (b q) ≠ 0 → nI (qc_cnb b ins q) ≠ p1) → ∀ (ls : Array Slot), lv_has ls 5 [(0, .ref (ad 0)), (1, .int p1), (2, .int (nI (qc_cnb b ins i))), (3, .int (nI i))] → W p l e (headSpec wsX0_findKth ({ frames := 1, cells := 0, slots := 0, locals := 21 })).room s m ([.ref (ad 0), .int p1] : List Value).toArray below meth c s.heap [] 0 0 (MQ below (vp_Si (fun r => (∃ q, q < n ∧ ins (b q) ≠ 0 ∧ nI (qc_cnb b ins q) = p1 ∧ r = nI (b q)) ∨ (r = -1 ∧ ∀ q, q < n → ins (b q) ≠ 0 → nI (qc_cnb b ins q) ≠ p1))) ([.ref (ad 0), .int p1] : List Value).toArray s 0 0 (fun _ => False)) (F0 m 4 ls []) := by
    intro d
    induction d with
    | zero =>
      intro i hi hfu
      exact absurd hfu (by omega)
    | succ d ih =>
      intro i hi hfu hq ls hl
      refine lv_iload_n hx hb dX0_findKth_4 rfl (lv_at hl 3 rfl) ?_
      refine lv_aload_n hx hb dX0_findKth_5 rfl (lv_at hl 0 rfl) ?_
      refine va_get (D := (dC, dI)) (ci := 0) (v := .int (nI n)) (C := RX0) (T := TX0) (N := 10) hx hb hts hin0 hown hK hP 0 rfl rfl 4 (by decide) fl_32 (fun _ h9 => h9) rfl dX0_findKth_6 ?_
      refine yb_ge (tgt := 46) (by omega) (by omega) hx hb dX0_findKth_9 (by decide) (fun c_1 => ?_) (fun c_1 => ?_)
      · refine lv_iconst (v := (-1)) hx hb dX0_findKth_46 (by decide) ?_
        exact W.iret (v := (-1)) hx hb hr (fun t ht hW => ⟨_, rfl, Or.inr ⟨rfl, fun q h1 h2 => hq q (by omega) h2⟩, ht⟩) (fun q h => by cases h) dX0_findKth_47
      · have hbi : b i < 300 := Nat.lt_of_lt_of_le (hbn i c_1) hn
        refine lv_aload_n hx hb dX0_findKth_12 rfl (lv_at hl 0 rfl) ?_
        refine va_get (D := (dC, dI)) (ci := 0) (v := .ref (ad 4)) (C := RX0) (T := TX0) (N := 10) hx hb hts hin0 hown hK hP 0 rfl rfl 3 (by decide) fl_19 (fun _ h9 => h9) rfl dX0_findKth_13 ?_
        refine lv_iload_n hx hb dX0_findKth_16 rfl (lv_at hl 3 rfl) ?_
        refine ya_iald hx hb hK hP 4 3 rfl rfl (j := i) (by omega) (by decide) dX0_findKth_17 ?_
        refine lv_istore (lv' := [(4, .int (nI (b i))), (0, .ref (ad 0)), (1, .int p1), (2, .int (nI (qc_cnb b ins i))), (3, .int (nI i))]) hx hb dX0_findKth_18 hl (by decide) rfl (fun ls hl => ?_)
        refine lv_aload_n hx hb dX0_findKth_20 rfl (lv_at hl 1 rfl) ?_
        refine lv_iload hx hb dX0_findKth_21 (lv_at hl 0 rfl) ?_
        refine vp_callSi (W.runV (As := [.int (nI (b i))]) (rest := []) ⟨hx, hb, hml, hown, hts⟩ (c_isInside l dC dI ca ad _ t k v b n kd ln w nw ins (b i)  hn (hbn i c_1)) (cwV 1 hts (gg_V mlX0_131 imX0_isInside seX0_isInside in_WindowMeters kwX0_isInside) rfl rfl rfl (by decide +kernel) ⟨Nat.le_of_ble_eq_true rfl, Nat.le_of_ble_eq_true rfl⟩) (wm_preV hK hP hD [.int (nI (b i))]) rfl rfl hl.1 rfl (lv_room (Nat.le_of_ble_eq_true rfl)) dX0_findKth_23 ⟨Nat.le_of_ble_eq_true rfl, Nat.le_of_ble_eq_true rfl⟩) (fun r_2 hr_3 => ?_)
        refine lv_if_eq (tgt := 40) hx hb dX0_findKth_26 (by decide) (fun c_4 => ?_) (fun c_4 => ?_)
        · refine lv_iinc (v := (nI (i + 1))) (lv' := [(3, .int (nI (i + 1))), (4, .int (nI (b i))), (0, .ref (ad 0)), (1, .int p1), (2, .int (nI (qc_cnb b ins i)))]) hx hb dX0_findKth_40 hl (k := 4) rfl (yn_inc _) (by decide) rfl (fun ls hl => ?_)
          refine lv_goto (tgt := 4) hx hb dX0_findKth_43 (by decide) ?_
          exact ih (i + 1) (by omega) (by omega) (fun q h3 h4 => by
            rcases Nat.lt_or_ge q i with g | g
            · exact hq q g h4
            · obtain rfl : q = i := by omega
              exact absurd (hr_3.mp c_4) h4) ls (by
              have hl := (lv_sub hl [2, 3, 4, 0] rfl)
              have e9 : qc_cnb b ins (i + 1) = qc_cnb b ins i := by rw [qc_cnb, if_pos (hr_3.mp c_4)]
              rw [e9]; exact hl)
        · refine lv_iload_n hx hb dX0_findKth_29 rfl (lv_at hl 3 rfl) ?_
          refine lv_iload_n hx hb dX0_findKth_30 rfl (lv_at hl 2 rfl) ?_
          refine lv_icmp_ne (tgt := 37) hx hb dX0_findKth_31 (by decide) (fun c_5 => ?_) (fun c_5 => ?_)
          · refine lv_iinc (v := (nI ((qc_cnb b ins i) + 1))) (lv' := [(2, .int (nI ((qc_cnb b ins i) + 1))), (4, .int (nI (b i))), (0, .ref (ad 0)), (1, .int p1), (3, .int (nI i))]) hx hb dX0_findKth_37 hl (k := 3) rfl (yn_inc _) (by decide) rfl (fun ls hl => ?_)
            refine lv_iinc (v := (nI (i + 1))) (lv' := [(3, .int (nI (i + 1))), (2, .int (nI ((qc_cnb b ins i) + 1))), (4, .int (nI (b i))), (0, .ref (ad 0)), (1, .int p1)]) hx hb dX0_findKth_40 hl (k := 4) rfl (yn_inc _) (by decide) rfl (fun ls hl => ?_)
            refine lv_goto (tgt := 4) hx hb dX0_findKth_43 (by decide) ?_
            exact ih (i + 1) (by omega) (by omega) (fun q h4 h5 => by
              rcases Nat.lt_or_ge q i with g | g
              · exact hq q g h5
              · obtain rfl : q = i := by omega
                exact c_5) ls (by
                have hl := (lv_sub hl [3, 4, 1, 0] rfl)
                have e9 : qc_cnb b ins (i + 1) = qc_cnb b ins i + 1 := by rw [qc_cnb, if_neg (fun q => c_4 (hr_3.mpr q))]
                rw [e9]; exact hl)
          · refine lv_iload hx hb dX0_findKth_34 (lv_at hl 0 rfl) ?_
            exact W.iret (v := (nI (b i))) hx hb hr (fun t ht hW => ⟨_, rfl, Or.inl ⟨i, c_1, (fun q => c_4 (hr_3.mpr q)), c_5, rfl⟩, ht⟩) (fun q h => by cases h) dX0_findKth_36
  exact loop (n + 1) 0 (Nat.zero_le n) (by omega) (fun q h => absurd h (Nat.not_lt_zero q)) ls (lv_sub hl [2, 3, 1, 0] rfl)

set_option maxRecDepth 100000 in
set_option maxHeartbeats 4000000 in
/-- countMostFrequent() -/
theorem c_countMostFrequent (l : Launch) (dC : Nat → ClassId) (dI : Nat → Nat → Nat) (ca : Nat → ClassId) (ad : Nat → Nat) (sz : Nat) (t : Nat → Int32) (k : Nat → Nat) (v : Nat → Int32) (b : Nat → Nat) (n : Nat) (kd : Nat → Int32) (ln : Nat → Int32) (w : Nat) (nw : Int32) (ins : Nat → Int32) (hn : n ≤ 300) (hbn : ∀ j, j < n → b j < n) : Met l yX0_countMostFrequent wsX0_countMostFrequent ({ frames := 2, cells := 0, slots := 0, locals := 47 }) (va_Pc [.ref (ad 0)] (wmPre dC dI ca ad sz t k v b n kd ln w nw ins)) (vp_Si (fun r => r = qc_cmf v b ins n)) 0 0 (fun _ => False) := by
  refine Met.ofW (cc := cX0_countMostFrequent) (maxL := 4) (ret := (some .int)) (by decide) rfl ?_
  intro p e s m args below meth c s₁ B hml hv
  obtain ⟨rfl, hsz, hP, hK, hD0⟩ := hv
  have hx := B.exec
  have hb := B.bytes
  have hr := B.returns
  have hts := atoms_spec (ws := wsX0_countMostFrequent) B.pre
  have hown : s.vm.findClass RX0 = some m.cls := findClass_of_methodNamed B.named
  have hlocks := B.notSynchronized
  subst hsz
  have hin0 : ∀ w ∈ u_ws RX0 TX0 10, w ∈ wsX0_countMostFrequent := fun w h => List.mem_cons_of_mem _ (wiX0 w h)
  have fl_16 := hts _ (List.mem_cons_of_mem _ flX0_16)
  have fl_28 := hts _ (List.mem_cons_of_mem _ flX0_28)
  have fl_32 := hts _ (List.mem_cons_of_mem _ flX0_32)
  have hD := hD0
  have hl := lv_entry ([.ref (ad 0)]) (n := 4) (Nat.le_of_ble_eq_true rfl)
  rw [lg_entry_eq]
  generalize (lg_sl ([.ref (ad 0)]) ++ List.replicate (4 - (lg_sl ([.ref (ad 0)])).length) Slot.unset).toArray = ls at hl ⊢
  have hl : lv_has ls 4 [(0, .ref (ad 0))] := hl
  refine lv_aload_n hx hb dX0_countMostFrequent_0 rfl (lv_at hl 0 rfl) ?_
  refine vp_callSi (W.runV (As := []) (rest := []) ⟨hx, hb, hml, hown, hts⟩ (c_findMostFrequent l dC dI ca ad _ t k v b n kd ln w nw ins   hn hbn) (cwV 0 hts (gg_V mlX0_97 imX0_findMostFrequent seX0_findMostFrequent in_WindowMeters kwX0_findMostFrequent) rfl rfl rfl (by decide +kernel) ⟨Nat.le_of_ble_eq_true rfl, Nat.le_of_ble_eq_true rfl⟩) (wm_preV hK hP hD []) rfl rfl hl.1 rfl (lv_room (Nat.le_of_ble_eq_true rfl)) dX0_countMostFrequent_1 ⟨Nat.le_of_ble_eq_true rfl, Nat.le_of_ble_eq_true rfl⟩) (fun r_1 hr_2 => ?_)
  obtain ⟨o9, ho9⟩ : ∃ o, o = (qc_fmf v b ins n).1 := ⟨_, rfl⟩
  rw [← ho9] at hr_2
  subst hr_2
  have hin9 := (qc_fmf_in (v := v) (f := ins) hbn n (Nat.le_refl n)).1
  rw [← ho9] at hin9
  refine lv_istore_n (lv' := [(1, .int (qc_o o9)), (0, .ref (ad 0))]) hx hb dX0_countMostFrequent_4 rfl hl (by decide) rfl (fun ls hl => ?_)
  refine lv_iload_n hx hb dX0_countMostFrequent_5 rfl (lv_at hl 0 rfl) ?_
  refine lv_iconst (v := (-1)) hx hb dX0_countMostFrequent_6 (by decide) ?_
  refine lv_icmp_ne (tgt := 12) hx hb dX0_countMostFrequent_7 (by decide) (fun c_3 => ?_) (fun c_3 => ?_)
  · obtain ⟨j9, rfl⟩ := qc_o_some c_3
    have hl : lv_has ls 4 [(1, .int (nI j9)), (0, .ref (ad 0))] := hl
    have hj9 : j9 < n := hin9 j9 rfl
    refine lv_iconst (v := 0) hx hb dX0_countMostFrequent_12 (by decide) ?_
    refine lv_istore_n (lv' := [(2, .int 0), (1, .int (nI j9)), (0, .ref (ad 0))]) hx hb dX0_countMostFrequent_13 rfl hl (by decide) rfl (fun ls hl => ?_)
    refine lv_iconst (v := 0) hx hb dX0_countMostFrequent_14 (by decide) ?_
    refine lv_istore_n (lv' := [(3, .int 0), (2, .int 0), (1, .int (nI j9)), (0, .ref (ad 0))]) hx hb dX0_countMostFrequent_15 rfl hl (by decide) rfl (fun ls hl => ?_)
    have loop : ∀ (d i : Nat), i ≤ n → n + 1 ≤ i + d → ∀ (ls : Array Slot), lv_has ls 4 [(0, .ref (ad 0)), (1, .int (nI j9)), (2, .int (nI (qc_eqc v ins (v j9) i))), (3, .int (nI i))] → W p l e (headSpec wsX0_countMostFrequent ({ frames := 2, cells := 0, slots := 0, locals := 47 })).room s m ([.ref (ad 0)] : List Value).toArray below meth c s.heap [] 0 0 (MQ below (vp_Si (fun r => r = qc_cmf v b ins n)) ([.ref (ad 0)] : List Value).toArray s 0 0 (fun _ => False)) (F0 m 16 ls []) := by
      intro d
      induction d with
      | zero =>
        intro i hi hfu
        exact absurd hfu (by omega)
      | succ d ih =>
        intro i hi hfu  ls hl
        refine lv_iload_n hx hb dX0_countMostFrequent_16 rfl (lv_at hl 3 rfl) ?_
        refine lv_aload_n hx hb dX0_countMostFrequent_17 rfl (lv_at hl 0 rfl) ?_
        refine va_get (D := (dC, dI)) (ci := 0) (v := .int (nI n)) (C := RX0) (T := TX0) (N := 10) hx hb hts hin0 hown hK hP 0 rfl rfl 4 (by decide) fl_32 (fun _ h9 => h9) rfl dX0_countMostFrequent_18 ?_
        refine yb_ge (tgt := 57) (by omega) (by omega) hx hb dX0_countMostFrequent_21 (by decide) (fun c_4 => ?_) (fun c_4 => ?_)
        · refine lv_iload_n hx hb dX0_countMostFrequent_57 rfl (lv_at hl 2 rfl) ?_
          exact W.iret (v := (nI (qc_eqc v ins (v j9) i))) hx hb hr (fun t ht hW => ⟨_, rfl, by rw [qc_cmf, ← ho9, show n = i from by omega], ht⟩) (fun q h => by cases h) dX0_countMostFrequent_58
        · refine lv_aload_n hx hb dX0_countMostFrequent_24 rfl (lv_at hl 0 rfl) ?_
          refine va_get (D := (dC, dI)) (ci := 0) (v := .ref (ad 7)) (C := RX0) (T := TX0) (N := 10) hx hb hts hin0 hown hK hP 0 rfl rfl 9 (by decide) fl_28 (fun _ h9 => h9) rfl dX0_countMostFrequent_25 ?_
          refine lv_iload_n hx hb dX0_countMostFrequent_28 rfl (lv_at hl 3 rfl) ?_
          refine ya_zald hx hb hK hP 7 6 rfl rfl (j := i) (by omega) (by decide) dX0_countMostFrequent_29 ?_
          refine lv_if_eq (tgt := 51) hx hb dX0_countMostFrequent_30 (by decide) (fun c_5 => ?_) (fun c_5 => ?_)
          · refine lv_iinc (v := (nI (i + 1))) (lv' := [(3, .int (nI (i + 1))), (0, .ref (ad 0)), (1, .int (nI j9)), (2, .int (nI (qc_eqc v ins (v j9) i)))]) hx hb dX0_countMostFrequent_51 hl (k := 3) rfl (yn_inc _) (by decide) rfl (fun ls hl => ?_)
            refine lv_goto (tgt := 16) hx hb dX0_countMostFrequent_54 (by decide) ?_
            exact ih (i + 1) (by omega) (by omega) ls (by rw [qc_eqc, if_pos c_5]; exact (lv_sub hl [1, 2, 3, 0] rfl))
          · refine lv_aload_n hx hb dX0_countMostFrequent_33 rfl (lv_at hl 0 rfl) ?_
            refine va_get (D := (dC, dI)) (ci := 0) (v := .ref (ad 3)) (C := RX0) (T := TX0) (N := 10) hx hb hts hin0 hown hK hP 0 rfl rfl 2 (by decide) fl_16 (fun _ h9 => h9) rfl dX0_countMostFrequent_34 ?_
            refine lv_iload_n hx hb dX0_countMostFrequent_37 rfl (lv_at hl 3 rfl) ?_
            refine ya_iald hx hb hK hP 3 2 rfl rfl (j := i) (by omega) (by decide) dX0_countMostFrequent_38 ?_
            refine lv_aload_n hx hb dX0_countMostFrequent_39 rfl (lv_at hl 0 rfl) ?_
            refine va_get (D := (dC, dI)) (ci := 0) (v := .ref (ad 3)) (C := RX0) (T := TX0) (N := 10) hx hb hts hin0 hown hK hP 0 rfl rfl 2 (by decide) fl_16 (fun _ h9 => h9) rfl dX0_countMostFrequent_40 ?_
            refine lv_iload_n hx hb dX0_countMostFrequent_43 rfl (lv_at hl 1 rfl) ?_
            refine ya_iald hx hb hK hP 3 2 rfl rfl (j := j9) (by omega) (by decide) dX0_countMostFrequent_44 ?_
            refine lv_icmp_ne (tgt := 51) hx hb dX0_countMostFrequent_45 (by decide) (fun c_6 => ?_) (fun c_6 => ?_)
            · refine lv_iinc (v := (nI (i + 1))) (lv' := [(3, .int (nI (i + 1))), (0, .ref (ad 0)), (1, .int (nI j9)), (2, .int (nI (qc_eqc v ins (v j9) i)))]) hx hb dX0_countMostFrequent_51 hl (k := 3) rfl (yn_inc _) (by decide) rfl (fun ls hl => ?_)
              refine lv_goto (tgt := 16) hx hb dX0_countMostFrequent_54 (by decide) ?_
              exact ih (i + 1) (by omega) (by omega) ls (by rw [qc_eqc, if_neg c_5, if_neg c_6]; exact (lv_sub hl [1, 2, 3, 0] rfl))
            · refine lv_iinc (v := (nI ((qc_eqc v ins (v j9) i) + 1))) (lv' := [(2, .int (nI ((qc_eqc v ins (v j9) i) + 1))), (0, .ref (ad 0)), (1, .int (nI j9)), (3, .int (nI i))]) hx hb dX0_countMostFrequent_48 hl (k := 2) rfl (yn_inc _) (by decide) rfl (fun ls hl => ?_)
              refine lv_iinc (v := (nI (i + 1))) (lv' := [(3, .int (nI (i + 1))), (2, .int (nI ((qc_eqc v ins (v j9) i) + 1))), (0, .ref (ad 0)), (1, .int (nI j9))]) hx hb dX0_countMostFrequent_51 hl (k := 3) rfl (yn_inc _) (by decide) rfl (fun ls hl => ?_)
              refine lv_goto (tgt := 16) hx hb dX0_countMostFrequent_54 (by decide) ?_
              exact ih (i + 1) (by omega) (by omega) ls (by rw [qc_eqc, if_neg c_5, if_pos c_6]; exact (lv_sub hl [2, 3, 1, 0] rfl))
    exact loop (n + 1) 0 (Nat.zero_le n) (by omega) ls (lv_sub hl [3, 2, 1, 0] rfl)
  · obtain rfl := qc_o_none (fun j h => Nat.lt_trans (hin9 j h) (by omega)) c_3
    refine lv_iconst (v := 0) hx hb dX0_countMostFrequent_10 (by decide) ?_
    exact W.iret (v := 0) hx hb hr (fun t ht hW => ⟨_, rfl, by rw [qc_cmf, ← ho9], ht⟩) (fun q h => by cases h) dX0_countMostFrequent_11
