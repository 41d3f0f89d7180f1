/-- the place of a new value in the order -/
def qc_ins (v : Nat → Int32) (b : Nat → Nat) (i0 : Nat) (u : Nat → Nat) : Prop := ∃ p, p ≤ i0 ∧ (p = 0 ∨ v (b (p - 1)) ≤ v i0) ∧ (∀ j, p ≤ j → j < i0 → ¬ v (b j) ≤ v i0) ∧ (∀ j, j < p → u j = b j) ∧ u p = i0 ∧ ∀ j, p < j → j ≤ i0 → u j = b (j - 1)
/-- how many of the first are not above x -/
def qc_pl (v : Nat → Int32) (x : Int32) : Nat → Nat
  | 0 => 0
  | i + 1 => if x < v i then qc_pl v x i else qc_pl v x i + 1
theorem qc_pl_le (v : Nat → Int32) (x : Int32) : ∀ i, qc_pl v x i ≤ i
  | 0 => Nat.le_refl 0
  | i + 1 => by have := qc_pl_le v x i; unfold qc_pl; split <;> omega
/-- what placeBySize leaves: the new number at the place that it counted, the ones behind it one further -/
def qc_put (v : Nat → Int32) (b : Nat → Nat) (i0 : Nat) (u : Nat → Nat) : Prop := ∃ p, p = qc_pl v (v i0) i0 ∧ (∀ j, j < p → u j = b j) ∧ u p = i0 ∧ ∀ j, p < j → j ≤ i0 → u j = b (j - 1)
theorem qc_put_end {v : Nat → Int32} {b g : Nat → Nat} {i0 p : Nat} (h1 : p = qc_pl v (v i0) i0) (h4 : ∀ j, j < p → g j = b j) (h5 : ∀ j, p < j → j ≤ i0 → g j = b (j - 1)) : qc_put v b i0 (vu g p i0) :=
  ⟨p, h1, fun j hj => by rw [vu_other (by omega)]; exact h4 j hj, vu_same _ _ _, fun j g1 g2 => by rw [vu_other (by omega)]; exact h5 j g1 g2⟩
set_option maxRecDepth 100000 in
set_option maxHeartbeats 4000000 in
/-- placeBySize(i) -/
theorem c_placeBySize (l : Launch) (dC : Nat → ClassId) (dI : Nat → Nat → Nat) (ca : Nat → ClassId) (ad : Nat → Nat) (sz : Nat) (t : Nat → Int32) (k : Nat → Nat) (v : Nat → Int32) (b : Nat → Nat) (n : Nat) (kd : Nat → Int32) (ln : Nat → Int32) (w : Nat) (nw : Int32) (ins : Nat → Int32) (i0 : Nat) (hi0 : i0 < 300) : Met l yX0_placeBySize wsX0_placeBySize ({ frames := 0, cells := 0, slots := 0, locals := 0 }) (va_Pc [.ref (ad 0), .int (nI i0)] (wmPre dC dI ca ad sz t k v b n kd ln w nw ins)) (va_Qv (fun u : Nat → Nat => qc_put v b i0 u) (fun u t9 => wmAt dC dI ca ad (va_A (wm ca ad t k v b n kd ln w nw ins) sz) t k v u n kd ln w nw ins t9) (va_A (wm ca ad t k v b n kd ln w nw ins) sz)) 0 0 (va_A (wm ca ad t k v b n kd ln w nw ins) sz) := by
  refine Met.ofW (cc := cX0_placeBySize) (maxL := 4) (ret := none) (by decide) rfl ?_
  intro p e s m args below meth c s₁ B hml hv
  obtain ⟨rfl, hsz, hP, hK, hD0⟩ := hv
  have hx := B.exec
  have hb := B.bytes
  have hr := B.returns
  have hts := atoms_spec (ws := wsX0_placeBySize) B.pre
  have hown : s.vm.findClass RX0 = some m.cls := findClass_of_methodNamed B.named
  have hlocks := B.notSynchronized
  subst hsz
  have hin0 : ∀ w ∈ u_ws RX0 TX0 10, w ∈ wsX0_placeBySize := fun w h => List.mem_cons_of_mem _ (wiX0 w h)
  have fl_16 := hts _ (List.mem_cons_of_mem _ flX0_16)
  have fl_19 := hts _ (List.mem_cons_of_mem _ flX0_19)
  have hD := hD0.self (sz := s.heap.size)
  generalize hAe : va_A (wm ca ad t k v b n kd ln w nw ins) s.heap.size = A at hD ⊢
  have hA : ∀ q : Nat, s.heap.size ≤ q → A q := fun q h => by rw [← hAe]; exact Or.inr h
  have hS : va_S A s.heap s.heap [] := va_S.rf
  have hl := lv_entry ([.ref (ad 0), .int (nI i0)]) (n := 4) (Nat.le_of_ble_eq_true rfl)
  rw [lg_entry_eq]
  generalize (lg_sl ([.ref (ad 0), .int (nI i0)]) ++ List.replicate (4 - (lg_sl ([.ref (ad 0), .int (nI i0)])).length) Slot.unset).toArray = ls at hl ⊢
  have hl : lv_has ls 4 [(0, .ref (ad 0)), (1, .int (nI i0))] := hl
  have down : ∀ (p0 : Nat), p0 ≤ i0 → p0 = qc_pl v (v i0) i0 → ∀ (r : Nat), p0 ≤ r → r ≤ i0 → ∀ (g : Nat → Nat) (H : Heap) (locs : List Loc), va_P (dC, dI) vwCl (wm ca ad t k v g n kd ln w nw ins) H → va_D A (wm ca ad t k v g n kd ln w nw ins) → va_S A s.heap H locs → (∀ j, j < r → g j = b j) → (∀ j, r < j → j ≤ i0 → g j = b (j - 1)) → ∀ (ls : Array Slot), lv_has ls 4 [(0, .ref (ad 0)), (1, .int (nI i0)), (2, .int (nI p0)), (3, .int (nI r))] → W p l e (headSpec wsX0_placeBySize ({ frames := 0, cells := 0, slots := 0, locals := 0 })).room s m ([.ref (ad 0), .int (nI i0)] : List Value).toArray below meth c H locs 0 0 (MQ below (va_Qv (fun u : Nat → Nat => qc_put v b i0 u) (fun u t9 => wmAt dC dI ca ad A t k v u n kd ln w nw ins t9) A) ([.ref (ad 0), .int (nI i0)] : List Value).toArray s 0 0 A) (F0 m 35 ls []) := by
    intro p0 hp0 hpe r
    induction r with
    | zero =>
      intro hpr hri g H locs hP hD hS h4 h5 ls hl
      refine lv_iload_n hx hb dX0_placeBySize_35 rfl (lv_at hl 3 rfl) ?_
      refine lv_iload_n hx hb dX0_placeBySize_36 rfl (lv_at hl 2 rfl) ?_
      refine yb_le (tgt := 60) (by omega) (by omega) hx hb dX0_placeBySize_37 (by decide) (fun c_1 => ?_) (fun c_1 => ?_)
      · refine lv_aload_n hx hb dX0_placeBySize_60 rfl (lv_at hl 0 rfl) ?_
        refine va_get (D := (dC, dI)) (ci := 0) (v := .ref (ad 4)) (C := RX0) (T := TX0) (N := 10) hx hb hts hin0 hown hK hP 0 rfl rfl 3 (by decide) fl_19 (fun _ h9 => h9) rfl dX0_placeBySize_61 ?_
        refine lv_iload_n hx hb dX0_placeBySize_64 rfl (lv_at hl 2 rfl) ?_
        refine lv_iload_n hx hb dX0_placeBySize_65 rfl (lv_at hl 1 rfl) ?_
        refine ya_iast hx hb hK hP hD hS 4 3 rfl rfl (j := p0) (by omega) (by decide) dX0_placeBySize_66 (fun H locs hP hD hS => ?_)
        rw [vu_upd] at hP hD
        have hD : va_D A (wm ca ad t k v (vu g p0 i0) n kd ln w nw ins) := hD
        have hP : va_P (dC, dI) vwCl (wm ca ad t k v (vu g p0 i0) n kd ln w nw ins) H := hP
        exact W.vret hx hb hr (fun t9 ht hW => ⟨⟨_, rfl, qc_put_end hpe (fun j g1 => h4 j (by omega)) (fun j g1 g2 => h5 j (by omega) g2), by rw [ht]; exact hP, va_K.moved hW.alike hK, hD⟩, hS.F ht⟩) hS.2.2 dX0_placeBySize_67
      · exact absurd c_1 (by omega)
    | succ r ih =>
      intro hpr hri g H locs hP hD hS h4 h5 ls hl
      refine lv_iload_n hx hb dX0_placeBySize_35 rfl (lv_at hl 3 rfl) ?_
      refine lv_iload_n hx hb dX0_placeBySize_36 rfl (lv_at hl 2 rfl) ?_
      refine yb_le (tgt := 60) (by omega) (by omega) hx hb dX0_placeBySize_37 (by decide) (fun c_2 => ?_) (fun c_2 => ?_)
      · refine lv_aload_n hx hb dX0_placeBySize_60 rfl (lv_at hl 0 rfl) ?_
        refine va_get (D := (dC, dI)) (ci := 0) (v := .ref (ad 4)) (C := RX0) (T := TX0) (N := 10) hx hb hts hin0 hown hK hP 0 rfl rfl 3 (by decide) fl_19 (fun _ h9 => h9) rfl dX0_placeBySize_61 ?_
        refine lv_iload_n hx hb dX0_placeBySize_64 rfl (lv_at hl 2 rfl) ?_
        refine lv_iload_n hx hb dX0_placeBySize_65 rfl (lv_at hl 1 rfl) ?_
        refine ya_iast hx hb hK hP hD hS 4 3 rfl rfl (j := p0) (by omega) (by decide) dX0_placeBySize_66 (fun H locs hP hD hS => ?_)
        rw [vu_upd] at hP hD
        have hD : va_D A (wm ca ad t k v (vu g p0 i0) n kd ln w nw ins) := hD
        have hP : va_P (dC, dI) vwCl (wm ca ad t k v (vu g p0 i0) n kd ln w nw ins) H := hP
        exact W.vret hx hb hr (fun t9 ht hW => ⟨⟨_, rfl, qc_put_end hpe (fun j g1 => h4 j (by omega)) (fun j g1 g2 => h5 j (by omega) g2), by rw [ht]; exact hP, va_K.moved hW.alike hK, hD⟩, hS.F ht⟩) hS.2.2 dX0_placeBySize_67
      · have hg : g r = b r := h4 r (by omega)
        refine lv_aload_n hx hb dX0_placeBySize_40 rfl (lv_at hl 0 rfl) ?_
        refine va_get (D := (dC, dI)) (ci := 0) (v := .ref (ad 4)) (C := RX0) (T := TX0) (N := 10) hx hb hts hin0 hown hK hP 0 rfl rfl 3 (by decide) fl_19 (fun _ h9 => h9) rfl dX0_placeBySize_41 ?_
        refine lv_iload_n hx hb dX0_placeBySize_44 rfl (lv_at hl 3 rfl) ?_
        refine lv_aload_n hx hb dX0_placeBySize_45 rfl (lv_at hl 0 rfl) ?_
        refine va_get (D := (dC, dI)) (ci := 0) (v := .ref (ad 4)) (C := RX0) (T := TX0) (N := 10) hx hb hts hin0 hown hK hP 0 rfl rfl 3 (by decide) fl_19 (fun _ h9 => h9) rfl dX0_placeBySize_46 ?_
        refine lv_iload_n hx hb dX0_placeBySize_49 rfl (lv_at hl 3 rfl) ?_
        refine lv_iconst (v := 1) hx hb dX0_placeBySize_50 (by decide) ?_
        refine lv_isub hx hb dX0_placeBySize_51 ?_
        rw [nI_pred r]
        refine ya_iald hx hb hK hP 4 3 rfl rfl (j := r) (by omega) (by decide) dX0_placeBySize_52 ?_
        refine ya_iast hx hb hK hP hD hS 4 3 rfl rfl (j := (r + 1)) (by omega) (by decide) dX0_placeBySize_53 (fun H locs hP hD hS => ?_)
        rw [vu_upd] at hP hD
        have hD : va_D A (wm ca ad t k v (vu g (r + 1) (g r)) n kd ln w nw ins) := hD
        have hP : va_P (dC, dI) vwCl (wm ca ad t k v (vu g (r + 1) (g r)) n kd ln w nw ins) H := hP
        refine lv_iinc (v := (nI r)) (lv' := [(3, .int (nI r)), (0, .ref (ad 0)), (1, .int (nI i0)), (2, .int (nI p0))]) hx hb dX0_placeBySize_54 hl (k := 3) rfl (yn_dec _) (by decide) rfl (fun ls hl => ?_)
        refine lv_goto (tgt := 35) hx hb dX0_placeBySize_57 (by decide) ?_
        exact ih (by omega) (by omega) _ _ _ hP hD hS (fun j g1 => by rw [vu_other (by omega)]; exact h4 j (by omega)) (fun j g1 g2 => by
          by_cases g3 : j = r + 1
          · subst g3; rw [vu_same, hg]; rfl
          · rw [vu_other g3]; exact h5 j (by omega) g2) ls (lv_sub hl [1, 2, 3, 0] rfl)
  refine lv_iconst (v := 0) hx hb dX0_placeBySize_0 (by decide) ?_
  refine lv_istore_n (lv' := [(2, .int 0), (0, .ref (ad 0)), (1, .int (nI i0))]) hx hb dX0_placeBySize_1 rfl hl (by decide) rfl (fun ls hl => ?_)
  refine lv_iconst (v := 0) hx hb dX0_placeBySize_2 (by decide) ?_
  refine lv_istore_n (lv' := [(3, .int 0), (2, .int 0), (0, .ref (ad 0)), (1, .int (nI i0))]) hx hb dX0_placeBySize_3 rfl hl (by decide) rfl (fun ls hl => ?_)
  have loop : ∀ (d i : Nat), i ≤ i0 → i0 + 1 ≤ i + d → ∀ (H : Heap) (locs : List Loc), va_P (dC, dI) vwCl (wm ca ad t k v b n kd ln w nw ins) H → va_D A (wm ca ad t k v b n kd ln w nw ins) → va_S A s.heap H locs → ∀ (ls : Array Slot), lv_has ls 4 [(0, .ref (ad 0)), (1, .int (nI i0)), (2, .int (nI (qc_pl v (v i0) i))), (3, .int (nI i))] → W p l e (headSpec wsX0_placeBySize ({ frames := 0, cells := 0, slots := 0, locals := 0 })).room s m ([.ref (ad 0), .int (nI i0)] : List Value).toArray below meth c H locs 0 0 (MQ below (va_Qv (fun u : Nat → Nat => qc_put v b i0 u) (fun u t9 => wmAt dC dI ca ad A t k v u n kd ln w nw ins t9) A) ([.ref (ad 0), .int (nI i0)] : List Value).toArray s 0 0 A) (F0 m 4 ls []) := by
    intro d
    induction d with
    | zero =>
      intro i hi hfu
      exact absurd hfu (by omega)
    | succ d ih =>
      intro i hi hfu H locs hP hD hS  ls hl
      refine lv_iload_n hx hb dX0_placeBySize_4 rfl (lv_at hl 3 rfl) ?_
      refine lv_iload_n hx hb dX0_placeBySize_5 rfl (lv_at hl 1 rfl) ?_
      refine yb_ge (tgt := 33) (by omega) (by omega) hx hb dX0_placeBySize_6 (by decide) (fun c_3 => ?_) (fun c_3 => ?_)
      · refine lv_iload_n hx hb dX0_placeBySize_33 rfl (lv_at hl 1 rfl) ?_
        refine lv_istore_n (lv' := [(3, .int (nI i0)), (0, .ref (ad 0)), (1, .int (nI i0)), (2, .int (nI (qc_pl v (v i0) i)))]) hx hb dX0_placeBySize_34 rfl hl (by decide) rfl (fun ls hl => ?_)
        have hie : i = i0 := by omega
        have hple := qc_pl_le v (v i0) i
        exact down (qc_pl v (v i0) i) (by omega) (by rw [hie]) i0 (by omega) (Nat.le_refl i0) _ _ _ hP hD hS (fun j _ => rfl) (fun j g1 g2 => absurd g2 (by omega)) ls (lv_sub hl [1, 2, 3, 0] rfl)
      · refine lv_aload_n hx hb dX0_placeBySize_9 rfl (lv_at hl 0 rfl) ?_
        refine va_get (D := (dC, dI)) (ci := 0) (v := .ref (ad 3)) (C := RX0) (T := TX0) (N := 10) hx hb hts hin0 hown hK hP 0 rfl rfl 2 (by decide) fl_16 (fun _ h9 => h9) rfl dX0_placeBySize_10 ?_
        refine lv_iload_n hx hb dX0_placeBySize_13 rfl (lv_at hl 3 rfl) ?_
        refine ya_iald hx hb hK hP 3 2 rfl rfl (j := i) (by omega) (by decide) dX0_placeBySize_14 ?_
        refine lv_aload_n hx hb dX0_placeBySize_15 rfl (lv_at hl 0 rfl) ?_
        refine va_get (D := (dC, dI)) (ci := 0) (v := .ref (ad 3)) (C := RX0) (T := TX0) (N := 10) hx hb hts hin0 hown hK hP 0 rfl rfl 2 (by decide) fl_16 (fun _ h9 => h9) rfl dX0_placeBySize_16 ?_
        refine lv_iload_n hx hb dX0_placeBySize_19 rfl (lv_at hl 1 rfl) ?_
        refine ya_iald hx hb hK hP 3 2 rfl rfl (j := i0) hi0 (by decide) dX0_placeBySize_20 ?_
        refine lv_icmp_gt (tgt := 27) hx hb dX0_placeBySize_21 (by decide) (fun c_4 => ?_) (fun c_4 => ?_)
        · refine lv_iinc (v := (nI (i + 1))) (lv' := [(3, .int (nI (i + 1))), (0, .ref (ad 0)), (1, .int (nI i0)), (2, .int (nI (qc_pl v (v i0) i)))]) hx hb dX0_placeBySize_27 hl (k := 3) rfl (yn_inc _) (by decide) rfl (fun ls hl => ?_)
          refine lv_goto (tgt := 4) hx hb dX0_placeBySize_30 (by decide) ?_
          exact ih (i + 1) (by omega) (by omega) _ _ hP hD hS ls (by rw [qc_pl, if_pos c_4]; exact (lv_sub hl [1, 2, 3, 0] rfl))
        · refine lv_iinc (v := (nI ((qc_pl v (v i0) i) + 1))) (lv' := [(2, .int (nI ((qc_pl v (v i0) i) + 1))), (0, .ref (ad 0)), (1, .int (nI i0)), (3, .int (nI i))]) hx hb dX0_placeBySize_24 hl (k := 2) rfl (yn_inc _) (by decide) rfl (fun ls hl => ?_)
          refine lv_iinc (v := (nI (i + 1))) (lv' := [(3, .int (nI (i + 1))), (2, .int (nI ((qc_pl v (v i0) i) + 1))), (0, .ref (ad 0)), (1, .int (nI i0))]) hx hb dX0_placeBySize_27 hl (k := 3) rfl (yn_inc _) (by decide) rfl (fun ls hl => ?_)
          refine lv_goto (tgt := 4) hx hb dX0_placeBySize_30 (by decide) ?_
          exact ih (i + 1) (by omega) (by omega) _ _ hP hD hS ls (by rw [qc_pl, if_neg c_4]; exact (lv_sub hl [2, 3, 1, 0] rfl))
  exact loop (i0 + 1) 0 (Nat.zero_le i0) (by omega) _ _ hP hD hS ls (lv_sub hl [2, 3, 1, 0] rfl)
