/-! the model's sorted row as a list -/
def ml (so : Nat → Int32) (hd : Nat) : List Int32 := (List.range hd).map so
def ms_so (so : Nat → Int32) (hd : Nat) : Prop := ∀ i j, i ≤ j → j < hd → so i ≤ so j
def qi_ins (so : Nat → Int32) (hd : Nat) (x : Int32) (u : Nat → Int32) : Prop := ∃ p, p ≤ hd ∧ (p = 0 ∨ so (p - 1) ≤ x) ∧ (∀ j, p ≤ j → j < hd → ¬ so j ≤ x) ∧ (∀ j, j < p → u j = so j) ∧ u p = x ∧ ∀ j, p < j → j ≤ hd → u j = so (j - 1)
theorem qi_end {so g : Nat → Int32} {hd p : Nat} {x : Int32} (h1 : p ≤ hd) (h2 : p = 0 ∨ so (p - 1) ≤ x) (h3 : ∀ j, p ≤ j → j < hd → ¬ so j ≤ x) (h4 : ∀ j, j < p → g j = so j) (h5 : ∀ j, p < j → j ≤ hd → g j = so (j - 1)) : qi_ins so hd x (upd g p x) :=
  ⟨p, h1, h2, h3, fun j hj => by rw [pk_un (by omega)]; exact h4 j hj, pk_us, fun j g1 g2 => by rw [pk_un (by omega)]; exact h5 j g1 g2⟩
theorem ml_s (so : Nat → Int32) (hd : Nat) : ml so (hd + 1) = ml so hd ++ [so hd] := by
  unfold ml
  rw [List.range_succ, List.map_append]
  rfl
theorem qi_perm {so u : Nat → Int32} {hd : Nat} {x : Int32} (h : qi_ins so hd x u) : (ml u (hd + 1)).Perm (ml so hd ++ [x]) := by
  obtain ⟨p, hp, -, -, h4, h5, h6⟩ := h
  obtain ⟨d, rfl⟩ : ∃ d, hd = p + d := ⟨hd - p, by omega⟩
  have e1 : ml so (p + d) = (List.range p).map so ++ (List.range d).map (fun y => so (p + y)) := by
    unfold ml
    rw [List.range_add, List.map_append, List.map_map]; rfl
  have e2 : ml u (p + d + 1) = (List.range p).map so ++ x :: (List.range d).map (fun y => so (p + y)) := by
    unfold ml
    rw [Nat.add_assoc, List.range_add, List.map_append, List.map_map, List.range_succ_eq_map, List.map_cons, List.map_map]
    congr 1
    · exact List.map_congr_left (fun y hy => h4 y (List.mem_range.mp hy))
    · congr 1
      exact List.map_congr_left (fun y hy => by
        have hy := List.mem_range.mp hy
        show u (p + (y + 1)) = so (p + y)
        rw [h6 (p + (y + 1)) (by omega) (by omega)]
        congr 1)
  rw [e1, e2]
  exact List.perm_middle.trans (List.perm_append_singleton _ _).symm
theorem qi_sorted {so u : Nat → Int32} {hd : Nat} {x : Int32} (hs : ms_so so hd) (h : qi_ins so hd x u) : ms_so u (hd + 1) := by
  obtain ⟨p, hp, h2, h3, h4, h5, h6⟩ := h
  have low : ∀ i, i < p → u i ≤ x := fun i hi => by
    rw [h4 i hi]
    rcases h2 with h2 | h2
    · omega
    · exact Int32.le_trans (hs i (p - 1) (by omega) (by omega)) h2
  have high : ∀ i, p < i → i ≤ hd → x ≤ u i := fun i g1 g2 => by
    rw [h6 i g1 g2]
    exact Int32.le_of_lt (Int32.not_le.mp (h3 (i - 1) (by omega) (by omega)))
  intro i j hij hj
  rcases Nat.lt_trichotomy i p with a | a | a
  · rcases Nat.lt_trichotomy j p with c | c | c
    · rw [h4 i a, h4 j c]; exact hs i j hij (by omega)
    · subst c; rw [h5]; exact low i a
    · exact Int32.le_trans (low i a) (high j c (by omega))
  · subst a
    rcases Nat.lt_or_ge i j with c | c
    · rw [h5]; exact high j c (by omega)
    · obtain rfl : j = i := by omega
      exact Int32.le_refl _
  · rw [h6 i a (by omega), h6 j (by omega) (by omega)]
    exact hs (i - 1) (j - 1) (by omega) (by omega)
def mh_ok (v : Nat → Int32) (P : Nat → Prop) (i hd : Nat) (so : Nat → Int32) : Prop := hd ≤ i ∧ ms_so so hd ∧ ∃ f : Nat → Int32, (∀ j, j < i → qc_mk (f j) (P j)) ∧ (ml so hd).Perm (wl v f i)
theorem wl_congr {v f f' : Nat → Int32} : ∀ n, (∀ j, j < n → f j = f' j) → wl v f n = wl v f' n
  | 0, _ => rfl
  | n + 1, h => by rw [wl_s, wl_s, h n (by omega), wl_congr n (fun j hj => h j (by omega))]
theorem mh_0 (v : Nat → Int32) (P : Nat → Prop) (so : Nat → Int32) : mh_ok v P 0 0 so := ⟨Nat.le_refl 0, fun i j _ h => absurd h (Nat.not_lt_zero j), fun _ => 0, fun j h => absurd h (Nat.not_lt_zero j), List.Perm.refl _⟩
theorem mh_no {v : Nat → Int32} {P : Nat → Prop} {i hd : Nat} {so : Nat → Int32} (h : mh_ok v P i hd so) (hp : ¬ P i) : mh_ok v P (i + 1) hd so := by
  obtain ⟨h1, h2, f, h3, h4⟩ := h
  refine ⟨by omega, h2, upd f i 0, qm_step (P := P) h3 (qc_mk0 hp), ?_⟩
  rw [wl_s, if_pos pk_us, wl_congr i (fun j hj => pk_un (by omega))]
  exact h4
theorem mh_yes {v : Nat → Int32} {P : Nat → Prop} {i hd : Nat} {so u : Nat → Int32} (h : mh_ok v P i hd so) (hp : P i) (hu : qi_ins so hd (v i) u) : mh_ok v P (i + 1) (hd + 1) u := by
  obtain ⟨h1, h2, f, h3, h4⟩ := h
  refine ⟨by omega, qi_sorted h2 hu, upd f i 1, qm_step (P := P) h3 (qc_mk1 hp), ?_⟩
  rw [wl_s, if_neg (by rw [pk_us]; decide), wl_congr i (fun j hj => pk_un (by omega))]
  exact (qi_perm hu).trans (List.Perm.append_right _ h4)
/-- most(): (best, often, from) -/
def mo_f (so : Nat → Int32) : Nat → Option Nat × Nat × Nat
  | 0 => (none, 0, 0)
  | k + 1 =>
    let fr := if 0 < k ∧ ¬ so k = so (k - 1) then k else (mo_f so k).2.2
    if (mo_f so k).2.1 < k - fr + 1 then (some fr, k - fr + 1, fr) else ((mo_f so k).1, (mo_f so k).2.1, fr)
theorem mo_st {so : Nat → Int32} {i f9 fr F : Nat} {bo : Option Nat} (hq : mo_f so i = (bo, f9, fr)) (hF : (if 0 < i ∧ ¬ so i = so (i - 1) then i else fr) = F) : mo_f so (i + 1) = if f9 < i - F + 1 then (some F, i - F + 1, F) else (bo, f9, F) := by
  rw [mo_f, hq, ← hF]
theorem mo_in (so : Nat → Int32) : ∀ k, (∀ j, (mo_f so k).1 = some j → j < k) ∧ (mo_f so k).2.1 ≤ k ∧ (mo_f so k).2.2 ≤ k := by
  intro k
  induction k with
  | zero => exact ⟨fun j h => (by cases h), Nat.le_refl 0, Nat.le_refl 0⟩
  | succ k ih =>
    obtain ⟨h1, h2, h3⟩ := ih
    obtain ⟨fr, hfr⟩ : ∃ fr, fr = if 0 < k ∧ ¬ so k = so (k - 1) then k else (mo_f so k).2.2 := ⟨_, rfl⟩
    have hle : fr ≤ k := by
      rw [hfr]
      by_cases c : 0 < k ∧ ¬ so k = so (k - 1)
      · rw [if_pos c]; exact Nat.le_refl k
      · rw [if_neg c]; exact h3
    rw [mo_f, ← hfr]
    by_cases c : (mo_f so k).2.1 < k - fr + 1
    · rw [if_pos c]; exact ⟨fun j h => (by cases h; omega), Nat.succ_le_succ (Nat.sub_le k fr), Nat.le_succ_of_le hle⟩
    · rw [if_neg c]; exact ⟨fun j h => Nat.lt_succ_of_lt (h1 j h), Nat.le_succ_of_le h2, Nat.le_succ_of_le hle⟩
set_option maxRecDepth 100000 in
set_option maxHeartbeats 4000000 in
/-- isIn(w, i) -/
theorem m_isIn (l : Launch) (dC : Nat → ClassId) (dI : Nat → Nat → Nat) (ca : Nat → ClassId) (ad : Nat → Nat) (sz : Nat) (th : Int32) (t : Nat → Int32) (k : Nat → Nat) (v : Nat → Int32) (n : Nat) (nw : Int32) (w : Nat) (kd : Nat → Int32) (ln : Nat → Int32) (hd : Nat) (so : Nat → Int32) (fq : Nat) (wi i0 : Nat) (hn : n ≤ 300) (hk8 : ∀ j, j < n → k j < 8) (hwi : wi < 6) (hi0 : i0 < n) : Met l yX1_isIn wsX1_isIn ({ frames := 1, cells := 0, slots := 0, locals := 24 }) (va_Pc [.ref (ad 0), .int (nI wi), .int (nI i0)] (mdPre dC dI ca ad sz th t k v n nw w kd ln hd so fq)) (vp_Si (fun r => qc_mk r (mi_in t k n nw (kd wi) (ln wi) i0))) 0 0 (fun _ => False) := by
  refine Met.ofW (cc := cX1_isIn) (maxL := 5) (ret := (some .boolean)) (by decide) rfl ?_
  intro p e s m args below meth c s₁ B hml hv
  obtain ⟨rfl, hsz, hP, hK, hD0⟩ := hv
  have hx := B.exec
  have hb := B.bytes
  have hr := B.returns
  have hts := atoms_spec (ws := wsX1_isIn) B.pre
  have hown : s.vm.findClass RX1 = some m.cls := findClass_of_methodNamed B.named
  have hlocks := B.notSynchronized
  subst hsz
  have hin0 : ∀ w ∈ u_ws RX1 TX1 12, w ∈ wsX1_isIn := fun w h => List.mem_cons_of_mem _ (wiX1 w h)
  have fl_7 := hts _ (List.mem_cons_of_mem _ flX1_7)
  have fl_19 := hts _ (List.mem_cons_of_mem _ flX1_19)
  have fl_22 := hts _ (List.mem_cons_of_mem _ flX1_22)
  have fl_32 := hts _ (List.mem_cons_of_mem _ flX1_32)
  have fl_35 := hts _ (List.mem_cons_of_mem _ flX1_35)
  have hD := hD0
  have hl := lv_entry ([.ref (ad 0), .int (nI wi), .int (nI i0)]) (n := 5) (Nat.le_of_ble_eq_true rfl)
  rw [lg_entry_eq]
  generalize (lg_sl ([.ref (ad 0), .int (nI wi), .int (nI i0)]) ++ List.replicate (5 - (lg_sl ([.ref (ad 0), .int (nI wi), .int (nI i0)])).length) Slot.unset).toArray = ls at hl ⊢
  have hl : lv_has ls 5 [(0, .ref (ad 0)), (1, .int (nI wi)), (2, .int (nI i0))] := hl
  refine lv_aload_n hx hb dX1_isIn_0 rfl (lv_at hl 0 rfl) ?_
  refine va_get (D := (dC, dI)) (ci := 1) (v := .ref (ad 5)) (C := RX1) (T := TX1) (N := 12) hx hb hts hin0 hown hK hP 0 rfl rfl 8 (by decide) fl_22 (fun _ h9 => h9) rfl dX1_isIn_1 ?_
  refine lv_iload_n hx hb dX1_isIn_4 rfl (lv_at hl 1 rfl) ?_
  refine ya_iald hx hb hK hP 5 4 rfl rfl (j := wi) hwi (by decide) dX1_isIn_5 ?_
  refine lv_istore_n (lv' := [(3, .int (ln wi)), (0, .ref (ad 0)), (1, .int (nI wi)), (2, .int (nI i0))]) hx hb dX1_isIn_6 rfl hl (by decide) rfl (fun ls hl => ?_)
  refine lv_iload_n hx hb dX1_isIn_7 rfl (lv_at hl 0 rfl) ?_
  have tail : ∀ (ls : Array Slot), lv_has ls 5 [(0, .ref (ad 0)), (1, .int (nI wi)), (2, .int (nI i0)), (3, .int (ln wi)), (4, .int (mr_part (ln wi)))] → W p l e (headSpec wsX1_isIn ({ frames := 1, cells := 0, slots := 0, locals := 24 })).room s m ([.ref (ad 0), .int (nI wi), .int (nI i0)] : List Value).toArray below meth c s.heap [] 0 0 (MQ below (vp_Si (fun r => qc_mk r (mi_in t k n nw (kd wi) (ln wi) i0))) ([.ref (ad 0), .int (nI wi), .int (nI i0)] : List Value).toArray s 0 0 (fun _ => False)) (F0 m 18 ls []) := by
    intro ls hl
    refine lv_aload_n hx hb dX1_isIn_18 rfl (lv_at hl 0 rfl) ?_
    refine va_get (D := (dC, dI)) (ci := 1) (v := .ref (ad 4)) (C := RX1) (T := TX1) (N := 12) hx hb hts hin0 hown hK hP 0 rfl rfl 7 (by decide) fl_19 (fun _ h9 => h9) rfl dX1_isIn_19 ?_
    refine lv_iload_n hx hb dX1_isIn_22 rfl (lv_at hl 1 rfl) ?_
    refine ya_iald hx hb hK hP 4 3 rfl rfl (j := wi) hwi (by decide) dX1_isIn_23 ?_
    by_cases g0 : kd wi = 0
    · refine lv_tableIn (off := 36) (tgt := 60) hx hb dX1_isIn_24 (by rw [g0]; decide) (by rw [g0]; decide) (by rw [g0]; decide) (by decide) ?_
      refine lv_aload_n hx hb dX1_isIn_60 rfl (lv_at hl 0 rfl) ?_
      refine va_get (D := (dC, dI)) (ci := 1) (v := .ref (ad 1)) (C := RX1) (T := TX1) (N := 12) hx hb hts hin0 hown hK hP 0 rfl rfl 2 (by decide) fl_7 (fun _ h9 => h9) rfl dX1_isIn_61 ?_
      refine lv_iload_n hx hb dX1_isIn_64 rfl (lv_at hl 2 rfl) ?_
      refine ya_iald hx hb hK hP 1 0 rfl rfl (j := i0) (by omega) (by decide) dX1_isIn_65 ?_
      refine lv_aload_n hx hb dX1_isIn_66 rfl (lv_at hl 0 rfl) ?_
      refine va_get (D := (dC, dI)) (ci := 1) (v := .int nw) (C := RX1) (T := TX1) (N := 12) hx hb hts hin0 hown hK hP 0 rfl rfl 5 (by decide) fl_35 (fun _ h9 => h9) rfl dX1_isIn_67 ?_
      refine lv_iload_n hx hb dX1_isIn_70 rfl (lv_at hl 3 rfl) ?_
      refine lv_isub hx hb dX1_isIn_71 ?_
      refine lv_icmp_lt (tgt := 79) hx hb dX1_isIn_72 (by decide) (fun c_1 => ?_) (fun c_1 => ?_)
      · refine lv_iconst (v := 0) hx hb dX1_isIn_79 (by decide) ?_
        exact W.zret (v := 0) hx hb hr (by decide) (fun t9 ht hW => ⟨_, rfl, by rw [mi_in, if_pos g0]; exact qc_mk0 (fun q => q c_1), ht⟩) (fun q h => by cases h) dX1_isIn_80
      · refine lv_iconst (v := 1) hx hb dX1_isIn_75 (by decide) ?_
        refine lv_goto (tgt := 80) hx hb dX1_isIn_76 (by decide) ?_
        exact W.zret (v := 1) hx hb hr (by decide) (fun t9 ht hW => ⟨_, rfl, by rw [mi_in, if_pos g0]; exact qc_mk1 c_1, ht⟩) (fun q h => by cases h) dX1_isIn_80
    · skip
      by_cases g1 : kd wi = 1
      · refine lv_tableIn (off := 57) (tgt := 81) hx hb dX1_isIn_24 (by rw [g1]; decide) (by rw [g1]; decide) (by rw [g1]; decide) (by decide) ?_
        refine lv_iload_n hx hb dX1_isIn_81 rfl (lv_at hl 2 rfl) ?_
        refine lv_aload_n hx hb dX1_isIn_82 rfl (lv_at hl 0 rfl) ?_
        refine va_get (D := (dC, dI)) (ci := 1) (v := .int (nI n)) (C := RX1) (T := TX1) (N := 12) hx hb hts hin0 hown hK hP 0 rfl rfl 1 (by decide) fl_32 (fun _ h9 => h9) rfl dX1_isIn_83 ?_
        refine lv_iload_n hx hb dX1_isIn_86 rfl (lv_at hl 3 rfl) ?_
        refine lv_isub hx hb dX1_isIn_87 ?_
        refine lv_icmp_lt (tgt := 95) hx hb dX1_isIn_88 (by decide) (fun c_2 => ?_) (fun c_2 => ?_)
        · refine lv_iconst (v := 0) hx hb dX1_isIn_95 (by decide) ?_
          exact W.zret (v := 0) hx hb hr (by decide) (fun t9 ht hW => ⟨_, rfl, by rw [mi_in, if_neg g0, if_pos g1]; exact qc_mk0 (fun q => q c_2), ht⟩) (fun q h => by cases h) dX1_isIn_96
        · refine lv_iconst (v := 1) hx hb dX1_isIn_91 (by decide) ?_
          refine lv_goto (tgt := 96) hx hb dX1_isIn_92 (by decide) ?_
          exact W.zret (v := 1) hx hb hr (by decide) (fun t9 ht hW => ⟨_, rfl, by rw [mi_in, if_neg g0, if_pos g1]; exact qc_mk1 c_2, ht⟩) (fun q h => by cases h) dX1_isIn_96
      · skip
        by_cases g2 : kd wi = 2
        · refine lv_tableIn (off := 73) (tgt := 97) hx hb dX1_isIn_24 (by rw [g2]; decide) (by rw [g2]; decide) (by rw [g2]; decide) (by decide) ?_
          refine lv_aload_n hx hb dX1_isIn_97 rfl (lv_at hl 0 rfl) ?_
          refine lv_iload_n hx hb dX1_isIn_98 rfl (lv_at hl 2 rfl) ?_
          refine vp_callSi (W.runV (As := [.int (nI i0)]) (rest := []) ⟨hx, hb, hml, hown, hts⟩ (m_behindOfKey l dC dI ca ad _ th t k v n nw w kd ln hd so fq i0  hn hk8 hi0) (cwV 1 hts (gg_V mlX1_50 imX1_behindOfKey seX1_behindOfKey in_WindowMetersModel kwX1_behindOfKey) rfl rfl rfl (by decide +kernel) ⟨Nat.le_of_ble_eq_true rfl, Nat.le_of_ble_eq_true rfl⟩) (md_preV hK hP hD [.int (nI i0)]) rfl rfl hl.1 rfl (lv_room (Nat.le_of_ble_eq_true rfl)) dX1_isIn_99 ⟨Nat.le_of_ble_eq_true rfl, Nat.le_of_ble_eq_true rfl⟩) (fun r_3 hr_4 => ?_)
          subst hr_4
          refine lv_iload_n hx hb dX1_isIn_102 rfl (lv_at hl 3 rfl) ?_
          refine lv_icmp_ge (tgt := 110) hx hb dX1_isIn_103 (by decide) (fun c_5 => ?_) (fun c_5 => ?_)
          · refine lv_iconst (v := 0) hx hb dX1_isIn_110 (by decide) ?_
            exact W.zret (v := 0) hx hb hr (by decide) (fun t9 ht hW => ⟨_, rfl, by rw [mi_in, if_neg g0, if_neg g1, if_pos g2]; exact qc_mk0 (Int32.not_lt.mpr c_5), ht⟩) (fun q h => by cases h) dX1_isIn_111
          · refine lv_iconst (v := 1) hx hb dX1_isIn_106 (by decide) ?_
            refine lv_goto (tgt := 111) hx hb dX1_isIn_107 (by decide) ?_
            exact W.zret (v := 1) hx hb hr (by decide) (fun t9 ht hW => ⟨_, rfl, by rw [mi_in, if_neg g0, if_neg g1, if_pos g2]; exact qc_mk1 (Int32.not_le.mp c_5), ht⟩) (fun q h => by cases h) dX1_isIn_111
        · skip
          by_cases g3 : kd wi = 3
          · refine lv_tableIn (off := 88) (tgt := 112) hx hb dX1_isIn_24 (by rw [g3]; decide) (by rw [g3]; decide) (by rw [g3]; decide) (by decide) ?_
            refine lv_aload_n hx hb dX1_isIn_112 rfl (lv_at hl 0 rfl) ?_
            refine va_get (D := (dC, dI)) (ci := 1) (v := .ref (ad 1)) (C := RX1) (T := TX1) (N := 12) hx hb hts hin0 hown hK hP 0 rfl rfl 2 (by decide) fl_7 (fun _ h9 => h9) rfl dX1_isIn_113 ?_
            refine lv_iload_n hx hb dX1_isIn_116 rfl (lv_at hl 2 rfl) ?_
            refine ya_iald hx hb hK hP 1 0 rfl rfl (j := i0) (by omega) (by decide) dX1_isIn_117 ?_
            refine lv_iload hx hb dX1_isIn_118 (lv_at hl 4 rfl) ?_
            refine lv_idiv hx hb dX1_isIn_120 (mr_part_ne _) ?_
            refine lv_aload_n hx hb dX1_isIn_121 rfl (lv_at hl 0 rfl) ?_
            refine va_get (D := (dC, dI)) (ci := 1) (v := .int nw) (C := RX1) (T := TX1) (N := 12) hx hb hts hin0 hown hK hP 0 rfl rfl 5 (by decide) fl_35 (fun _ h9 => h9) rfl dX1_isIn_122 ?_
            refine lv_iload hx hb dX1_isIn_125 (lv_at hl 4 rfl) ?_
            refine lv_idiv hx hb dX1_isIn_127 (mr_part_ne _) ?_
            refine lv_icmp_ne (tgt := 135) hx hb dX1_isIn_128 (by decide) (fun c_6 => ?_) (fun c_6 => ?_)
            · refine lv_iconst (v := 0) hx hb dX1_isIn_135 (by decide) ?_
              exact W.zret (v := 0) hx hb hr (by decide) (fun t9 ht hW => ⟨_, rfl, by rw [mi_in, if_neg g0, if_neg g1, if_neg g2, if_pos g3]; exact qc_mk0 c_6, ht⟩) (fun q h => by cases h) dX1_isIn_136
            · refine lv_iconst (v := 1) hx hb dX1_isIn_131 (by decide) ?_
              refine lv_goto (tgt := 136) hx hb dX1_isIn_132 (by decide) ?_
              exact W.zret (v := 1) hx hb hr (by decide) (fun t9 ht hW => ⟨_, rfl, by rw [mi_in, if_neg g0, if_neg g1, if_neg g2, if_pos g3]; exact qc_mk1 c_6, ht⟩) (fun q h => by cases h) dX1_isIn_136
          · skip
            by_cases g4 : kd wi = 4
            · refine lv_tableIn (off := 113) (tgt := 137) hx hb dX1_isIn_24 (by rw [g4]; decide) (by rw [g4]; decide) (by rw [g4]; decide) (by decide) ?_
              refine lv_aload_n hx hb dX1_isIn_137 rfl (lv_at hl 0 rfl) ?_
              refine lv_iload_n hx hb dX1_isIn_138 rfl (lv_at hl 2 rfl) ?_
              refine lv_iload_n hx hb dX1_isIn_139 rfl (lv_at hl 3 rfl) ?_
              obtain ⟨n1, rfl⟩ : ∃ n1, n = n1 + 1 := ⟨n - 1, by omega⟩
              refine vp_callSi (W.runV (As := [.int (nI i0), .int (ln wi)]) (rest := []) ⟨hx, hb, hml, hown, hts⟩ (m_runs l dC dI ca ad _ th t k v n1 nw w kd ln hd so fq i0 (ln wi) (by omega) (by omega)) (cwV 2 hts (gg_V mlX1_54 imX1_runs seX1_runs in_WindowMetersModel kwX1_runs) rfl rfl rfl (by decide +kernel) ⟨Nat.le_of_ble_eq_true rfl, Nat.le_of_ble_eq_true rfl⟩) (md_preV hK hP hD [.int (nI i0), .int (ln wi)]) rfl rfl hl.1 rfl (lv_room (Nat.le_of_ble_eq_true rfl)) dX1_isIn_140 ⟨Nat.le_of_ble_eq_true rfl, Nat.le_of_ble_eq_true rfl⟩) (fun r9 hr9 => ?_)
              exact W.zret (v := r9) hx hb hr (mk_bool hr9) (fun t9 ht hW => ⟨_, rfl, by rw [mi_in, if_neg g0, if_neg g1, if_neg g2, if_neg g3, if_pos g4]; exact hr9, ht⟩) (fun q h => by cases h) dX1_isIn_143
            · skip
              refine lv_tableOut (tgt := 144) hx hb dX1_isIn_24 (yt_out g0 g1 g2 g3 g4) (by decide) ?_
              refine lv_aload_n hx hb dX1_isIn_144 rfl (lv_at hl 0 rfl) ?_
              refine va_get (D := (dC, dI)) (ci := 1) (v := .ref (ad 1)) (C := RX1) (T := TX1) (N := 12) hx hb hts hin0 hown hK hP 0 rfl rfl 2 (by decide) fl_7 (fun _ h9 => h9) rfl dX1_isIn_145 ?_
              refine lv_iload_n hx hb dX1_isIn_148 rfl (lv_at hl 2 rfl) ?_
              refine ya_iald hx hb hK hP 1 0 rfl rfl (j := i0) (by omega) (by decide) dX1_isIn_149 ?_
              refine lv_aload_n hx hb dX1_isIn_150 rfl (lv_at hl 0 rfl) ?_
              refine va_get (D := (dC, dI)) (ci := 1) (v := .int nw) (C := RX1) (T := TX1) (N := 12) hx hb hts hin0 hown hK hP 0 rfl rfl 5 (by decide) fl_35 (fun _ h9 => h9) rfl dX1_isIn_151 ?_
              refine lv_iload_n hx hb dX1_isIn_154 rfl (lv_at hl 3 rfl) ?_
              refine lv_isub hx hb dX1_isIn_155 ?_
              refine lv_icmp_ge (tgt := 163) hx hb dX1_isIn_156 (by decide) (fun c_7 => ?_) (fun c_7 => ?_)
              · refine lv_iconst (v := 0) hx hb dX1_isIn_163 (by decide) ?_
                exact W.zret (v := 0) hx hb hr (by decide) (fun t9 ht hW => ⟨_, rfl, by rw [mi_in, if_neg g0, if_neg g1, if_neg g2, if_neg g3, if_neg g4]; exact qc_mk0 (Int32.not_lt.mpr c_7), ht⟩) (fun q h => by cases h) dX1_isIn_164
              · refine lv_iconst (v := 1) hx hb dX1_isIn_159 (by decide) ?_
                refine lv_goto (tgt := 164) hx hb dX1_isIn_160 (by decide) ?_
                exact W.zret (v := 1) hx hb hr (by decide) (fun t9 ht hW => ⟨_, rfl, by rw [mi_in, if_neg g0, if_neg g1, if_neg g2, if_neg g3, if_neg g4]; exact qc_mk1 (Int32.not_le.mp c_7), ht⟩) (fun q h => by cases h) dX1_isIn_164
  refine lv_if_ne (tgt := 15) hx hb dX1_isIn_8 (by decide) (fun c_8 => ?_) (fun c_8 => ?_)
  · refine lv_iload_n hx hb dX1_isIn_15 rfl (lv_at hl 0 rfl) ?_
    refine W.eq (g2 := F0 m 16 ls [.int (mr_part (ln wi))]) (by rw [mr_part, if_neg c_8]) ?_
    refine lv_istore (lv' := [(4, .int (mr_part (ln wi))), (3, .int (ln wi)), (0, .ref (ad 0)), (1, .int (nI wi)), (2, .int (nI i0))]) hx hb dX1_isIn_16 hl (by decide) rfl (fun ls hl => ?_)
    exact tail ls (lv_sub hl [2, 3, 4, 1, 0] rfl)
  · refine lv_iconst (v := 1) hx hb dX1_isIn_11 (by decide) ?_
    refine lv_goto (tgt := 16) hx hb dX1_isIn_12 (by decide) ?_
    refine W.eq (g2 := F0 m 16 ls [.int (mr_part (ln wi))]) (by rw [mr_part, if_pos c_8]) ?_
    refine lv_istore (lv' := [(4, .int (mr_part (ln wi))), (3, .int (ln wi)), (0, .ref (ad 0)), (1, .int (nI wi)), (2, .int (nI i0))]) hx hb dX1_isIn_16 hl (by decide) rfl (fun ls hl => ?_)
    exact tail ls (lv_sub hl [2, 3, 4, 1, 0] rfl)

set_option maxRecDepth 100000 in
set_option maxHeartbeats 4000000 in
/-- hold(w) -/
theorem m_hold (l : Launch) (dC : Nat → ClassId) (dI : Nat → Nat → Nat) (ca : Nat → ClassId) (ad : Nat → Nat) (sz : Nat) (th : Int32) (t : Nat → Int32) (k : Nat → Nat) (v : Nat → Int32) (n : Nat) (nw : Int32) (w : Nat) (kd : Nat → Int32) (ln : Nat → Int32) (hd : Nat) (so : Nat → Int32) (fq : Nat) (wi : Nat) (hn : n ≤ 300) (hk8 : ∀ j, j < n → k j < 8) (hwi : wi < 6) : Met l yX1_hold wsX1_hold ({ frames := 2, cells := 0, slots := 0, locals := 48 }) (va_Pc [.ref (ad 0), .int (nI wi)] (mdPre dC dI ca ad sz th t k v n nw w kd ln hd so fq)) (va_Qv (fun u : Nat × (Nat → Int32) => mh_ok v (fun j => mi_in t k n nw (kd wi) (ln wi) j) n u.1 u.2) (fun u t9 => mdAt dC dI ca ad (va_A (md ca ad th t k v n nw w kd ln hd so fq) sz) th t k v n nw w kd ln u.1 u.2 fq t9) (va_A (md ca ad th t k v n nw w kd ln hd so fq) sz)) 0 0 (va_A (md ca ad th t k v n nw w kd ln hd so fq) sz) := by
  refine Met.ofW (cc := cX1_hold) (maxL := 4) (ret := none) (by decide) rfl ?_
  intro p e s m args below meth c s₁ B hml hv
  obtain ⟨rfl, hsz, hP, hK, hD0⟩ := hv
  have hx := B.exec
  have hb := B.bytes
  have hr := B.returns
  have hts := atoms_spec (ws := wsX1_hold) B.pre
  have hown : s.vm.findClass RX1 = some m.cls := findClass_of_methodNamed B.named
  have hlocks := B.notSynchronized
  subst hsz
  have hin0 : ∀ w ∈ u_ws RX1 TX1 12, w ∈ wsX1_hold := fun w h => List.mem_cons_of_mem _ (wiX1 w h)
  have fl_16 := hts _ (List.mem_cons_of_mem _ flX1_16)
  have fl_25 := hts _ (List.mem_cons_of_mem _ flX1_25)
  have fl_32 := hts _ (List.mem_cons_of_mem _ flX1_32)
  have fl_58 := hts _ (List.mem_cons_of_mem _ flX1_58)
  have hD := hD0.self (sz := s.heap.size)
  generalize hAe : va_A (md ca ad th t k v n nw w kd ln hd so fq) s.heap.size = A at hD ⊢
  have hA : ∀ q : Nat, s.heap.size ≤ q → A q := fun q h => by rw [← hAe]; exact Or.inr h
  have hS : va_S A s.heap s.heap [] := va_S.rf
  have hl := lv_entry ([.ref (ad 0), .int (nI wi)]) (n := 4) (Nat.le_of_ble_eq_true rfl)
  rw [lg_entry_eq]
  generalize (lg_sl ([.ref (ad 0), .int (nI wi)]) ++ List.replicate (4 - (lg_sl ([.ref (ad 0), .int (nI wi)])).length) Slot.unset).toArray = ls at hl ⊢
  have hl : lv_has ls 4 [(0, .ref (ad 0)), (1, .int (nI wi))] := hl
  refine lv_aload_n hx hb dX1_hold_0 rfl (lv_at hl 0 rfl) ?_
  refine lv_iconst (v := 0) hx hb dX1_hold_1 (by decide) ?_
  refine va_put (D := (dC, dI)) (ci := 1) (v := .int 0) (ty := .int) (C := RX1) (T := TX1) (N := 12) hx hb hts hin0 tyX1 tyX1_ok nmX1 hown hK hP hD hS 0 rfl rfl 9 (by decide) fl_58 (fun _ h9 => h9) rfl (by decide +kernel) rfl rfl (Nat.le_of_ble_eq_true rfl) dX1_hold_2 (fun H locs hP hD hS => ?_)
  have hP : va_P (dC, dI) vwCl (md ca ad th t k v n nw w kd ln 0 so fq) H := hP
  have hD : va_D A (md ca ad th t k v n nw w kd ln 0 so fq) := hD
  refine lv_iconst (v := 0) hx hb dX1_hold_5 (by decide) ?_
  refine lv_istore_n (lv' := [(2, .int 0), (0, .ref (ad 0)), (1, .int (nI wi))]) hx hb dX1_hold_6 rfl hl (by decide) rfl (fun ls hl => ?_)
  have loop : ∀ (d i : Nat), i ≤ n → n + 1 ≤ i + d → ∀ (h9 : Nat) (g : Nat → Int32) (H : Heap) (locs : List Loc), va_P (dC, dI) vwCl (md ca ad th t k v n nw w kd ln h9 g fq) H → va_D A (md ca ad th t k v n nw w kd ln h9 g fq) → va_S A s.heap H locs → (mh_ok v (fun j => mi_in t k n nw (kd wi) (ln wi) j) i h9 g) → ∀ (ls : Array Slot), lv_has ls 4 [(0, .ref (ad 0)), (1, .int (nI wi)), (2, .int (nI i))] → W p l e (headSpec wsX1_hold ({ frames := 2, cells := 0, slots := 0, locals := 48 })).room s m ([.ref (ad 0), .int (nI wi)] : List Value).toArray below meth c H locs 0 0 (MQ below (va_Qv (fun u : Nat × (Nat → Int32) => mh_ok v (fun j => mi_in t k n nw (kd wi) (ln wi) j) n u.1 u.2) (fun u t9 => mdAt dC dI ca ad A th t k v n nw w kd ln u.1 u.2 fq t9) A) ([.ref (ad 0), .int (nI wi)] : List Value).toArray s 0 0 A) (F0 m 7 ls []) := by
    intro d
    induction d with
    | zero =>
      intro i hi hfu
      exact absurd hfu (by omega)
    | succ d ih =>
      intro i hi hfu h9 g H locs hP hD hS hok ls hl
      have hh9 : h9 ≤ i := hok.1
      refine lv_iload_n hx hb dX1_hold_7 rfl (lv_at hl 2 rfl) ?_
      refine lv_aload_n hx hb dX1_hold_8 rfl (lv_at hl 0 rfl) ?_
      refine va_get (D := (dC, dI)) (ci := 1) (v := .int (nI n)) (C := RX1) (T := TX1) (N := 12) hx hb hts hin0 hown hK hP 0 rfl rfl 1 (by decide) fl_32 (fun _ h9 => h9) rfl dX1_hold_9 ?_
      refine yb_ge (tgt := 98) (by omega) (by omega) hx hb dX1_hold_12 (by decide) (fun c_1 => ?_) (fun c_1 => ?_)
      · obtain rfl : i = n := by omega
        exact W.vret hx hb hr (fun t9 ht hW => ⟨⟨(h9, g), rfl, hok, by rw [ht]; exact hP, va_K.moved hW.alike hK, hD⟩, hS.F ht⟩) hS.2.2 dX1_hold_98
      · refine lv_aload_n hx hb dX1_hold_15 rfl (lv_at hl 0 rfl) ?_
        refine lv_iload_n hx hb dX1_hold_16 rfl (lv_at hl 1 rfl) ?_
        refine lv_iload_n hx hb dX1_hold_17 rfl (lv_at hl 2 rfl) ?_
        refine vp_callSi (W.runV (As := [.int (nI wi), .int (nI i)]) (rest := []) ⟨hx, hb, hml, hown, hts⟩ (m_isIn l dC dI ca ad _ th t k v n nw w kd ln h9 g fq wi i  hn hk8 hwi c_1) (cwV 2 hts (gg_V mlX1_61 imX1_isIn seX1_isIn in_WindowMetersModel kwX1_isIn) rfl rfl rfl (by decide +kernel) ⟨Nat.le_of_ble_eq_true rfl, Nat.le_of_ble_eq_true rfl⟩) (md_preV hK hP hD [.int (nI wi), .int (nI i)]) rfl rfl hl.1 rfl (lv_room (Nat.le_of_ble_eq_true rfl)) dX1_hold_18 ⟨Nat.le_of_ble_eq_true rfl, Nat.le_of_ble_eq_true rfl⟩) (fun r_2 hr_3 => ?_)
        refine lv_if_eq (tgt := 92) hx hb dX1_hold_21 (by decide) (fun c_4 => ?_) (fun c_4 => ?_)
        · refine lv_iinc (v := (nI (i + 1))) (lv' := [(2, .int (nI (i + 1))), (0, .ref (ad 0)), (1, .int (nI wi))]) hx hb dX1_hold_92 hl (k := 2) rfl (yn_inc _) (by decide) rfl (fun ls hl => ?_)
          refine lv_goto (tgt := 7) hx hb dX1_hold_95 (by decide) ?_
          exact ih (i + 1) (by omega) (by omega) _ _ _ _ hP hD hS (mh_no hok (mk_z hr_3 c_4)) ls (lv_sub hl [1, 2, 0] rfl)
        · refine lv_aload_n hx hb dX1_hold_24 rfl (lv_at hl 0 rfl) ?_
          refine va_get (D := (dC, dI)) (ci := 1) (v := .int (nI h9)) (C := RX1) (T := TX1) (N := 12) hx hb hts hin0 hown hK hP 0 rfl rfl 9 (by decide) fl_58 (fun _ h9 => h9) rfl dX1_hold_25 ?_
          refine lv_istore_n (lv' := [(3, .int (nI h9)), (0, .ref (ad 0)), (1, .int (nI wi)), (2, .int (nI i))]) hx hb dX1_hold_28 rfl hl (by decide) rfl (fun ls hl => ?_)
          have inner : ∀ (p0 : Nat), p0 ≤ h9 → ∀ (g2 : Nat → Int32) (H : Heap) (locs : List Loc), va_P (dC, dI) vwCl (md ca ad th t k v n nw w kd ln h9 g2 fq) H → va_D A (md ca ad th t k v n nw w kd ln h9 g2 fq) → va_S A s.heap H locs → (∀ j, p0 ≤ j → j < h9 → ¬ g j ≤ v i) → (∀ j, j < p0 → g2 j = g j) → (∀ j, p0 < j → j ≤ h9 → g2 j = g (j - 1)) → ∀ (ls : Array Slot), lv_has ls 4 [(0, .ref (ad 0)), (1, .int (nI wi)), (2, .int (nI i)), (3, .int (nI p0))] → W p l e (headSpec wsX1_hold ({ frames := 2, cells := 0, slots := 0, locals := 48 })).room s m ([.ref (ad 0), .int (nI wi)] : List Value).toArray below meth c H locs 0 0 (MQ below (va_Qv (fun u : Nat × (Nat → Int32) => mh_ok v (fun j => mi_in t k n nw (kd wi) (ln wi) j) n u.1 u.2) (fun u t9 => mdAt dC dI ca ad A th t k v n nw w kd ln u.1 u.2 fq t9) A) ([.ref (ad 0), .int (nI wi)] : List Value).toArray s 0 0 A) (F0 m 29 ls []) := by
            intro p0
            induction p0 with
            | zero =>
              intro hi2 g2 H locs hP hD hS h3 h4 h5 ls hl
              refine lv_iload_n hx hb dX1_hold_29 rfl (lv_at hl 3 rfl) ?_
              refine lv_if_le (tgt := 70) hx hb dX1_hold_30 (by decide) (fun c_5 => ?_) (fun c_5 => ?_)
              · refine lv_aload_n hx hb dX1_hold_70 rfl (lv_at hl 0 rfl) ?_
                refine va_get (D := (dC, dI)) (ci := 1) (v := .ref (ad 6)) (C := RX1) (T := TX1) (N := 12) hx hb hts hin0 hown hK hP 0 rfl rfl 10 (by decide) fl_25 (fun _ h9 => h9) rfl dX1_hold_71 ?_
                refine lv_iload_n hx hb dX1_hold_74 rfl (lv_at hl 3 rfl) ?_
                refine lv_aload_n hx hb dX1_hold_75 rfl (lv_at hl 0 rfl) ?_
                refine va_get (D := (dC, dI)) (ci := 1) (v := .ref (ad 3)) (C := RX1) (T := TX1) (N := 12) hx hb hts hin0 hown hK hP 0 rfl rfl 4 (by decide) fl_16 (fun _ h9 => h9) rfl dX1_hold_76 ?_
                refine lv_iload_n hx hb dX1_hold_79 rfl (lv_at hl 2 rfl) ?_
                refine ya_iald hx hb hK hP 3 2 rfl rfl (j := i) (by omega) (by decide) dX1_hold_80 ?_
                refine ya_iast hx hb hK hP hD hS 6 5 rfl rfl (j := 0) (by decide) (by decide) dX1_hold_81 (fun H locs hP hD hS => ?_)
                have hP : va_P (dC, dI) vwCl (md ca ad th t k v n nw w kd ln h9 (upd g2 0 (v i)) fq) H := hP
                have hD : va_D A (md ca ad th t k v n nw w kd ln h9 (upd g2 0 (v i)) fq) := hD
                refine lv_aload_n hx hb dX1_hold_82 rfl (lv_at hl 0 rfl) ?_
                refine lv_dup hx hb dX1_hold_83 rfl ?_
                refine va_get (D := (dC, dI)) (ci := 1) (v := .int (nI h9)) (C := RX1) (T := TX1) (N := 12) hx hb hts hin0 hown hK hP 0 rfl rfl 9 (by decide) fl_58 (fun _ h9 => h9) rfl dX1_hold_84 ?_
                refine lv_iconst (v := 1) hx hb dX1_hold_87 (by decide) ?_
                refine lv_iadd hx hb dX1_hold_88 ?_
                rw [nI_1 h9]
                refine va_put (D := (dC, dI)) (ci := 1) (v := .int (nI (h9 + 1))) (ty := .int) (C := RX1) (T := TX1) (N := 12) hx hb hts hin0 tyX1 tyX1_ok nmX1 hown hK hP hD hS 0 rfl rfl 9 (by decide) fl_58 (fun _ h9 => h9) rfl (by decide +kernel) rfl rfl (Nat.le_of_ble_eq_true rfl) dX1_hold_89 (fun H locs hP hD hS => ?_)
                have hP : va_P (dC, dI) vwCl (md ca ad th t k v n nw w kd ln (h9 + 1) (upd g2 0 (v i)) fq) H := hP
                have hD : va_D A (md ca ad th t k v n nw w kd ln (h9 + 1) (upd g2 0 (v i)) fq) := hD
                refine lv_iinc (v := (nI (i + 1))) (lv' := [(2, .int (nI (i + 1))), (0, .ref (ad 0)), (1, .int (nI wi)), (3, .int (nI 0))]) hx hb dX1_hold_92 hl (k := 2) rfl (yn_inc _) (by decide) rfl (fun ls hl => ?_)
                refine lv_goto (tgt := 7) hx hb dX1_hold_95 (by decide) ?_
                exact ih (i + 1) (by omega) (by omega) _ _ _ _ hP hD hS (mh_yes hok (mk_nz hr_3 c_4) (qi_end (by omega) (Or.inl rfl) h3 h4 h5)) ls (lv_sub hl [1, 2, 0] rfl)
              · exact absurd (by decide) c_5
            | succ p0 ih2 =>
              intro hi2 g2 H locs hP hD hS h3 h4 h5 ls hl
              have hg : g2 p0 = g p0 := h4 p0 (by omega)
              refine lv_iload_n hx hb dX1_hold_29 rfl (lv_at hl 3 rfl) ?_
              refine lv_if_le (tgt := 70) hx hb dX1_hold_30 (by decide) (fun c_6 => ?_) (fun c_6 => ?_)
              · exact absurd c_6 (nI_nle (by omega) (by omega))
              · refine lv_aload_n hx hb dX1_hold_33 rfl (lv_at hl 0 rfl) ?_
                refine va_get (D := (dC, dI)) (ci := 1) (v := .ref (ad 6)) (C := RX1) (T := TX1) (N := 12) hx hb hts hin0 hown hK hP 0 rfl rfl 10 (by decide) fl_25 (fun _ h9 => h9) rfl dX1_hold_34 ?_
                refine lv_iload_n hx hb dX1_hold_37 rfl (lv_at hl 3 rfl) ?_
                refine lv_iconst (v := 1) hx hb dX1_hold_38 (by decide) ?_
                refine lv_isub hx hb dX1_hold_39 ?_
                rw [nI_pred p0]
                refine ya_iald hx hb hK hP 6 5 rfl rfl (j := p0) (by omega) (by decide) dX1_hold_40 ?_
                refine lv_aload_n hx hb dX1_hold_41 rfl (lv_at hl 0 rfl) ?_
                refine va_get (D := (dC, dI)) (ci := 1) (v := .ref (ad 3)) (C := RX1) (T := TX1) (N := 12) hx hb hts hin0 hown hK hP 0 rfl rfl 4 (by decide) fl_16 (fun _ h9 => h9) rfl dX1_hold_42 ?_
                refine lv_iload_n hx hb dX1_hold_45 rfl (lv_at hl 2 rfl) ?_
                refine ya_iald hx hb hK hP 3 2 rfl rfl (j := i) (by omega) (by decide) dX1_hold_46 ?_
                refine lv_icmp_le (tgt := 70) hx hb dX1_hold_47 (by decide) (fun c_7 => ?_) (fun c_7 => ?_)
                · refine lv_aload_n hx hb dX1_hold_70 rfl (lv_at hl 0 rfl) ?_
                  refine va_get (D := (dC, dI)) (ci := 1) (v := .ref (ad 6)) (C := RX1) (T := TX1) (N := 12) hx hb hts hin0 hown hK hP 0 rfl rfl 10 (by decide) fl_25 (fun _ h9 => h9) rfl dX1_hold_71 ?_
                  refine lv_iload_n hx hb dX1_hold_74 rfl (lv_at hl 3 rfl) ?_
                  refine lv_aload_n hx hb dX1_hold_75 rfl (lv_at hl 0 rfl) ?_
                  refine va_get (D := (dC, dI)) (ci := 1) (v := .ref (ad 3)) (C := RX1) (T := TX1) (N := 12) hx hb hts hin0 hown hK hP 0 rfl rfl 4 (by decide) fl_16 (fun _ h9 => h9) rfl dX1_hold_76 ?_
                  refine lv_iload_n hx hb dX1_hold_79 rfl (lv_at hl 2 rfl) ?_
                  refine ya_iald hx hb hK hP 3 2 rfl rfl (j := i) (by omega) (by decide) dX1_hold_80 ?_
                  refine ya_iast hx hb hK hP hD hS 6 5 rfl rfl (j := (p0 + 1)) (by omega) (by decide) dX1_hold_81 (fun H locs hP hD hS => ?_)
                  have hP : va_P (dC, dI) vwCl (md ca ad th t k v n nw w kd ln h9 (upd g2 (p0 + 1) (v i)) fq) H := hP
                  have hD : va_D A (md ca ad th t k v n nw w kd ln h9 (upd g2 (p0 + 1) (v i)) fq) := hD
                  refine lv_aload_n hx hb dX1_hold_82 rfl (lv_at hl 0 rfl) ?_
                  refine lv_dup hx hb dX1_hold_83 rfl ?_
                  refine va_get (D := (dC, dI)) (ci := 1) (v := .int (nI h9)) (C := RX1) (T := TX1) (N := 12) hx hb hts hin0 hown hK hP 0 rfl rfl 9 (by decide) fl_58 (fun _ h9 => h9) rfl dX1_hold_84 ?_
                  refine lv_iconst (v := 1) hx hb dX1_hold_87 (by decide) ?_
                  refine lv_iadd hx hb dX1_hold_88 ?_
                  rw [nI_1 h9]
                  refine va_put (D := (dC, dI)) (ci := 1) (v := .int (nI (h9 + 1))) (ty := .int) (C := RX1) (T := TX1) (N := 12) hx hb hts hin0 tyX1 tyX1_ok nmX1 hown hK hP hD hS 0 rfl rfl 9 (by decide) fl_58 (fun _ h9 => h9) rfl (by decide +kernel) rfl rfl (Nat.le_of_ble_eq_true rfl) dX1_hold_89 (fun H locs hP hD hS => ?_)
                  have hP : va_P (dC, dI) vwCl (md ca ad th t k v n nw w kd ln (h9 + 1) (upd g2 (p0 + 1) (v i)) fq) H := hP
                  have hD : va_D A (md ca ad th t k v n nw w kd ln (h9 + 1) (upd g2 (p0 + 1) (v i)) fq) := hD
                  refine lv_iinc (v := (nI (i + 1))) (lv' := [(2, .int (nI (i + 1))), (0, .ref (ad 0)), (1, .int (nI wi)), (3, .int (nI (p0 + 1)))]) hx hb dX1_hold_92 hl (k := 2) rfl (yn_inc _) (by decide) rfl (fun ls hl => ?_)
                  refine lv_goto (tgt := 7) hx hb dX1_hold_95 (by decide) ?_
                  exact ih (i + 1) (by omega) (by omega) _ _ _ _ hP hD hS (mh_yes hok (mk_nz hr_3 c_4) (qi_end (by omega) (Or.inr (by rw [show p0 + 1 - 1 = p0 from rfl, ← hg]; exact c_7)) h3 h4 h5)) ls (lv_sub hl [1, 2, 0] rfl)
                · refine lv_aload_n hx hb dX1_hold_50 rfl (lv_at hl 0 rfl) ?_
                  refine va_get (D := (dC, dI)) (ci := 1) (v := .ref (ad 6)) (C := RX1) (T := TX1) (N := 12) hx hb hts hin0 hown hK hP 0 rfl rfl 10 (by decide) fl_25 (fun _ h9 => h9) rfl dX1_hold_51 ?_
                  refine lv_iload_n hx hb dX1_hold_54 rfl (lv_at hl 3 rfl) ?_
                  refine lv_aload_n hx hb dX1_hold_55 rfl (lv_at hl 0 rfl) ?_
                  refine va_get (D := (dC, dI)) (ci := 1) (v := .ref (ad 6)) (C := RX1) (T := TX1) (N := 12) hx hb hts hin0 hown hK hP 0 rfl rfl 10 (by decide) fl_25 (fun _ h9 => h9) rfl dX1_hold_56 ?_
                  refine lv_iload_n hx hb dX1_hold_59 rfl (lv_at hl 3 rfl) ?_
                  refine lv_iconst (v := 1) hx hb dX1_hold_60 (by decide) ?_
                  refine lv_isub hx hb dX1_hold_61 ?_
                  rw [nI_pred p0]
                  refine ya_iald hx hb hK hP 6 5 rfl rfl (j := p0) (by omega) (by decide) dX1_hold_62 ?_
                  refine ya_iast hx hb hK hP hD hS 6 5 rfl rfl (j := (p0 + 1)) (by omega) (by decide) dX1_hold_63 (fun H locs hP hD hS => ?_)
                  have hP : va_P (dC, dI) vwCl (md ca ad th t k v n nw w kd ln h9 (upd g2 (p0 + 1) (g2 p0)) fq) H := hP
                  have hD : va_D A (md ca ad th t k v n nw w kd ln h9 (upd g2 (p0 + 1) (g2 p0)) fq) := hD
                  refine lv_iinc (v := (nI p0)) (lv' := [(3, .int (nI p0)), (0, .ref (ad 0)), (1, .int (nI wi)), (2, .int (nI i))]) hx hb dX1_hold_64 hl (k := 3) rfl (yn_dec _) (by decide) rfl (fun ls hl => ?_)
                  refine lv_goto (tgt := 29) hx hb dX1_hold_67 (by decide) ?_
                  exact ih2 (by omega) _ _ _ hP hD hS (fun j g1 g2 => by
                    rcases Nat.lt_or_ge p0 j with g3 | g3
                    · exact h3 j g3 g2
                    · obtain rfl : j = p0 := by omega
                      rw [← hg]; exact c_7) (fun j g1 => by rw [pk_un (by omega)]; exact h4 j (by omega)) (fun j g1 g2 => by
                    by_cases g3 : j = p0 + 1
                    · subst g3; rw [pk_us, hg]; rfl
                    · rw [pk_un g3]; exact h5 j (by omega) g2) ls (lv_sub hl [1, 2, 3, 0] rfl)
          exact inner h9 (Nat.le_refl h9) _ _ _ hP hD hS (fun j g1 g2 => absurd g2 (by omega)) (fun j _ => rfl) (fun j g1 g2 => absurd g2 (by omega)) ls (lv_sub hl [1, 2, 3, 0] rfl)
  exact loop (n + 1) 0 (Nat.zero_le n) (by omega) _ _ _ _ hP hD hS (mh_0 v _ so) ls (lv_sub hl [1, 2, 0] rfl)

set_option maxRecDepth 100000 in
set_option maxHeartbeats 4000000 in
/-- most() -/
theorem m_most (l : Launch) (dC : Nat → ClassId) (dI : Nat → Nat → Nat) (ca : Nat → ClassId) (ad : Nat → Nat) (sz : Nat) (th : Int32) (t : Nat → Int32) (k : Nat → Nat) (v : Nat → Int32) (n : Nat) (nw : Int32) (w : Nat) (kd : Nat → Int32) (ln : Nat → Int32) (hd : Nat) (so : Nat → Int32) (fq : Nat) (hhd : hd ≤ 300) : Met l yX1_most wsX1_most ({ frames := 0, cells := 0, slots := 0, locals := 0 }) (va_Pc [.ref (ad 0)] (mdPre dC dI ca ad sz th t k v n nw w kd ln hd so fq)) (va_Qi (fun (r : Int32) (u : Nat) => r = qc_o (mo_f so hd).1 ∧ u = (mo_f so hd).2.1) (fun u t9 => mdAt dC dI ca ad (va_A (md ca ad th t k v n nw w kd ln hd so fq) sz) th t k v n nw w kd ln hd so u t9) (va_A (md ca ad th t k v n nw w kd ln hd so fq) sz)) 0 0 (va_A (md ca ad th t k v n nw w kd ln hd so fq) sz) := by
  refine Met.ofW (cc := cX1_most) (maxL := 5) (ret := (some .int)) (by decide) rfl ?_
  intro p e s m args below meth c s₁ B hml hv
  obtain ⟨rfl, hsz, hP, hK, hD0⟩ := hv
  have hx := B.exec
  have hb := B.bytes
  have hr := B.returns
  have hts := atoms_spec (ws := wsX1_most) B.pre
  have hown : s.vm.findClass RX1 = some m.cls := findClass_of_methodNamed B.named
  have hlocks := B.notSynchronized
  subst hsz
  have hin0 : ∀ w ∈ u_ws RX1 TX1 12, w ∈ wsX1_most := fun w h => List.mem_cons_of_mem _ (wiX1 w h)
  have fl_25 := hts _ (List.mem_cons_of_mem _ flX1_25)
  have fl_58 := hts _ (List.mem_cons_of_mem _ flX1_58)
  have fl_64 := hts _ (List.mem_cons_of_mem _ flX1_64)
  have hD := hD0.self (sz := s.heap.size)
  generalize hAe : va_A (md ca ad th t k v n nw w kd ln hd so fq) s.heap.size = A at hD ⊢
  have hA : ∀ q : Nat, s.heap.size ≤ q → A q := fun q h => by rw [← hAe]; exact Or.inr h
  have hS : va_S A s.heap s.heap [] := va_S.rf
  have hl := lv_entry ([.ref (ad 0)]) (n := 5) (Nat.le_of_ble_eq_true rfl)
  rw [lg_entry_eq]
  generalize (lg_sl ([.ref (ad 0)]) ++ List.replicate (5 - (lg_sl ([.ref (ad 0)])).length) Slot.unset).toArray = ls at hl ⊢
  have hl : lv_has ls 5 [(0, .ref (ad 0))] := hl
  refine lv_iconst (v := (-1)) hx hb dX1_most_0 (by decide) ?_
  refine lv_istore_n (lv' := [(1, .int (-1)), (0, .ref (ad 0))]) hx hb dX1_most_1 rfl hl (by decide) rfl (fun ls hl => ?_)
  refine lv_aload_n hx hb dX1_most_2 rfl (lv_at hl 1 rfl) ?_
  refine lv_iconst (v := 0) hx hb dX1_most_3 (by decide) ?_
  refine va_put (D := (dC, dI)) (ci := 1) (v := .int 0) (ty := .int) (C := RX1) (T := TX1) (N := 12) hx hb hts hin0 tyX1 tyX1_ok nmX1 hown hK hP hD hS 0 rfl rfl 11 (by decide) fl_64 (fun _ h9 => h9) rfl (by decide +kernel) rfl rfl (Nat.le_of_ble_eq_true rfl) dX1_most_4 (fun H locs hP hD hS => ?_)
  have hP : va_P (dC, dI) vwCl (md ca ad th t k v n nw w kd ln hd so 0) H := hP
  have hD : va_D A (md ca ad th t k v n nw w kd ln hd so 0) := hD
  refine lv_iconst (v := 0) hx hb dX1_most_7 (by decide) ?_
  refine lv_istore_n (lv' := [(2, .int 0), (1, .int (-1)), (0, .ref (ad 0))]) hx hb dX1_most_8 rfl hl (by decide) rfl (fun ls hl => ?_)
  refine lv_iconst (v := 0) hx hb dX1_most_9 (by decide) ?_
  refine lv_istore_n (lv' := [(3, .int 0), (2, .int 0), (1, .int (-1)), (0, .ref (ad 0))]) hx hb dX1_most_10 rfl hl (by decide) rfl (fun ls hl => ?_)
  have loop : ∀ (d i : Nat) (bo : Option Nat) (fr : Nat), i ≤ hd → hd + 1 ≤ i + d → ∀ (f9 : Nat) (H : Heap) (locs : List Loc), va_P (dC, dI) vwCl (md ca ad th t k v n nw w kd ln hd so f9) H → va_D A (md ca ad th t k v n nw w kd ln hd so f9) → va_S A s.heap H locs → (mo_f so i = (bo, f9, fr)) → ∀ (ls : Array Slot), lv_has ls 5 [(0, .ref (ad 0)), (1, .int (qc_o bo)), (2, .int (nI fr)), (3, .int (nI i))] → W p l e (headSpec wsX1_most ({ frames := 0, cells := 0, slots := 0, locals := 0 })).room s m ([.ref (ad 0)] : List Value).toArray below meth c H locs 0 0 (MQ below (va_Qi (fun (r : Int32) (u : Nat) => r = qc_o (mo_f so hd).1 ∧ u = (mo_f so hd).2.1) (fun u t9 => mdAt dC dI ca ad A th t k v n nw w kd ln hd so u t9) A) ([.ref (ad 0)] : List Value).toArray s 0 0 A) (F0 m 11 ls []) := by
    intro d
    induction d with
    | zero =>
      intro i bo fr hi hfu
      exact absurd hfu (by omega)
    | succ d ih =>
      intro i bo fr hi hfu f9 H locs hP hD hS hq ls hl
      have hin := mo_in so i
      rw [hq] at hin
      obtain ⟨hb1, hb2, hb3⟩ := hin
      dsimp only at hb1 hb2 hb3
      refine lv_iload_n hx hb dX1_most_11 rfl (lv_at hl 3 rfl) ?_
      refine lv_aload_n hx hb dX1_most_12 rfl (lv_at hl 0 rfl) ?_
      refine va_get (D := (dC, dI)) (ci := 1) (v := .int (nI hd)) (C := RX1) (T := TX1) (N := 12) hx hb hts hin0 hown hK hP 0 rfl rfl 9 (by decide) fl_58 (fun _ h9 => h9) rfl dX1_most_13 ?_
      refine yb_ge (tgt := 96) (by omega) (by omega) hx hb dX1_most_16 (by decide) (fun c_1 => ?_) (fun c_1 => ?_)
      · refine lv_iload_n hx hb dX1_most_96 rfl (lv_at hl 1 rfl) ?_
        exact W.iret (v := (qc_o bo)) hx hb hr (fun t9 ht hW => ⟨⟨_, f9, rfl, ⟨by rw [show hd = i from by omega, hq], by rw [show hd = i from by omega, hq]⟩, by rw [ht]; exact hP, va_K.moved hW.alike hK, hD⟩, hS.F ht⟩) hS.2.2 dX1_most_97
      · refine lv_iload_n hx hb dX1_most_19 rfl (lv_at hl 3 rfl) ?_
        refine lv_if_le (tgt := 44) hx hb dX1_most_20 (by decide) (fun c_2 => ?_) (fun c_2 => ?_)
        · have hi0 : i = 0 := by
            rcases Nat.eq_zero_or_pos i with g | g
            · exact g
            · exact absurd c_2 (nI_nle g (by omega))
          refine lv_iload_n hx hb dX1_most_44 rfl (lv_at hl 2 rfl) ?_
          refine lv_istore_n (lv' := [(2, .int (nI fr)), (0, .ref (ad 0)), (1, .int (qc_o bo)), (3, .int (nI i))]) hx hb dX1_most_45 rfl hl (by decide) rfl (fun ls hl => ?_)
          refine lv_iload_n hx hb dX1_most_46 rfl (lv_at hl 3 rfl) ?_
          refine lv_iload_n hx hb dX1_most_47 rfl (lv_at hl 0 rfl) ?_
          have hle9 : fr ≤ i := by omega
          refine lv_isub hx hb dX1_most_48 ?_
          rw [pk_sub hle9]
          refine lv_iconst (v := 1) hx hb dX1_most_49 (by decide) ?_
          refine lv_iadd hx hb dX1_most_50 ?_
          rw [nI_1 (i - fr)]
          refine lv_istore (lv' := [(4, .int (nI (i - fr + 1))), (2, .int (nI fr)), (0, .ref (ad 0)), (1, .int (qc_o bo)), (3, .int (nI i))]) hx hb dX1_most_51 hl (by decide) rfl (fun ls hl => ?_)
          refine lv_iload hx hb dX1_most_53 (lv_at hl 0 rfl) ?_
          refine lv_aload_n hx hb dX1_most_55 rfl (lv_at hl 2 rfl) ?_
          refine va_get (D := (dC, dI)) (ci := 1) (v := .int (nI f9)) (C := RX1) (T := TX1) (N := 12) hx hb hts hin0 hown hK hP 0 rfl rfl 11 (by decide) fl_64 (fun _ h9 => h9) rfl dX1_most_56 ?_
          refine yb_le (tgt := 66) (by omega) (by omega) hx hb dX1_most_59 (by decide) (fun c_3 => ?_) (fun c_3 => ?_)
          · refine lv_iload_n hx hb dX1_most_66 rfl (lv_at hl 3 rfl) ?_
            refine lv_istore_n (lv' := [(1, .int (qc_o bo)), (4, .int (nI (i - fr + 1))), (2, .int (nI fr)), (0, .ref (ad 0)), (3, .int (nI i))]) hx hb dX1_most_67 rfl hl (by decide) rfl (fun ls hl => ?_)
            refine lv_aload_n hx hb dX1_most_68 rfl (lv_at hl 3 rfl) ?_
            refine lv_iload hx hb dX1_most_69 (lv_at hl 1 rfl) ?_
            refine lv_aload_n hx hb dX1_most_71 rfl (lv_at hl 3 rfl) ?_
            refine va_get (D := (dC, dI)) (ci := 1) (v := .int (nI f9)) (C := RX1) (T := TX1) (N := 12) hx hb hts hin0 hown hK hP 0 rfl rfl 11 (by decide) fl_64 (fun _ h9 => h9) rfl dX1_most_72 ?_
            refine yb_le (tgt := 83) (by omega) (by omega) hx hb dX1_most_75 (by decide) (fun c_4 => ?_) (fun c_4 => ?_)
            · refine lv_aload_n hx hb dX1_most_83 rfl (lv_at hl 3 rfl) ?_
              refine va_get (D := (dC, dI)) (ci := 1) (v := .int (nI f9)) (C := RX1) (T := TX1) (N := 12) hx hb hts hin0 hown hK hP 0 rfl rfl 11 (by decide) fl_64 (fun _ h9 => h9) rfl dX1_most_84 ?_
              refine va_put (D := (dC, dI)) (ci := 1) (v := .int (nI f9)) (ty := .int) (C := RX1) (T := TX1) (N := 12) hx hb hts hin0 tyX1 tyX1_ok nmX1 hown hK hP hD hS 0 rfl rfl 11 (by decide) fl_64 (fun _ h9 => h9) rfl (by decide +kernel) rfl rfl (Nat.le_of_ble_eq_true rfl) dX1_most_87 (fun H locs hP hD hS => ?_)
              have hP : va_P (dC, dI) vwCl (md ca ad th t k v n nw w kd ln hd so f9) H := hP
              have hD : va_D A (md ca ad th t k v n nw w kd ln hd so f9) := hD
              refine lv_iinc (v := (nI (i + 1))) (lv' := [(3, .int (nI (i + 1))), (1, .int (qc_o bo)), (4, .int (nI (i - fr + 1))), (2, .int (nI fr)), (0, .ref (ad 0))]) hx hb dX1_most_90 hl (k := 4) rfl (yn_inc _) (by decide) rfl (fun ls hl => ?_)
              refine lv_goto (tgt := 11) hx hb dX1_most_93 (by decide) ?_
              exact ih (i + 1) bo fr (by omega) (by omega) f9 _ _ hP hD hS ((mo_st hq (if_neg (fun q => absurd q.1 (by omega)))).trans (if_neg (by omega))) ls (lv_sub hl [4, 1, 3, 0] rfl)
            · exact absurd c_4 (by omega)
          · refine lv_iload_n hx hb dX1_most_62 rfl (lv_at hl 1 rfl) ?_
            refine lv_goto (tgt := 67) hx hb dX1_most_63 (by decide) ?_
            refine W.eq (g2 := F0 m 67 ls [.int (qc_o (some fr))]) rfl ?_
            refine lv_istore_n (lv' := [(1, .int (qc_o (some fr))), (4, .int (nI (i - fr + 1))), (2, .int (nI fr)), (0, .ref (ad 0)), (3, .int (nI i))]) hx hb dX1_most_67 rfl hl (by decide) rfl (fun ls hl => ?_)
            refine lv_aload_n hx hb dX1_most_68 rfl (lv_at hl 3 rfl) ?_
            refine lv_iload hx hb dX1_most_69 (lv_at hl 1 rfl) ?_
            refine lv_aload_n hx hb dX1_most_71 rfl (lv_at hl 3 rfl) ?_
            refine va_get (D := (dC, dI)) (ci := 1) (v := .int (nI f9)) (C := RX1) (T := TX1) (N := 12) hx hb hts hin0 hown hK hP 0 rfl rfl 11 (by decide) fl_64 (fun _ h9 => h9) rfl dX1_most_72 ?_
            refine yb_le (tgt := 83) (by omega) (by omega) hx hb dX1_most_75 (by decide) (fun c_5 => ?_) (fun c_5 => ?_)
            · exact absurd c_5 (by omega)
            · refine lv_iload hx hb dX1_most_78 (lv_at hl 1 rfl) ?_
              refine lv_goto (tgt := 87) hx hb dX1_most_80 (by decide) ?_
              refine va_put (D := (dC, dI)) (ci := 1) (v := .int (nI (i - fr + 1))) (ty := .int) (C := RX1) (T := TX1) (N := 12) hx hb hts hin0 tyX1 tyX1_ok nmX1 hown hK hP hD hS 0 rfl rfl 11 (by decide) fl_64 (fun _ h9 => h9) rfl (by decide +kernel) rfl rfl (Nat.le_of_ble_eq_true rfl) dX1_most_87 (fun H locs hP hD hS => ?_)
              have hP : va_P (dC, dI) vwCl (md ca ad th t k v n nw w kd ln hd so (i - fr + 1)) H := hP
              have hD : va_D A (md ca ad th t k v n nw w kd ln hd so (i - fr + 1)) := hD
              refine lv_iinc (v := (nI (i + 1))) (lv' := [(3, .int (nI (i + 1))), (1, .int (qc_o (some fr))), (4, .int (nI (i - fr + 1))), (2, .int (nI fr)), (0, .ref (ad 0))]) hx hb dX1_most_90 hl (k := 4) rfl (yn_inc _) (by decide) rfl (fun ls hl => ?_)
              refine lv_goto (tgt := 11) hx hb dX1_most_93 (by decide) ?_
              exact ih (i + 1) (some fr) fr (by omega) (by omega) (i - fr + 1) _ _ hP hD hS ((mo_st hq (if_neg (fun q => absurd q.1 (by omega)))).trans (if_pos (by omega))) ls (lv_sub hl [4, 1, 3, 0] rfl)
        · obtain ⟨i1, rfl⟩ : ∃ i1, i = i1 + 1 := ⟨i - 1, by
            rcases Nat.eq_zero_or_pos i with g | g
            · subst g; exact absurd (by decide) c_2
            · omega⟩
          refine lv_aload_n hx hb dX1_most_23 rfl (lv_at hl 0 rfl) ?_
          refine va_get (D := (dC, dI)) (ci := 1) (v := .ref (ad 6)) (C := RX1) (T := TX1) (N := 12) hx hb hts hin0 hown hK hP 0 rfl rfl 10 (by decide) fl_25 (fun _ h9 => h9) rfl dX1_most_24 ?_
          refine lv_iload_n hx hb dX1_most_27 rfl (lv_at hl 3 rfl) ?_
          refine ya_iald hx hb hK hP 6 5 rfl rfl (j := (i1 + 1)) (by omega) (by decide) dX1_most_28 ?_
          refine lv_aload_n hx hb dX1_most_29 rfl (lv_at hl 0 rfl) ?_
          refine va_get (D := (dC, dI)) (ci := 1) (v := .ref (ad 6)) (C := RX1) (T := TX1) (N := 12) hx hb hts hin0 hown hK hP 0 rfl rfl 10 (by decide) fl_25 (fun _ h9 => h9) rfl dX1_most_30 ?_
          refine lv_iload_n hx hb dX1_most_33 rfl (lv_at hl 3 rfl) ?_
          refine lv_iconst (v := 1) hx hb dX1_most_34 (by decide) ?_
          refine lv_isub hx hb dX1_most_35 ?_
          rw [nI_pred i1]
          refine ya_iald hx hb hK hP 6 5 rfl rfl (j := i1) (by omega) (by decide) dX1_most_36 ?_
          refine lv_icmp_eq (tgt := 44) hx hb dX1_most_37 (by decide) (fun c_6 => ?_) (fun c_6 => ?_)
          · refine lv_iload_n hx hb dX1_most_44 rfl (lv_at hl 2 rfl) ?_
            refine lv_istore_n (lv' := [(2, .int (nI fr)), (0, .ref (ad 0)), (1, .int (qc_o bo)), (3, .int (nI (i1 + 1)))]) hx hb dX1_most_45 rfl hl (by decide) rfl (fun ls hl => ?_)
            refine lv_iload_n hx hb dX1_most_46 rfl (lv_at hl 3 rfl) ?_
            refine lv_iload_n hx hb dX1_most_47 rfl (lv_at hl 0 rfl) ?_
            have hle9 : fr ≤ i1 + 1 := by omega
            refine lv_isub hx hb dX1_most_48 ?_
            rw [pk_sub hle9]
            refine lv_iconst (v := 1) hx hb dX1_most_49 (by decide) ?_
            refine lv_iadd hx hb dX1_most_50 ?_
            rw [nI_1 ((i1 + 1) - fr)]
            refine lv_istore (lv' := [(4, .int (nI ((i1 + 1) - fr + 1))), (2, .int (nI fr)), (0, .ref (ad 0)), (1, .int (qc_o bo)), (3, .int (nI (i1 + 1)))]) hx hb dX1_most_51 hl (by decide) rfl (fun ls hl => ?_)
            refine lv_iload hx hb dX1_most_53 (lv_at hl 0 rfl) ?_
            refine lv_aload_n hx hb dX1_most_55 rfl (lv_at hl 2 rfl) ?_
            refine va_get (D := (dC, dI)) (ci := 1) (v := .int (nI f9)) (C := RX1) (T := TX1) (N := 12) hx hb hts hin0 hown hK hP 0 rfl rfl 11 (by decide) fl_64 (fun _ h9 => h9) rfl dX1_most_56 ?_
            refine yb_le (tgt := 66) (by omega) (by omega) hx hb dX1_most_59 (by decide) (fun c_7 => ?_) (fun c_7 => ?_)
            · refine lv_iload_n hx hb dX1_most_66 rfl (lv_at hl 3 rfl) ?_
              refine lv_istore_n (lv' := [(1, .int (qc_o bo)), (4, .int (nI ((i1 + 1) - fr + 1))), (2, .int (nI fr)), (0, .ref (ad 0)), (3, .int (nI (i1 + 1)))]) hx hb dX1_most_67 rfl hl (by decide) rfl (fun ls hl => ?_)
              refine lv_aload_n hx hb dX1_most_68 rfl (lv_at hl 3 rfl) ?_
              refine lv_iload hx hb dX1_most_69 (lv_at hl 1 rfl) ?_
              refine lv_aload_n hx hb dX1_most_71 rfl (lv_at hl 3 rfl) ?_
              refine va_get (D := (dC, dI)) (ci := 1) (v := .int (nI f9)) (C := RX1) (T := TX1) (N := 12) hx hb hts hin0 hown hK hP 0 rfl rfl 11 (by decide) fl_64 (fun _ h9 => h9) rfl dX1_most_72 ?_
              refine yb_le (tgt := 83) (by omega) (by omega) hx hb dX1_most_75 (by decide) (fun c_8 => ?_) (fun c_8 => ?_)
              · refine lv_aload_n hx hb dX1_most_83 rfl (lv_at hl 3 rfl) ?_
                refine va_get (D := (dC, dI)) (ci := 1) (v := .int (nI f9)) (C := RX1) (T := TX1) (N := 12) hx hb hts hin0 hown hK hP 0 rfl rfl 11 (by decide) fl_64 (fun _ h9 => h9) rfl dX1_most_84 ?_
                refine va_put (D := (dC, dI)) (ci := 1) (v := .int (nI f9)) (ty := .int) (C := RX1) (T := TX1) (N := 12) hx hb hts hin0 tyX1 tyX1_ok nmX1 hown hK hP hD hS 0 rfl rfl 11 (by decide) fl_64 (fun _ h9 => h9) rfl (by decide +kernel) rfl rfl (Nat.le_of_ble_eq_true rfl) dX1_most_87 (fun H locs hP hD hS => ?_)
                have hP : va_P (dC, dI) vwCl (md ca ad th t k v n nw w kd ln hd so f9) H := hP
                have hD : va_D A (md ca ad th t k v n nw w kd ln hd so f9) := hD
                refine lv_iinc (v := (nI ((i1 + 1) + 1))) (lv' := [(3, .int (nI ((i1 + 1) + 1))), (1, .int (qc_o bo)), (4, .int (nI ((i1 + 1) - fr + 1))), (2, .int (nI fr)), (0, .ref (ad 0))]) hx hb dX1_most_90 hl (k := 4) rfl (yn_inc _) (by decide) rfl (fun ls hl => ?_)
                refine lv_goto (tgt := 11) hx hb dX1_most_93 (by decide) ?_
                exact ih (i1 + 1 + 1) bo fr (by omega) (by omega) f9 _ _ hP hD hS ((mo_st hq (if_neg (fun q => q.2 c_6))).trans (if_neg (by omega))) ls (lv_sub hl [4, 1, 3, 0] rfl)
              · exact absurd c_8 (by omega)
            · refine lv_iload_n hx hb dX1_most_62 rfl (lv_at hl 1 rfl) ?_
              refine lv_goto (tgt := 67) hx hb dX1_most_63 (by decide) ?_
              refine W.eq (g2 := F0 m 67 ls [.int (qc_o (some fr))]) rfl ?_
              refine lv_istore_n (lv' := [(1, .int (qc_o (some fr))), (4, .int (nI ((i1 + 1) - fr + 1))), (2, .int (nI fr)), (0, .ref (ad 0)), (3, .int (nI (i1 + 1)))]) hx hb dX1_most_67 rfl hl (by decide) rfl (fun ls hl => ?_)
              refine lv_aload_n hx hb dX1_most_68 rfl (lv_at hl 3 rfl) ?_
              refine lv_iload hx hb dX1_most_69 (lv_at hl 1 rfl) ?_
              refine lv_aload_n hx hb dX1_most_71 rfl (lv_at hl 3 rfl) ?_
              refine va_get (D := (dC, dI)) (ci := 1) (v := .int (nI f9)) (C := RX1) (T := TX1) (N := 12) hx hb hts hin0 hown hK hP 0 rfl rfl 11 (by decide) fl_64 (fun _ h9 => h9) rfl dX1_most_72 ?_
              refine yb_le (tgt := 83) (by omega) (by omega) hx hb dX1_most_75 (by decide) (fun c_9 => ?_) (fun c_9 => ?_)
              · exact absurd c_9 (by omega)
              · refine lv_iload hx hb dX1_most_78 (lv_at hl 1 rfl) ?_
                refine lv_goto (tgt := 87) hx hb dX1_most_80 (by decide) ?_
                refine va_put (D := (dC, dI)) (ci := 1) (v := .int (nI ((i1 + 1) - fr + 1))) (ty := .int) (C := RX1) (T := TX1) (N := 12) hx hb hts hin0 tyX1 tyX1_ok nmX1 hown hK hP hD hS 0 rfl rfl 11 (by decide) fl_64 (fun _ h9 => h9) rfl (by decide +kernel) rfl rfl (Nat.le_of_ble_eq_true rfl) dX1_most_87 (fun H locs hP hD hS => ?_)
                have hP : va_P (dC, dI) vwCl (md ca ad th t k v n nw w kd ln hd so ((i1 + 1) - fr + 1)) H := hP
                have hD : va_D A (md ca ad th t k v n nw w kd ln hd so ((i1 + 1) - fr + 1)) := hD
                refine lv_iinc (v := (nI ((i1 + 1) + 1))) (lv' := [(3, .int (nI ((i1 + 1) + 1))), (1, .int (qc_o (some fr))), (4, .int (nI ((i1 + 1) - fr + 1))), (2, .int (nI fr)), (0, .ref (ad 0))]) hx hb dX1_most_90 hl (k := 4) rfl (yn_inc _) (by decide) rfl (fun ls hl => ?_)
                refine lv_goto (tgt := 11) hx hb dX1_most_93 (by decide) ?_
                exact ih (i1 + 1 + 1) (some fr) fr (by omega) (by omega) ((i1 + 1) - fr + 1) _ _ hP hD hS ((mo_st hq (if_neg (fun q => q.2 c_6))).trans (if_pos (by omega))) ls (lv_sub hl [4, 1, 3, 0] rfl)
          · refine lv_iload_n hx hb dX1_most_40 rfl (lv_at hl 3 rfl) ?_
            refine lv_goto (tgt := 45) hx hb dX1_most_41 (by decide) ?_
            refine lv_istore_n (lv' := [(2, .int (nI (i1 + 1))), (0, .ref (ad 0)), (1, .int (qc_o bo)), (3, .int (nI (i1 + 1)))]) hx hb dX1_most_45 rfl hl (by decide) rfl (fun ls hl => ?_)
            refine lv_iload_n hx hb dX1_most_46 rfl (lv_at hl 3 rfl) ?_
            refine lv_iload_n hx hb dX1_most_47 rfl (lv_at hl 0 rfl) ?_
            have hle9 : (i1 + 1) ≤ i1 + 1 := by omega
            refine lv_isub hx hb dX1_most_48 ?_
            rw [pk_sub hle9]
            refine lv_iconst (v := 1) hx hb dX1_most_49 (by decide) ?_
            refine lv_iadd hx hb dX1_most_50 ?_
            rw [nI_1 ((i1 + 1) - (i1 + 1))]
            refine lv_istore (lv' := [(4, .int (nI ((i1 + 1) - (i1 + 1) + 1))), (2, .int (nI (i1 + 1))), (0, .ref (ad 0)), (1, .int (qc_o bo)), (3, .int (nI (i1 + 1)))]) hx hb dX1_most_51 hl (by decide) rfl (fun ls hl => ?_)
            refine lv_iload hx hb dX1_most_53 (lv_at hl 0 rfl) ?_
            refine lv_aload_n hx hb dX1_most_55 rfl (lv_at hl 2 rfl) ?_
            refine va_get (D := (dC, dI)) (ci := 1) (v := .int (nI f9)) (C := RX1) (T := TX1) (N := 12) hx hb hts hin0 hown hK hP 0 rfl rfl 11 (by decide) fl_64 (fun _ h9 => h9) rfl dX1_most_56 ?_
            refine yb_le (tgt := 66) (by omega) (by omega) hx hb dX1_most_59 (by decide) (fun c_10 => ?_) (fun c_10 => ?_)
            · refine lv_iload_n hx hb dX1_most_66 rfl (lv_at hl 3 rfl) ?_
              refine lv_istore_n (lv' := [(1, .int (qc_o bo)), (4, .int (nI ((i1 + 1) - (i1 + 1) + 1))), (2, .int (nI (i1 + 1))), (0, .ref (ad 0)), (3, .int (nI (i1 + 1)))]) hx hb dX1_most_67 rfl hl (by decide) rfl (fun ls hl => ?_)
              refine lv_aload_n hx hb dX1_most_68 rfl (lv_at hl 3 rfl) ?_
              refine lv_iload hx hb dX1_most_69 (lv_at hl 1 rfl) ?_
              refine lv_aload_n hx hb dX1_most_71 rfl (lv_at hl 3 rfl) ?_
              refine va_get (D := (dC, dI)) (ci := 1) (v := .int (nI f9)) (C := RX1) (T := TX1) (N := 12) hx hb hts hin0 hown hK hP 0 rfl rfl 11 (by decide) fl_64 (fun _ h9 => h9) rfl dX1_most_72 ?_
              refine yb_le (tgt := 83) (by omega) (by omega) hx hb dX1_most_75 (by decide) (fun c_11 => ?_) (fun c_11 => ?_)
              · refine lv_aload_n hx hb dX1_most_83 rfl (lv_at hl 3 rfl) ?_
                refine va_get (D := (dC, dI)) (ci := 1) (v := .int (nI f9)) (C := RX1) (T := TX1) (N := 12) hx hb hts hin0 hown hK hP 0 rfl rfl 11 (by decide) fl_64 (fun _ h9 => h9) rfl dX1_most_84 ?_
                refine va_put (D := (dC, dI)) (ci := 1) (v := .int (nI f9)) (ty := .int) (C := RX1) (T := TX1) (N := 12) hx hb hts hin0 tyX1 tyX1_ok nmX1 hown hK hP hD hS 0 rfl rfl 11 (by decide) fl_64 (fun _ h9 => h9) rfl (by decide +kernel) rfl rfl (Nat.le_of_ble_eq_true rfl) dX1_most_87 (fun H locs hP hD hS => ?_)
                have hP : va_P (dC, dI) vwCl (md ca ad th t k v n nw w kd ln hd so f9) H := hP
                have hD : va_D A (md ca ad th t k v n nw w kd ln hd so f9) := hD
                refine lv_iinc (v := (nI ((i1 + 1) + 1))) (lv' := [(3, .int (nI ((i1 + 1) + 1))), (1, .int (qc_o bo)), (4, .int (nI ((i1 + 1) - (i1 + 1) + 1))), (2, .int (nI (i1 + 1))), (0, .ref (ad 0))]) hx hb dX1_most_90 hl (k := 4) rfl (yn_inc _) (by decide) rfl (fun ls hl => ?_)
                refine lv_goto (tgt := 11) hx hb dX1_most_93 (by decide) ?_
                exact ih (i1 + 1 + 1) bo (i1 + 1) (by omega) (by omega) f9 _ _ hP hD hS ((mo_st hq (if_pos ⟨Nat.succ_pos i1, c_6⟩)).trans (if_neg (by omega))) ls (lv_sub hl [4, 1, 3, 0] rfl)
              · exact absurd c_11 (by omega)
            · refine lv_iload_n hx hb dX1_most_62 rfl (lv_at hl 1 rfl) ?_
              refine lv_goto (tgt := 67) hx hb dX1_most_63 (by decide) ?_
              refine W.eq (g2 := F0 m 67 ls [.int (qc_o (some (i1 + 1)))]) rfl ?_
              refine lv_istore_n (lv' := [(1, .int (qc_o (some (i1 + 1)))), (4, .int (nI ((i1 + 1) - (i1 + 1) + 1))), (2, .int (nI (i1 + 1))), (0, .ref (ad 0)), (3, .int (nI (i1 + 1)))]) hx hb dX1_most_67 rfl hl (by decide) rfl (fun ls hl => ?_)
              refine lv_aload_n hx hb dX1_most_68 rfl (lv_at hl 3 rfl) ?_
              refine lv_iload hx hb dX1_most_69 (lv_at hl 1 rfl) ?_
              refine lv_aload_n hx hb dX1_most_71 rfl (lv_at hl 3 rfl) ?_
              refine va_get (D := (dC, dI)) (ci := 1) (v := .int (nI f9)) (C := RX1) (T := TX1) (N := 12) hx hb hts hin0 hown hK hP 0 rfl rfl 11 (by decide) fl_64 (fun _ h9 => h9) rfl dX1_most_72 ?_
              refine yb_le (tgt := 83) (by omega) (by omega) hx hb dX1_most_75 (by decide) (fun c_12 => ?_) (fun c_12 => ?_)
              · exact absurd c_12 (by omega)
              · refine lv_iload hx hb dX1_most_78 (lv_at hl 1 rfl) ?_
                refine lv_goto (tgt := 87) hx hb dX1_most_80 (by decide) ?_
                refine va_put (D := (dC, dI)) (ci := 1) (v := .int (nI ((i1 + 1) - (i1 + 1) + 1))) (ty := .int) (C := RX1) (T := TX1) (N := 12) hx hb hts hin0 tyX1 tyX1_ok nmX1 hown hK hP hD hS 0 rfl rfl 11 (by decide) fl_64 (fun _ h9 => h9) rfl (by decide +kernel) rfl rfl (Nat.le_of_ble_eq_true rfl) dX1_most_87 (fun H locs hP hD hS => ?_)
                have hP : va_P (dC, dI) vwCl (md ca ad th t k v n nw w kd ln hd so ((i1 + 1) - (i1 + 1) + 1)) H := hP
                have hD : va_D A (md ca ad th t k v n nw w kd ln hd so ((i1 + 1) - (i1 + 1) + 1)) := hD
                refine lv_iinc (v := (nI ((i1 + 1) + 1))) (lv' := [(3, .int (nI ((i1 + 1) + 1))), (1, .int (qc_o (some (i1 + 1)))), (4, .int (nI ((i1 + 1) - (i1 + 1) + 1))), (2, .int (nI (i1 + 1))), (0, .ref (ad 0))]) hx hb dX1_most_90 hl (k := 4) rfl (yn_inc _) (by decide) rfl (fun ls hl => ?_)
                refine lv_goto (tgt := 11) hx hb dX1_most_93 (by decide) ?_
                exact ih (i1 + 1 + 1) (some (i1 + 1)) (i1 + 1) (by omega) (by omega) ((i1 + 1) - (i1 + 1) + 1) _ _ hP hD hS ((mo_st hq (if_pos ⟨Nat.succ_pos i1, c_6⟩)).trans (if_pos (by omega))) ls (lv_sub hl [4, 1, 3, 0] rfl)
  exact loop (hd + 1) 0 none 0 (Nat.zero_le hd) (by omega) 0 _ _ hP hD hS rfl ls (lv_sub hl [3, 2, 1, 0] rfl)
