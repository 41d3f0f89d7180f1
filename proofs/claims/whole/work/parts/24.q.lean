/-! class and model speak of the same window -/
def rg (x : Int32) : Prop := 0 ≤ x ∧ x ≤ 1000000
theorem rg_i {x : Int32} (h : rg x) : 0 ≤ x.toInt ∧ x.toInt ≤ 1000000 := by
  obtain ⟨h1, h2⟩ := h
  rw [Int32.le_iff_toInt_le] at h1 h2
  exact ⟨h1, h2⟩
theorem sub_i {x y : Int32} (hx : rg x) (hy : rg y) : (x - y).toInt = x.toInt - y.toInt := by
  have a := rg_i hx
  have c := rg_i hy
  rw [Int32.toInt_sub]
  exact Int.bmod_eq_of_le (by omega) (by omega)
theorem td_iff {x y d : Int32} (hx : rg x) (hy : rg y) (hd : rg d) : x < y - d ↔ d < y - x := by
  rw [Int32.lt_iff_toInt_lt, Int32.lt_iff_toInt_lt, sub_i hy hd, sub_i hy hx]
  omega
theorem len_part {d : Int32} (h : rg d) : qc_len d = mr_part d := by
  unfold qc_len mr_part
  by_cases c : d = 0
  · rw [if_pos c, if_pos (by rw [c]; exact Int32.le_refl 0)]
  · rw [if_neg c, if_neg (fun q => c (Int32.le_antisymm q h.1))]
/-- what holds of the state between calls -/
def ji (t : Nat → Int32) (k : Nat → Nat) (v : Nat → Int32) (b : Nat → Nat) (n : Nat) (ln : Nat → Int32) (w : Nat) (nw : Int32) : Prop := n ≤ 300 ∧ w ≤ 6 ∧ (∀ j, j < n → k j < 8) ∧ pb_ok b n ∧ pb_so v b n ∧ (∀ j, j < n → rg (t j)) ∧ rg nw ∧ ∀ i, i < w → rg (ln i)
theorem in_iff {t : Nat → Int32} {k : Nat → Nat} {n : Nat} {nw kind d : Int32} {j : Nat} (hj : j < n) (ht : ∀ j, j < n → rg (t j)) (hw : rg nw) (hd : rg d) : qc_in t k n nw kind d j ↔ mi_in t k n nw kind d j := by
  unfold qc_in mi_in
  rw [len_part hd]
  by_cases c4 : kind = 4
  · subst c4
    rw [if_neg (by decide), if_neg (by decide), if_neg (by decide), if_neg (by decide), if_pos rfl, if_neg (by decide), if_neg (by decide), if_neg (by decide), if_neg (by decide), if_pos rfl]
    unfold qc_td mr_run qc_nx
    constructor
    · intro h
      refine ⟨?_, fun q h1 h2 => ?_⟩
      · have := h (n - 1) (by omega) (by omega)
        rw [if_neg (by omega)] at this
        exact this
      · have := h q h1 (by omega)
        rw [if_pos h2] at this
        exact fun g => this ((td_iff (ht q (by omega)) (ht (q + 1) h2) hd).mpr g)
    · intro h q h1 h2
      by_cases e : q + 1 < n
      · rw [if_pos e]
        exact fun g => h.2 q h1 e ((td_iff (ht q h2) (ht (q + 1) e) hd).mp g)
      · rw [if_neg e, show q = n - 1 by omega]
        exact h.1
  · rw [if_neg c4, if_neg c4]
theorem mk_eq {x y : Int32} {P Q : Prop} (h1 : qc_mk x P) (h2 : qc_mk y Q) (e : P ↔ Q) : x = y := by
  rcases h1 with ⟨rfl, p⟩ | ⟨rfl, p⟩
  · exact (mk_yes h2 (e.mp p)).symm
  · exact (mk_no h2 (fun q => p (e.mpr q))).symm
theorem jx_perm {v f so : Nat → Int32} {P Q : Nat → Prop} {n hd : Nat} (hf : ∀ j, j < n → qc_mk (f j) (P j)) (e : ∀ j, j < n → (P j ↔ Q j)) (h : mh_ok v Q n hd so) : hd ≤ n ∧ ms_so so hd ∧ (ml so hd).Perm (wl v f n) := by
  obtain ⟨h1, h2, f', h3, h4⟩ := h
  refine ⟨h1, h2, ?_⟩
  rw [wl_congr n (fun j hj => mk_eq (hf j hj) (h3 j hj) (e j hj))]
  exact h4
theorem ml_len (so : Nat → Int32) (hd : Nat) : (ml so hd).length = hd := by
  unfold ml; rw [List.length_map, List.length_range]
/-- the sum -/
def ls (l : List Int32) : Int32 := l.foldr (fun x y => x + y) 0
theorem ls_perm {l l' : List Int32} (h : l.Perm l') : ls l = ls l' := by
  induction h with
  | nil => rfl
  | @cons a l1 l2 h ih => show a + ls l1 = a + ls l2; rw [ih]
  | swap a c l => show c + (a + ls l) = a + (c + ls l); rw [← Int32.add_assoc, ← Int32.add_assoc, Int32.add_comm c a]
  | trans _ _ ih1 ih2 => exact ih1.trans ih2
theorem ls_snoc (l : List Int32) (a : Int32) : ls (l ++ [a]) = ls l + a := by
  rw [ls_perm (List.perm_append_singleton a l)]
  show a + ls l = ls l + a
  rw [Int32.add_comm]
theorem sum_ls (v f : Nat → Int32) : ∀ n, qc_sum v f n = ls (wl v f n)
  | 0 => rfl
  | n + 1 => by
    have ih := sum_ls v f n
    rw [qc_sum, wl_s]
    by_cases h : f n = 0
    · rw [if_pos h, if_pos h]; exact ih
    · rw [if_neg h, if_neg h, ls_snoc, ih]
theorem msum_ls (so : Nat → Int32) : ∀ k, ms_f so k = ls (ml so k)
  | 0 => rfl
  | k + 1 => by rw [ms_f, ml_s, ls_snoc, msum_ls so k]
theorem ml_mem {so : Nat → Int32} {k : Nat} {x : Int32} : x ∈ ml so k ↔ ∃ j, j < k ∧ so j = x := by
  unfold ml
  simp only [List.mem_map, List.mem_range]
theorem so_last {so : Nat → Int32} {hd k : Nat} (hs : ms_so so hd) (hk : k < hd) : so k ∈ ml so k ↔ 0 < k ∧ so k = so (k - 1) := by
  constructor
  · intro h
    obtain ⟨j, hj, e⟩ := ml_mem.mp h
    refine ⟨by omega, Int32.le_antisymm ?_ (hs (k - 1) k (by omega) hk)⟩
    rw [← e]
    exact hs j (k - 1) (by omega) (by omega)
  · rintro ⟨h1, h2⟩
    exact ml_mem.mpr ⟨k - 1, by omega, h2.symm⟩
theorem mun_nd {so : Nat → Int32} {hd : Nat} (hs : ms_so so hd) : ∀ k, k ≤ hd → mu_f so k = nd (ml so k)
  | 0, _ => rfl
  | k + 1, h => by
    rw [mu_f, ml_s, nd_snoc, mun_nd hs k (by omega)]
    by_cases c : so k ∈ ml so k
    · have q := (so_last hs h).mp c
      rw [if_pos c, if_neg (fun g => g.elim (fun g => absurd g (by omega)) (fun g => g q.2))]
    · rw [if_neg c, if_pos]
      rcases Nat.eq_zero_or_pos k with z | z
      · exact Or.inl z
      · exact Or.inr (fun g => c ((so_last hs h).mpr ⟨z, g⟩))
theorem mfq_uniq {l l' : List Int32} {x y : Int32} {c d : Nat} (hp : l.Perm l') (h1 : mfq l x c) (h2 : mfq l' y d) : x = y ∧ c = d := by
  have e : ∀ z, l.count z = l'.count z := fun z => hp.count_eq z
  have cd : c = d := by
    have := h2.2.1 x
    rw [← e, h1.1] at this
    have := h1.2.1 y
    rw [e, h2.1] at this
    omega
  refine ⟨?_, cd⟩
  subst cd
  refine Int32.le_antisymm (Int32.not_lt.mp fun g => ?_) (Int32.not_lt.mp fun g => ?_)
  · have := h1.2.2 y g
    rw [e, h2.1] at this
    omega
  · have := h2.2.2 x g
    rw [← e, h1.1] at this
    omega
theorem mo_spec {so : Nat → Int32} {hd : Nat} (hs : ms_so so hd) : ∀ k, k ≤ hd → (∀ j, (mo_f so k).1 = some j → mfq (ml so k) (so j) (mo_f so k).2.1 ∧ 0 < (mo_f so k).2.1) ∧ (∀ y, (ml so k).count y ≤ (mo_f so k).2.1) ∧ (0 < k → (mo_f so k).2.2 < k ∧ so (mo_f so k).2.2 = so (k - 1) ∧ (ml so k).count (so (k - 1)) = k - (mo_f so k).2.2) := by
  intro k
  induction k with
  | zero => intro _; exact ⟨fun j h => (by cases h), fun y => Nat.zero_le _, fun h => absurd h (Nat.lt_irrefl 0)⟩
  | succ k ih =>
    intro hk
    obtain ⟨h1, h2, h3⟩ := ih (by omega)
    obtain ⟨bo, f9, fr, hq⟩ : ∃ bo f9 fr, mo_f so k = (bo, f9, fr) := ⟨_, _, _, rfl⟩
    rw [hq] at h1 h2 h3
    dsimp only at h1 h2 h3
    rw [mo_st hq rfl, ml_s]
    obtain ⟨F, hF⟩ : ∃ F, F = if 0 < k ∧ ¬ so k = so (k - 1) then k else fr := ⟨_, rfl⟩
    rw [← hF]
    have hle : ∀ y ∈ ml so k, y ≤ so k := fun y hy => by
      obtain ⟨j, hj, e⟩ := ml_mem.mp hy
      rw [← e]; exact hs j k (by omega) (by omega)
    have key : F < k + 1 ∧ so F = so k ∧ (ml so k ++ [so k]).count (so k) = k - F + 1 := by
      rw [count_snoc, if_pos rfl]
      by_cases c : 0 < k ∧ ¬ so k = so (k - 1)
      · rw [hF, if_pos c]
        refine ⟨by omega, rfl, ?_⟩
        rw [List.count_eq_zero_of_not_mem (fun g => c.2 ((so_last hs (by omega)).mp g).2)]
        omega
      · rw [hF, if_neg c]
        rcases Nat.eq_zero_or_pos k with z | z
        · subst z
          have e : fr = 0 := (congrArg (fun x => x.2.2) hq).symm
          subst e
          exact ⟨by omega, rfl, rfl⟩
        · have e : so k = so (k - 1) := Decidable.byContradiction (fun g => c ⟨z, g⟩)
          obtain ⟨g1, g2, g3⟩ := h3 z
          refine ⟨by omega, by rw [g2, e], ?_⟩
          rw [e, g3]
    obtain ⟨k1, k2, k3⟩ := key
    have last : 0 < k + 1 → F < k + 1 ∧ so F = so (k + 1 - 1) ∧ (ml so k ++ [so k]).count (so (k + 1 - 1)) = k + 1 - F := fun _ => ⟨k1, k2, by
      rw [show k + 1 - 1 = k from rfl, k3]; omega⟩
    by_cases c : f9 < k - F + 1
    · rw [if_pos c]
      have all : ∀ y, (ml so k ++ [so k]).count y ≤ k - F + 1 := fun y => by
        by_cases e : so k = y
        · rw [← e, k3]; exact Nat.le_refl _
        · rw [count_snoc, if_neg e]; exact Nat.le_trans (h2 y) (Nat.le_of_lt c)
      refine ⟨fun j h => ?_, all, last⟩
      cases h
      refine ⟨⟨by rw [k2]; exact k3, all, fun y hy => ?_⟩, Nat.succ_pos _⟩
      rw [count_snoc, if_neg (fun e => by rw [k2, e] at hy; exact Int32.lt_irrefl hy)]
      exact Nat.lt_of_le_of_lt (h2 y) c
    · rw [if_neg c]
      have all : ∀ y, (ml so k ++ [so k]).count y ≤ f9 := fun y => by
        by_cases e : so k = y
        · rw [← e, k3]; exact Nat.not_lt.mp c
        · rw [count_snoc, if_neg e]; exact h2 y
      refine ⟨fun j h => ?_, all, last⟩
      obtain ⟨⟨g1, g2, g3⟩, g4⟩ := h1 j h
      have hjm : so j ∈ ml so k := List.count_pos_iff.mp (by rw [g1]; exact g4)
      have hne : ¬ so k = so j := fun e => by
        have q := all (so j)
        rw [count_snoc, if_pos e, g1] at q
        omega
      refine ⟨⟨by rw [count_snoc, if_neg hne]; exact g1, all, fun y hy => ?_⟩, g4⟩
      rw [count_snoc]
      by_cases e : so k = y
      · exact absurd (Int32.lt_of_lt_of_le (e ▸ hy) (hle _ hjm)) Int32.lt_irrefl
      · rw [if_neg e]; exact g3 y hy
theorem bel_countP (v f : Nat → Int32) (x : Int32) : ∀ n, qc_bel v f x n = (wl v f n).countP (fun y => decide (y < x))
  | 0 => rfl
  | n + 1 => by
    have ih := bel_countP v f x n
    rw [qc_bel, wl_s]
    by_cases h : f n = 0
    · rw [if_pos h, if_pos h]; exact ih
    · rw [if_neg h, if_neg h, List.countP_append, ih]
      by_cases e : x ≤ v n
      · rw [if_pos e, List.countP_singleton, if_neg (by simpa using Int32.not_lt.mpr e)]; rfl
      · rw [if_neg e, List.countP_singleton, if_pos (by simpa using Int32.not_le.mp e)]
theorem mb_countP (so : Nat → Int32) (x : Int32) : ∀ k, mb_f so x k = (ml so k).countP (fun y => decide (y < x))
  | 0 => rfl
  | k + 1 => by
    have ih := mb_countP so x k
    rw [mb_f, ml_s, List.countP_append, ih]
    by_cases e : x ≤ so k
    · rw [if_pos e, List.countP_singleton, if_neg (by simpa using Int32.not_lt.mpr e)]; rfl
    · rw [if_neg e, List.countP_singleton, if_pos (by simpa using Int32.not_le.mp e)]
theorem ml_isk {so : Nat → Int32} {hd j : Nat} (hs : ms_so so hd) (hj : j < hd) : isk (ml so hd) (so j) j := by
  obtain ⟨d, rfl⟩ : ∃ d, hd = j + (d + 1) := ⟨hd - j - 1, by omega⟩
  have e : ml so (j + (d + 1)) = ml so j ++ so j :: (List.range d).map (fun y => so (j + (y + 1))) := by
    unfold ml
    rw [List.range_add, List.map_append, List.map_map, List.range_succ_eq_map, List.map_cons, List.map_map]
    rfl
  rw [e]
  unfold isk
  refine ⟨?_, ?_⟩
  · have z : ((List.range d).map (fun y => so (j + (y + 1)))).countP (fun y => decide (y < so j)) = 0 := List.countP_eq_zero.mpr (fun x hx => by
      obtain ⟨y, hy, rfl⟩ := List.mem_map.mp hx
      have hy := List.mem_range.mp hy
      simpa using Int32.not_lt.mpr (hs j (j + (y + 1)) (by omega) (by omega)))
    have z2 := List.countP_le_length (p := fun y => decide (y < so j)) (l := ml so j)
    rw [ml_len] at z2
    rw [List.countP_append, List.countP_cons, z, if_neg (by simp [Int32.lt_irrefl])]
    omega
  · have z : (ml so j).countP (fun y => decide (y ≤ so j)) = (ml so j).length := List.countP_eq_length.mpr (fun x hx => by
      obtain ⟨y, hy, e⟩ := ml_mem.mp hx
      exact decide_eq_true (by rw [← e]; exact hs y j (by omega) (by omega)))
    rw [ml_len] at z
    rw [List.countP_append, List.countP_cons, z, if_pos (decide_eq_true (Int32.le_refl _))]
    omega
/-! the answers are alike -/
theorem eq_met {v f so : Nat → Int32} {b : Nat → Nat} {n hd : Nat} (hb : pb_ok b n) (hs : pb_so v b n) (h : hd ≤ n ∧ ms_so so hd ∧ (ml so hd).Perm (wl v f n)) (p2 : Int32) : qx_met v b f n p2 = mm_f so hd p2 := by
  obtain ⟨-, h2, h3⟩ := h
  have hw := (wb_perm (v := v) (f := f) hb)
  unfold qx_met mm_f
  by_cases c0 : p2 = 0
  · rw [if_pos c0, if_pos c0, cnt_len v, ← h3.length_eq, ml_len]
  · rw [if_neg c0, if_neg c0]
    by_cases c1 : p2 = 1
    · rw [if_pos c1, if_pos c1, sum_ls, msum_ls, ls_perm h3]
    · rw [if_neg c1, if_neg c1]
      by_cases c2 : p2 = 2
      · rw [if_pos c2, if_pos c2, (unl_spec (f := f) hs n (Nat.le_refl n)).1, mun_nd h2 hd (Nat.le_refl hd), nd_perm hw, nd_perm h3]
      · rw [if_neg c2, if_neg c2]
        obtain ⟨f1, f2, -, -⟩ := fmf_spec (f := f) hs n (Nat.le_refl n)
        obtain ⟨m1, m2, -⟩ := mo_spec h2 hd (Nat.le_refl hd)
        unfold qc_cmf
        cases hm : (qc_fmf v b f n).1 with
        | none =>
          have e := (f1 hm).1
          have z : hd = 0 := by
            have l1 := (h3.trans hw.symm).length_eq
            rw [e, ml_len] at l1
            exact l1
          subst z
          rfl
        | some j =>
          obtain ⟨g1, g2⟩ := f2 j hm
          have pos : 0 < hd := by
            have l1 := (h3.trans hw.symm).length_eq
            rw [ml_len] at l1
            have l2 := List.count_le_length (a := v j) (l := wb v b f n)
            rw [g1.1] at l2
            omega
          obtain ⟨i, hi⟩ := (mo_some so hd pos).2
          obtain ⟨k1, k2⟩ := m1 i hi
          have u := (mfq_uniq (h3.trans hw.symm) k1 g1).2
          show nI (qc_eqc v f (v j) n) = nI (mo_f so hd).2.1
          rw [eqc_count, ← hw.count_eq, g1.1, u]
theorem eq_frq {v f so : Nat → Int32} {b : Nat → Nat} {n hd j i : Nat} (hb : pb_ok b n) (hs : pb_so v b n) (h : hd ≤ n ∧ ms_so so hd ∧ (ml so hd).Perm (wl v f n)) (hj : (qc_fmf v b f n).1 = some j) (hi : (mo_f so hd).1 = some i) : v j = so i := by
  obtain ⟨-, h2, h3⟩ := h
  have hw := (wb_perm (v := v) (f := f) hb)
  obtain ⟨-, f2, -, -⟩ := fmf_spec (f := f) hs n (Nat.le_refl n)
  obtain ⟨m1, m2, -⟩ := mo_spec h2 hd (Nat.le_refl hd)
  exact (mfq_uniq (h3.trans hw.symm) (m1 i hi).1 (f2 j hj).1).1.symm
theorem eq_frz {v f so : Nat → Int32} {b : Nat → Nat} {n hd : Nat} (hb : pb_ok b n) (hs : pb_so v b n) (h : hd ≤ n ∧ ms_so so hd ∧ (ml so hd).Perm (wl v f n)) : (qc_fmf v b f n).1 = none ↔ hd = 0 := by
  obtain ⟨-, h2, h3⟩ := h
  have hw := (wb_perm (v := v) (f := f) hb)
  obtain ⟨f1, f2, -, -⟩ := fmf_spec (f := f) hs n (Nat.le_refl n)
  have l1 := (h3.trans hw.symm).length_eq
  rw [ml_len] at l1
  constructor
  · intro e
    rw [(f1 e).1] at l1
    exact l1
  · intro z
    cases hm : (qc_fmf v b f n).1 with
    | none => rfl
    | some j =>
      obtain ⟨g1, g2⟩ := f2 j hm
      have l2 := List.count_le_length (a := v j) (l := wb v b f n)
      rw [g1.1] at l2
      omega
theorem eq_bel {v f so : Nat → Int32} {n hd : Nat} (h : hd ≤ n ∧ ms_so so hd ∧ (ml so hd).Perm (wl v f n)) (x : Int32) : qc_bel v f x n = mb_f so x hd := by
  rw [bel_countP, mb_countP, h.2.2.countP_eq]
theorem nI_inj {a c : Nat} (ha : a < 1000) (hc : c < 1000) (h : nI a = nI c) : a = c := by
  have e := congrArg Int32.toInt h
  rw [nI_toInt (by omega), nI_toInt (by omega)] at e
  omega
theorem eq_kth {v f so : Nat → Int32} {b : Nat → Nat} {n hd q j : Nat} (hn : n ≤ 300) (hb : pb_ok b n) (hs : pb_so v b n) (h : hd ≤ n ∧ ms_so so hd ∧ (ml so hd).Perm (wl v f n)) (hq : q < n) (hf : f (b q) ≠ 0) (hj : j < hd) (e : nI (qc_cnb b f q) = nI j) : v (b q) = so j := by
  obtain ⟨h1, h2, h3⟩ := h
  have hw := (wb_perm (v := v) (f := f) hb)
  obtain ⟨k1, k2⟩ := kth_in hs hq hf
  have l1 := (h3.trans hw.symm).length_eq
  rw [ml_len] at l1
  have e2 : qc_cnb b f q = j := nI_inj (by omega) (by omega) e
  rw [e2] at k1
  exact isk_uniq k1 (isk_perm (h3.trans hw.symm) (ml_isk h2 hj))
theorem eq_ktz {v f so : Nat → Int32} {b : Nat → Nat} {n hd : Nat} {p2 : Int32} (hb : pb_ok b n) (hs : pb_so v b n) (h : hd ≤ n ∧ ms_so so hd ∧ (ml so hd).Perm (wl v f n)) : (∃ q, q < n ∧ f (b q) ≠ 0 ∧ nI (qc_cnb b f q) = p2) ↔ qx_win hd p2 := by
  obtain ⟨h1, h2, h3⟩ := h
  have hw := (wb_perm (v := v) (f := f) hb)
  have l1 := (h3.trans hw.symm).length_eq
  rw [ml_len] at l1
  constructor
  · rintro ⟨q, a, c, d⟩
    obtain ⟨k1, k2⟩ := kth_in (f := f) hs a c
    exact ⟨qc_cnb b f q, by omega, d.symm⟩
  · rintro ⟨j, hj, rfl⟩
    obtain ⟨q, a, c, d⟩ := kth_all (v := v) (b := b) (f := f) n j (by omega)
    exact ⟨q, a, c, by rw [d]⟩
/-! the state's facts are kept -/
theorem ji_clear (t : Nat → Int32) (k : Nat → Nat) (v : Nat → Int32) (b : Nat → Nat) (ln : Nat → Int32) : ji t k v b 0 ln 0 0 :=
  ⟨Nat.zero_le _, Nat.zero_le _, fun j h => absurd h (Nat.not_lt_zero j), pb_0 b, pb_so0 v b, fun j h => absurd h (Nat.not_lt_zero j), ⟨by decide, by decide⟩, fun j h => absurd h (Nat.not_lt_zero j)⟩
theorem ji_window {t : Nat → Int32} {k : Nat → Nat} {v : Nat → Int32} {b : Nat → Nat} {n : Nat} {ln : Nat → Int32} {w : Nat} {nw p2 : Int32} (h : ji t k v b n ln w nw) (hw : w < 6) (hp : qx_in p2 0 1000000) : ji t k v b n (upd ln w p2) (w + 1) nw := by
  obtain ⟨h1, h2, h3, h4, h5, h6, h7, h8⟩ := h
  refine ⟨h1, hw, h3, h4, h5, h6, h7, fun i hi => ?_⟩
  by_cases e : i = w
  · subst e; rw [pk_us]; exact hp
  · rw [pk_un e]; exact h8 i (by omega)
theorem ji_tick {t : Nat → Int32} {k : Nat → Nat} {v : Nat → Int32} {b : Nat → Nat} {n : Nat} {ln : Nat → Int32} {w : Nat} {nw p1 : Int32} (h : ji t k v b n ln w nw) (hp : qx_in p1 nw 1000000) : ji t k v b n ln w p1 := by
  obtain ⟨h1, h2, h3, h4, h5, h6, h7, h8⟩ := h
  exact ⟨h1, h2, h3, h4, h5, h6, ⟨Int32.le_trans h7.1 hp.1, hp.2⟩, h8⟩
theorem ji_tuple {t : Nat → Int32} {k : Nat → Nat} {v : Nat → Int32} {b u : Nat → Nat} {n kk : Nat} {ln : Nat → Int32} {w : Nat} {nw p1 p3 : Int32} (h : ji t k v b n ln w nw) (hn : n < 300) (hp : qx_in p1 nw 1000000) (hk : kk < 8) (hu : qc_put (upd v n p3) b n u) : ji (upd t n p1) (vu k n kk) (upd v n p3) u (n + 1) ln w p1 := by
  obtain ⟨h1, h2, h3, h4, h5, h6, h7, h8⟩ := h
  have hb := pb_lt h4
  have r : rg p1 := ⟨Int32.le_trans h7.1 hp.1, hp.2⟩
  have hs : pb_so (upd v n p3) b n := fun i j hij hj => by
    have a := hb i (by omega)
    have c := hb j hj
    rw [pk_un (by omega), pk_un (by omega)]
    exact h5 i j hij hj
  have hu := put_ins h4 hs hu
  refine ⟨hn, h2, fun j hj => ?_, pb_ins h4 hu, pb_so_ins hb (fun _ _ => rfl) hs hu, fun j hj => ?_, r, h8⟩
  · unfold vu
    by_cases e : j = n
    · rw [if_pos e]; exact hk
    · rw [if_neg e]; exact h3 j (by omega)
  · by_cases e : j = n
    · subst e; rw [pk_us]; exact r
    · rw [pk_un e]; exact h6 j (by omega)
