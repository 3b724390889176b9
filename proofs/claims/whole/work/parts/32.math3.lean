def hz_h (f : Nat → Int32) (ax : Int32) (o u v : Int) : Bool := if ax = 0 then hz_c f o u v else if ax = 1 then hz_c f u o v else hz_c f u v o
theorem hz_hb {f bi : Nat → Int32} {s : Nat} (h : hs_R f bi s) (hs : s < 6) (ax o u v : Int32) : hy_hb bi s ax o u v = hz_h f ax o.toInt u.toInt v.toInt := by
  unfold hy_hb hz_h
  rw [hz_has h hs, hz_has h hs, hz_has h hs]
theorem hx_it_congr {α : Type} {f g : Nat → α → α} {n : Nat} {a : α} (h : ∀ i b, i < n → f i b = g i b) : hx_it f n a = hx_it g n a := by
  induction n with
  | zero => rfl
  | succ n ih =>
    show f n (hx_it f n a) = g n (hx_it g n a)
    rw [ih (fun i b hi => h i b (by omega)), h n _ (by omega)]
theorem hb_fold (p : Nat → Bool) {n i : Nat} (hn : n ≤ 32) (hi : i < 32) : bt (hx_it (fun c b => b ||| (hx_b (p c) <<< (nI c &&& 31))) n 0) i = (decide (i < n) && p i) := by
  induction n with
  | zero => show bt 0 i = _; rw [b_0]; simp
  | succ n ih =>
    show bt (hx_it (fun c b => b ||| (hx_b (p c) <<< (nI c &&& 31))) n 0 ||| (hx_b (p n) <<< (nI n &&& 31))) i = _
    rw [b_or, ih (by omega), b_shl n (by omega) _ hi]
    rcases Nat.lt_trichotomy i n with h1 | h1 | h1
    · rw [decide_eq_true h1, decide_eq_true (show i < n + 1 by omega), decide_eq_false (show ¬ n ≤ i by omega)]
      simp
    · subst h1
      rw [Nat.sub_self, hb_b0]
      simp
    · rw [decide_eq_false (show ¬ i < n by omega), decide_eq_false (show ¬ i < n + 1 by omega), hb_bs _ (by omega) (by omega)]
      simp
theorem hz_al {f bi : Nat → Int32} {s : Nat} (h : hs_R f bi s) {ax : Int32} (hax : ax = 0 ∨ ax = 1 ∨ ax = 2) (u v : Int32) {c : Nat} (hc : c < 32) : bt (hx_al f ax u v) c = hz_h f ax c u.toInt v.toInt := by
  have key : ∀ X : Nat → Int32, (∀ d, hx_in v 12 = true → (((X d) >>> (v &&& 31)) &&& 1) = hx_b (bt (X d) v.toInt.toNat)) := by
    intro X d hv
    obtain ⟨b, hb, rfl⟩ := hx_in_nat (n := 12) (by decide) hv
    rw [hb_sel _ (by omega), nI_toInt (by omega)]
    rfl
  unfold hx_al
  rcases hax with rfl | rfl | rfl
  · rw [if_neg (by decide)]
    by_cases hv : hx_in v 12 = true
    · rw [if_neg (by rw [hv]; decide)]
      have e : ∀ d (b : Int32), b ||| ((((if (0 : Int32) = 0 then hx_col f (nI d) u else hx_col f u (nI d)) >>> (v &&& 31)) &&& 1) <<< (nI d &&& 31)) = b ||| (hx_b (bt (hx_col f (nI d) u) v.toInt.toNat) <<< (nI d &&& 31)) := by
        intro d b
        rw [if_pos rfl, key (fun d => hx_col f (nI d) u) d hv]
      rw [hx_it_congr (fun i b _ => e i b), hb_fold _ (by decide) hc]
      obtain ⟨b, hb, rfl⟩ := hx_in_nat (n := 12) (by decide) hv
      rw [nI_toInt (by omega), hz_col h _ _ (by simp; omega)]
      unfold hz_h
      rw [if_pos rfl]
      by_cases h12 : c < 12
      · rw [decide_eq_true h12, nI_toInt (by omega)]
        simp
      · rw [decide_eq_false h12, Bool.false_and, hz_c_out (by omega)]
    · rw [if_pos (Bool.eq_false_iff.mpr hv), b_0]
      unfold hz_h
      rw [if_pos rfl, hz_c_out (fun q => hv ((hx_in12 v).mpr ⟨q.2.2.2.2.1, q.2.2.2.2.2⟩))]
  · rw [if_neg (by decide)]
    by_cases hv : hx_in v 12 = true
    · rw [if_neg (by rw [hv]; decide)]
      have e : ∀ d (b : Int32), b ||| ((((if (1 : Int32) = 0 then hx_col f (nI d) u else hx_col f u (nI d)) >>> (v &&& 31)) &&& 1) <<< (nI d &&& 31)) = b ||| (hx_b (bt (hx_col f u (nI d)) v.toInt.toNat) <<< (nI d &&& 31)) := by
        intro d b
        rw [if_neg (by decide), key (fun d => hx_col f u (nI d)) d hv]
      rw [hx_it_congr (fun i b _ => e i b), hb_fold _ (by decide) hc]
      obtain ⟨b, hb, rfl⟩ := hx_in_nat (n := 12) (by decide) hv
      rw [nI_toInt (by omega), hz_col h _ _ (by simp; omega)]
      unfold hz_h
      rw [if_neg (by decide), if_pos rfl]
      by_cases h12 : c < 12
      · rw [decide_eq_true h12, nI_toInt (by omega)]
        simp
      · rw [decide_eq_false h12, Bool.false_and, hz_c_out (by omega)]
    · rw [if_pos (Bool.eq_false_iff.mpr hv), b_0]
      unfold hz_h
      rw [if_neg (by decide), if_pos rfl, hz_c_out (fun q => hv ((hx_in12 v).mpr ⟨q.2.2.2.2.1, q.2.2.2.2.2⟩))]
  · rw [if_pos rfl, hz_col h _ _ hc]
    unfold hz_h
    rw [if_neg (by decide), if_neg (by decide)]
theorem hz_h_out {f : Nat → Int32} {ax : Int32} {o u v : Int} (h : ¬ (0 ≤ o ∧ o < 12 ∧ 0 ≤ u ∧ u < 12 ∧ 0 ≤ v ∧ v < 12)) : hz_h f ax o u v = false := by
  unfold hz_h
  split
  · exact hz_c_out (by omega)
  · split
    · exact hz_c_out (by omega)
    · exact hz_c_out (by omega)
theorem hz_al_lo {f bi : Nat → Int32} {s : Nat} (h : hs_R f bi s) {ax : Int32} (hax : ax = 0 ∨ ax = 1 ∨ ax = 2) (u v : Int32) : hb_lo 12 (hx_al f ax u v) := fun c h1 h2 => by
  rw [hz_al h hax u v h2, hz_h_out (by omega)]
theorem hb_pc_al {f bi : Nat → Int32} {s : Nat} (h : hs_R f bi s) {ax : Int32} (hax : ax = 0 ∨ ax = 1 ∨ ax = 2) (u v : Int32) : hb_pc 12 (hx_al f ax u v) = hn_sum (fun c => hb_n (hz_h f ax c u.toInt v.toInt)) 12 := hn_sum_congr (fun i hi => by rw [hz_al h hax u v (by omega)])
theorem hb_pc_col {f bi : Nat → Int32} {s : Nat} (h : hs_R f bi s) (u v : Int32) : hb_pc 12 (hx_col f u v) = hn_sum (fun c => hb_n (hz_c f u.toInt v.toInt c)) 12 := hn_sum_congr (fun i hi => by rw [hz_col h u v (by omega)])
theorem hq_cnt {f bi : Nat → Int32} {s : Nat} (h : hs_R f bi s) : hx_cnt f = hy_cnt bi s := by
  unfold hx_cnt hy_cnt
  rw [hm_it_sum0 (g := fun i => hb_pc 12 (f i)) (fun i n hi => by rw [hj_bc12 (h i hi).2])]
  rw [hm_it_sum0 (g := fun k => hb_n (bt (bi (144 * s + k / 12)) (k % 12))) (fun k n hk => by rw [hb_sel _ (by omega), hx_b_n])]
  have e := hn_sum_prod (fun k => hb_n (bt (bi (144 * s + k / 12)) (k % 12))) 12 144
  rw [show hn_sum (fun k => hb_n (bt (bi (144 * s + k / 12)) (k % 12))) 1728 = _ from e]
  refine congrArg nI (hn_sum_congr (fun i hi => ?_))
  unfold hb_pc
  refine hn_sum_congr (fun j hj => ?_)
  rw [show (i * 12 + j) / 12 = i by omega, show (i * 12 + j) % 12 = j by omega, (h i hi).1]
theorem hq_layer {f bi : Nat → Int32} {s : Nat} (h : hs_R f bi s) (hs : s < 6) {ax : Int32} (hax : ax = 0 ∨ ax = 1 ∨ ax = 2) (w : Int32) : hx_layer f ax w = hy_at bi s ax w := by
  unfold hx_layer hy_at
  rw [hm_it_sum0 (N := 144) (g := fun k => hb_n (hz_h f ax w.toInt (k / 12 : Nat) (k % 12 : Nat))) (fun k n hk => by rw [hz_hb h hs, hx_s_n, nI_toInt (by omega), nI_toInt (by omega)])]
  rw [show (144 : Nat) = 12 * 12 from rfl, hn_sum_prod]
  have e2 : hn_sum (fun i => hn_sum (fun j => hb_n (hz_h f ax w.toInt ((i * 12 + j) / 12 : Nat) ((i * 12 + j) % 12 : Nat))) 12) 12 = hn_sum (fun i => hn_sum (fun j => hb_n (hz_h f ax w.toInt (i : Nat) (j : Nat))) 12) 12 := hn_sum_congr (fun i hi => hn_sum_congr (fun j hj => by rw [show (i * 12 + j) / 12 = i by omega, show (i * 12 + j) % 12 = j by omega]))
  rw [e2]
  rcases hax with rfl | rfl | rfl
  · rw [hm_it_sum0 (N := 12) (g := fun i => hn_sum (fun c => hb_n (hz_h f 0 w.toInt (i : Nat) (c : Nat))) 12) (fun i n hi => ?_)]
    rw [if_pos rfl, hj_bc12 (hz_col_lo h _ _), hb_pc_col h, nI_toInt (by omega)]
    rfl
  · rw [hm_it_sum0 (N := 12) (g := fun i => hn_sum (fun c => hb_n (hz_h f 1 w.toInt (i : Nat) (c : Nat))) 12) (fun i n hi => ?_)]
    rw [if_neg (by decide), if_pos rfl, hj_bc12 (hz_col_lo h _ _), hb_pc_col h, nI_toInt (by omega)]
    rfl
  · rw [hm_it_sum0 (N := 12) (g := fun i => hn_sum (fun c => hb_n (hz_h f 2 w.toInt (c : Nat) (i : Nat))) 12) (fun i n hi => ?_)]
    · rw [hn_sum_swap]
    · rw [if_neg (by decide), if_neg (by decide), hj_bc12 (hz_al_lo h (Or.inl rfl) _ _), hb_pc_al h (Or.inl rfl), nI_toInt (by omega)]
      rfl
theorem hq_mom {f bi : Nat → Int32} {s : Nat} (h : hs_R f bi s) (hs : s < 6) {ax : Int32} (hax : ax = 0 ∨ ax = 1 ∨ ax = 2) : hc_mom f ax = hy_mom bi s ax := by
  unfold hc_mom hy_mom
  exact hx_it_congr (fun i b hi => by rw [hq_layer h hs hax])
theorem hx_fst_spec (P : Nat → Bool) : ∀ d k : Nat, k ≤ hx_fst P d k ∧ hx_fst P d k ≤ k + d ∧ (∀ i, k ≤ i → i < hx_fst P d k → P i = false) ∧ (hx_fst P d k < k + d → P (hx_fst P d k) = true) := by
  intro d
  induction d with
  | zero =>
    intro k
    refine ⟨Nat.le_refl _, Nat.le_refl _, fun i h1 h2 => ?_, fun h1 => ?_⟩
    · have : hx_fst P 0 k = k := rfl
      omega
    · have : hx_fst P 0 k = k := rfl
      omega
  | succ d ih =>
    intro k
    obtain ⟨h1, h2, h3, h4⟩ := ih (k + 1)
    by_cases hk : P k = true
    · have e : hx_fst P (d + 1) k = k := by show (if P k then k else _) = k; rw [if_pos hk]
      rw [e]
      exact ⟨Nat.le_refl _, by omega, fun i a b => by omega, fun _ => hk⟩
    · have e : hx_fst P (d + 1) k = hx_fst P d (k + 1) := by show (if P k then k else _) = _; rw [if_neg hk]
      rw [e]
      refine ⟨by omega, by omega, fun i a b => ?_, fun q => h4 (by omega)⟩
      by_cases hik : i = k
      · subst hik; exact Bool.eq_false_iff.mpr hk
      · exact h3 i (by omega) b
theorem hx_fst_uniq {P : Nat → Bool} {n j : Nat} (h1 : j ≤ n) (h2 : ∀ i, i < j → P i = false) (h3 : j < n → P j = true) : hx_fst P n 0 = j := by
  obtain ⟨a1, a2, a3, a4⟩ := hx_fst_spec P n 0
  rcases Nat.lt_trichotomy (hx_fst P n 0) j with h | h | h
  · have := a4 (by omega); rw [h2 _ h] at this; cases this
  · exact h
  · have := h3 (by omega); rw [a3 j (by omega) h] at this; cases this
theorem hx_fst_congr {P Q : Nat → Bool} {n : Nat} (h : ∀ i, i < n → P i = Q i) : hx_fst P n 0 = hx_fst Q n 0 := by
  obtain ⟨a1, a2, a3, a4⟩ := hx_fst_spec Q n 0
  rw [Nat.zero_add] at a2 a4
  exact hx_fst_uniq a2 (fun i hi => by rw [h i (by omega)]; exact a3 i (by omega) hi) (fun hj => by rw [h _ hj]; exact a4 hj)
def hx_lo (P : Nat → Bool) (n : Nat) : Nat := if hx_fst P n 0 < n then hx_fst P n 0 else 12
theorem hx_lo_t {P : Nat → Bool} {n : Nat} (hn : n < 12) (hp : P n = true) : hx_lo P (n + 1) = if hx_lo P n = 12 then n else hx_lo P n := by
  unfold hx_lo
  obtain ⟨a1, a2, a3, a4⟩ := hx_fst_spec P n 0
  rw [Nat.zero_add] at a2 a4
  by_cases hl : hx_fst P n 0 < n
  · have e : hx_fst P (n + 1) 0 = hx_fst P n 0 := hx_fst_uniq (by omega) (fun i hi => a3 i (by omega) hi) (fun _ => a4 hl)
    rw [e, if_pos hl, if_pos (show hx_fst P n 0 < n + 1 by omega), if_neg (by omega)]
  · have e : hx_fst P (n + 1) 0 = n := hx_fst_uniq (by omega) (fun i hi => a3 i (by omega) (by omega)) (fun _ => hp)
    rw [e, if_neg hl, if_pos (by omega), if_pos rfl]
theorem hx_lo_f {P : Nat → Bool} {n : Nat} (hn : n < 12) (hp : P n = false) : hx_lo P (n + 1) = hx_lo P n := by
  unfold hx_lo
  obtain ⟨a1, a2, a3, a4⟩ := hx_fst_spec P n 0
  rw [Nat.zero_add] at a2 a4
  by_cases hl : hx_fst P n 0 < n
  · have e : hx_fst P (n + 1) 0 = hx_fst P n 0 := hx_fst_uniq (by omega) (fun i hi => a3 i (by omega) hi) (fun _ => a4 hl)
    rw [e, if_pos hl, if_pos (show hx_fst P n 0 < n + 1 by omega)]
  · have e : hx_fst P (n + 1) 0 = n + 1 := hx_fst_uniq (by omega) (fun i hi => by
      by_cases hin : i = n
      · subst hin; exact hp
      · exact a3 i (by omega) (by omega)) (fun q => by omega)
    rw [e, if_neg hl, if_neg (by omega)]
theorem hx_exfold (P : Nat → Bool) (F : Nat → Int32 × Int32 → Int32 × Int32) (hF : ∀ k Z, k < 12 → F k Z = if P k = true then (if Z.1 = 12 then nI k else Z.1, nI k) else Z) : ∀ n, n ≤ 12 → hx_it F n (12, 12) = (nI (hx_lo P n), nI (hx_lst P n)) := by
  intro n
  induction n with
  | zero => intro _; rfl
  | succ n ih =>
    intro hn
    show F n (hx_it F n (12, 12)) = (_, nI (if P n then n else hx_lst P n))
    have hl : hx_lo P n ≤ 12 := by unfold hx_lo; split <;> omega
    rw [ih (by omega), hF n _ (by omega)]
    cases hp : P n with
    | true =>
      rw [if_pos rfl, if_pos rfl, hx_lo_t (by omega) hp]
      by_cases hz : hx_lo P n = 12
      · rw [if_pos hz, if_pos (show nI (hx_lo P n) = 12 by rw [hz]; rfl)]
      · have hne : ¬ nI (hx_lo P n) = 12 := fun q => hz ((nI_eq (a := hx_lo P n) (b := 12) (by omega) (by decide)).mp q)
        show (if nI (hx_lo P n) = 12 then nI n else nI (hx_lo P n), nI n) = _
        rw [if_neg hz, if_neg hne]
    | false =>
      rw [if_neg (by decide), if_neg (by decide), hx_lo_f (by omega) hp]
theorem hq_ext {f bi : Nat → Int32} {s : Nat} (h : hs_R f bi s) (hs : s < 6) {ax : Int32} (hax : ax = 0 ∨ ax = 1 ∨ ax = 2) : hy_ex bi s ax = (hx_least f ax, hx_great f ax) := by
  unfold hy_ex
  rw [hx_exfold (fun w => decide (0 < hx_layer f ax (nI w))) _ (fun k Z hk => ?_) 12 (Nat.le_refl _)]
  · unfold hx_least hx_great hx_lo
    obtain ⟨a1, a2, -, -⟩ := hx_fst_spec (fun w => decide (0 < hx_layer f ax (nI w))) 12 0
    have e : (if hx_fst (fun w => decide (0 < hx_layer f ax (nI w))) 12 0 < 12 then hx_fst (fun w => decide (0 < hx_layer f ax (nI w))) 12 0 else 12) = hx_fst (fun w => decide (0 < hx_layer f ax (nI w))) 12 0 := by split <;> omega
    rw [e]
  · unfold hy_ex1
    rw [← hq_layer h hs hax]
    by_cases hp : 0 < hx_layer f ax (nI k)
    · rw [if_neg (fun q => Int32.not_lt.mpr q hp), if_pos (decide_eq_true hp)]
    · rw [if_pos (Int32.not_lt.mp hp), if_neg (fun q => hp (of_decide_eq_true q))]
theorem hq_same {f g bi : Nat → Int32} {s t : Nat} (h : hs_R f bi s) (k : hs_R g bi t) : hx_eq f g 144 = hy_same bi s t := by
  have key : ∀ n, n ≤ 144 → hx_eq f g n = hx_it (fun k b => b && decide (bi (144 * s + k) = bi (144 * t + k))) n true := by
    intro n
    induction n with
    | zero => intro _; rfl
    | succ n ih =>
      intro hn
      show _ = (hx_it (fun k b => b && decide (bi (144 * s + k) = bi (144 * t + k))) n true && decide (bi (144 * s + n) = bi (144 * t + n)))
      rw [← ih (by omega), ← (h n (by omega)).1, ← (k n (by omega)).1]
      unfold hx_eq
      rw [List.range_succ, List.all_append]
      simp
  exact key 144 (Nat.le_refl _)
