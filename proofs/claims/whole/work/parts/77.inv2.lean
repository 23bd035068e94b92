/-! the invariant is kept: the methods -/
theorem looked_e {r : RS} (hK : VK r) {t : Nat} {i : Int32} (h : f_looked r t i = 0) : t ≠ 0 ∧ ix i < rMn r t := by
  obtain ⟨h0, j, hj, rfl⟩ := looked_0 h (hK t).2
  have := (hK t).2
  rw [ix_nI (show j < 2 ^ 31 by omega)]
  exact ⟨h0, hj⟩
theorem in_ix {v lo hi : Int32} (h : f_in v lo hi = true) (a b : Nat) (ha : lo = nI a) (hb : hi = nI b) (ha2 : a < 2 ^ 31) (hb2 : b < 2 ^ 31) : a ≤ ix v ∧ ix v ≤ b := by
  obtain ⟨n, h1, h2, rfl⟩ := f_in_nat h a b ha hb ha2 hb2
  rw [ix_nI (by omega)]
  exact ⟨h1, h2⟩
theorem no_facts {r : RS} (hK : VK r) {t k : Nat} {i : Int32} (h : f_no r t k i = 0) : t ≠ 0 ∧ ix i < rMn r t ∧ (rK r t = k ∨ (k = 8 ∧ rK r t = 9)) := by
  obtain ⟨h1, h2⟩ := no_0 h
  obtain ⟨h3, h4⟩ := looked_e hK h2
  exact ⟨h3, h4, isOf_k h1 h3⟩
theorem ok_rw {r : RS} (h : IP r) (hT : rT r < 2 ^ 31) (hM : rM r < 2 ^ 31) {t j : Nat} (t0 : t ≠ 0) (ht : t ≤ rT r) (hj : j < rMn r t) (h10 : 10 ≤ rK r t) : iv (f_at r t j) ≤ rT r ∧ (iv (f_at r t j) ≠ 0 → rK r (iv (f_at r t j)) = rkN (rK r t) ∨ (rkN (rK r t) = 8 ∧ rK r (iv (f_at r t j)) = 9)) := by
  have z := h.2.2.1 t t0 ht j hj
  have z2 := ok_iv z (by omega) hT hM
  refine ⟨z2.2.2 h10, fun hne => ?_⟩
  rcases z with z | ⟨w, e, z⟩
  · omega
  · have hw : w < 2 ^ 31 := by omega
    have e2 : iv (f_at r t j) = w := by rw [e]; exact iv_lN hw
    rw [e2] at hne ⊢
    rcases z with z | ⟨z, -⟩ | ⟨z, -, -⟩ | ⟨-, -, z⟩
    · exact absurd z hne
    · omega
    · omega
    · exact isOf_k z hne
theorem mk_1 {mk : Int32} (h : mk < 2) (h0 : ¬ mk = 0) (hg : ¬ mk < 0) : mk = 1 := by
  obtain ⟨n, hn, rfl⟩ := nI_of hg
  have h2 : n < 2 := nIlt (show nI n < nI 2 from h) hn (by decide)
  have : n ≠ 0 := fun q => h0 (by rw [q]; rfl)
  have : n = 1 := by omega
  rw [this]; rfl
section LVS
variable {k : Nat} {r : RS}
theorem s_share (h : LV k r) (c f : Int32) : IP (f_share r c f).1 ∧ SM r (f_share r c f).1 := by
  unfold f_share
  split
  · exact ⟨h.2.2.2.2, SM.rf r⟩
  · exact ⟨h.2.2.2.2.hd _ (h.2.2.2.2.1.2.2 _), SM.hd r _⟩
theorem s_drop (h : LV k r) (c : Int32) : IP (f_drop r c).1 ∧ SM r (f_drop r c).1 := by
  unfold f_drop
  split
  · exact ⟨h.2.2.2.2, SM.rf r⟩
  · exact ⟨h.2.2.2.2.hd _ (Nat.zero_le _), SM.hd r _⟩
theorem s_itemOf (h : LV k r) (t : Nat) (i : Int32) (b : Nat) : IP (f_itemOf r t i b).1 ∧ SM r (f_itemOf r t i b).1 := by
  have hi := h.2.2.2.2
  unfold f_itemOf
  generalize (if b = 0 then f_looked r t i else b) = z
  split
  · exact ⟨hi.fa _, SM.fa r _⟩
  · split
    · split
      · exact ⟨hi.fa _, SM.fa r _⟩
      · exact ⟨hi.fa _, SM.fa r _⟩
    · exact ⟨hi.fa _, SM.fa r _⟩
theorem s_read (h : LV k r) (c kd i : Int32) : IP (f_read r c kd i).1 ∧ SM r (f_read r c kd i).1 := by
  unfold f_read
  split
  · exact ⟨h.2.2.2.2.fa _, SM.fa r _⟩
  · exact s_itemOf h _ _ _
theorem s_cell (h : LV k r) (c kd i j : Int32) : IP (f_cell r c kd i j).1 ∧ SM r (f_cell r c kd i j).1 := by
  unfold f_cell
  split
  · exact ⟨h.2.2.2.2.fa _, SM.fa r _⟩
  · exact s_itemOf h _ _ _
theorem s_deepest (h : LV k r) (c i j l : Int32) : IP (f_deepest r c i j l).1 ∧ SM r (f_deepest r c i j l).1 := by
  unfold f_deepest
  split
  · exact ⟨h.2.2.2.2.fa _, SM.fa r _⟩
  · exact s_itemOf h _ _ _
theorem s_write (h : LV k r) (c kd i : Int32) (b : Int64) : IP (f_write r c kd i b).1 ∧ SM r (f_write r c kd i b).1 := by
  have hi := h.2.2.2.2
  have hb := h.b
  unfold f_write
  split
  · exact ⟨hi, SM.rf r⟩
  · rename_i hg
    split
    · exact ⟨hi, SM.rf r⟩
    · rename_i hn
      have hn : f_no r (rHd r (ix c)) (ix kd) i = 0 := Decidable.of_not_not hn
      obtain ⟨t0, hj, hk⟩ := no_facts hi.2.1 hn
      simp only [Bool.or_eq_true, Bool.not_eq_true', not_or, Bool.not_eq_false] at hg
      have h7 := (in_ix hg.2 0 7 rfl rfl (by decide) (by decide)).2
      exact ⟨hi.put (by omega) (by omega) t0 (hi.1.2.2 _) hj (Or.inl (by omega)), SM.put _ _ _ _⟩
theorem s_set (h : LV k r) (c kd i j : Int32) (b : Int64) : IP (f_set r c kd i j b).1 ∧ SM r (f_set r c kd i j b).1 := by
  have hi := h.2.2.2.2
  have hb := h.b
  unfold f_set
  split
  · exact ⟨hi, SM.rf r⟩
  · rename_i hg
    split
    · exact ⟨hi, SM.rf r⟩
    · rename_i hn
      have hn : f_rowno r (rHd r (ix c)) i j (f_no r (rHd r (ix c)) (ix kd) i) = 0 := Decidable.of_not_not hn
      simp only [Bool.or_eq_true, Bool.not_eq_true', not_or, Bool.not_eq_false] at hg
      have h11 := in_ix hg.2 10 11 rfl rfl (by decide) (by decide)
      unfold f_rowno at hn
      by_cases hz : f_no r (rHd r (ix c)) (ix kd) i = 0
      · rw [if_pos hz] at hn
        obtain ⟨t0, hj, hk⟩ := no_facts hi.2.1 hz
        obtain ⟨w0, hwj⟩ := looked_e hi.2.1 hn
        have hK : rK r (rHd r (ix c)) = ix kd := by omega
        obtain ⟨q1, q2⟩ := ok_rw hi (by omega) (by omega) t0 (hi.1.2.2 _) hj (by omega)
        have q3 := q2 w0
        rw [hK] at q3
        have q4 := rkN_11 h11.1 h11.2
        exact ⟨hi.put (by omega) (by omega) w0 q1 hwj (Or.inl (by omega)), SM.put _ _ _ _⟩
      · rw [if_neg hz] at hn; exact absurd hn hz
theorem s_row (h : LV k r) (c kd i f : Int32) : IP (f_row r c kd i f).1 ∧ SM r (f_row r c kd i f).1 := by
  have hi := h.2.2.2.2
  have hb := h.b
  unfold f_row
  split
  · exact ⟨hi, SM.rf r⟩
  · rename_i hg
    split
    · exact ⟨hi, SM.rf r⟩
    · rename_i hn
      have hn : f_rno r (rHd r (ix c)) (rHd r (ix f)) (ix kd) i = 0 := Decidable.of_not_not hn
      simp only [Bool.or_eq_true, Bool.not_eq_true', not_or, Bool.not_eq_false] at hg
      have h11 := in_ix hg.1.2 10 13 rfl rfl (by decide) (by decide)
      unfold f_rno at hn
      by_cases hz : (f_isOf r (rHd r (ix c)) (ix kd) && f_isOf r (rHd r (ix f)) (rkN (ix kd))) = true
      · rw [if_pos hz] at hn
        simp only [Bool.and_eq_true] at hz
        obtain ⟨t0, hj⟩ := looked_e hi.2.1 hn
        have hK : rK r (rHd r (ix c)) = ix kd := by have := isOf_k hz.1 t0; omega
        have hf := hi.1.2.2 (ix f)
        refine ⟨hi.put (by omega) (by omega) t0 (hi.1.2.2 _) hj ?_, SM.put _ _ _ _⟩
        rw [hK]
        refine Or.inr ⟨rHd r (ix f), rfl, ?_⟩
        exact Or.inr (Or.inr (Or.inr ⟨by omega, hf, hz.2⟩))
      · rw [if_neg hz] at hn; cases hn
theorem s_take (h : LV k r) (c f kd i : Int32) : IP (f_take r c f kd i).1 ∧ SM r (f_take r c f kd i).1 := by
  have hi := h.2.2.2.2
  have hb := h.b
  unfold f_take
  split
  · exact ⟨hi, SM.rf r⟩
  · rename_i hg
    split
    · exact ⟨hi, SM.rf r⟩
    · rename_i hn
      have hn : f_no r (rHd r (ix f)) (ix kd) i = 0 := Decidable.of_not_not hn
      simp only [Bool.or_eq_true, Bool.not_eq_true', not_or, Bool.not_eq_false] at hg
      have h11 := in_ix hg.2 10 13 rfl rfl (by decide) (by decide)
      obtain ⟨t0, hj, hk⟩ := no_facts hi.2.1 hn
      exact ⟨hi.hd _ (ok_rw hi (by omega) (by omega) t0 (hi.1.2.2 _) hj (by omega)).1, SM.hd r _⟩
theorem s_copy (h : LV k r) (c i o j n : Int32) : IP (f_copy r c i o j n).1 ∧ SM r (f_copy r c i o j n).1 := by
  have hi := h.2.2.2.2
  have hb := h.b
  unfold f_copy
  split
  · exact ⟨hi, SM.rf r⟩
  · split
    · exact ⟨hi, SM.rf r⟩
    · rename_i h0
      split
      · exact ⟨hi, SM.rf r⟩
      · rename_i hu
        split
        · exact ⟨hi, SM.rf r⟩
        · rename_i hc
          have hma := (hi.2.1 (rHd r (ix c))).2
          have hmb := (hi.2.1 (rHd r (ix o))).2
          rw [Bool.not_eq_true, str_cpo hma hmb] at hc
          simp only [Bool.not_eq_false', Bool.and_eq_true] at hc
          obtain ⟨x, z, rfl, rfl, hxz⟩ := str_nat hma hc.1
          obtain ⟨y, z2, rfl, e9, hyz⟩ := str_nat hmb hc.2
          have hz2 := nIeq e9 (by omega) (by omega)
          subst hz2
          have hkk : rK r (rHd r (ix c)) < 8 ↔ rK r (rHd r (ix o)) < 8 := by
            simp only [f_unlike, Bool.and_eq_true, Bool.or_eq_true, Bool.not_eq_true', decide_eq_false_iff_not, decide_eq_true_eq] at hu
            omega
          rw [ix_nI (show x < 2 ^ 31 by omega), ix_nI (show y < 2 ^ 31 by omega), ix_nI (show z < 2 ^ 31 by omega)]
          refine ⟨?_, ⟨rfl, rfl, rfl⟩⟩
          refine ip_come (by omega) (by omega) (fun q => h0 (Or.inr q)) (hi.1.2.2 _) hyz (fun q hq hcan => ?_) z (rI r) (Nat.le_refl _) hi
          exact can_ok (by omega) (by omega) hcan (hi.2.2.1 _ (fun q => h0 (Or.inl q)) (hi.1.2.2 _) (x + q) (by omega)) hkk (hi.2.1 _).1
theorem s_fill (h : LV k r) (c kd : Int32) (b : Int64) : IP (f_fill r c kd b).1 ∧ SM r (f_fill r c kd b).1 := by
  have hi := h.2.2.2.2
  have hb := h.b
  unfold f_fill
  split
  · exact ⟨hi, SM.rf r⟩
  · rename_i hg
    split
    · exact ⟨hi, SM.rf r⟩
    · rename_i hn
      split
      · exact ⟨hi, SM.rf r⟩
      · rename_i t0
        simp only [Bool.or_eq_true, Bool.not_eq_true', not_or, Bool.not_eq_false] at hg
        have h7 := (in_ix hg.2 0 7 rfl rfl (by decide) (by decide)).2
        simp only [Bool.not_eq_true', Bool.not_eq_false] at hn
        have hk := isOf_k hn t0
        exact ⟨ip_fil (by omega) (by omega) hi t0 (hi.1.2.2 _) (by omega) _ (Nat.le_refl _), ⟨rfl, rfl, rfl⟩⟩
theorem s_trouble (h : LV k r) (t n : Int32) : IP (f_trouble r t n).1 ∧ SM r (f_trouble r t n).1 := by
  unfold f_trouble
  split
  · exact ⟨h.2.2.2.2, SM.rf r⟩
  · exact ⟨h.2.2.2.2.tr _, SM.tr' r _⟩
theorem s_raise (h : LV k r) (t f : Int32) : IP (f_raise r t f).1 ∧ SM r (f_raise r t f).1 := by
  unfold f_raise
  split
  · exact ⟨h.2.2.2.2, SM.rf r⟩
  · exact ⟨(h.2.2.2.2.pa _).nu _, (SM.pa r _).tr (SM.nu _ _)⟩
theorem s_clear (h : LV k r) : IP (f_clear r).1 ∧ SM r (f_clear r).1 := by
  refine ⟨h.2.2.2.2.cl _ (fun j => ?_) _ _ _ _, ⟨rfl, rfl, rfl⟩⟩
  show (if j < 16 then 0 else rHd r j) ≤ rT r
  split
  · omega
  · exact h.2.2.2.2.1.2.2 j
theorem lv_make (h : LV k r) (hk : k + 1 ≤ 512) (c kd n : Int32) : LV (k + 1) (f_make r c kd n).1 ∧ MN r (f_make r c kd n).1 := by
  have hi := h.2.2.2.2
  have hs := h.same hk hi (SM.rf r)
  unfold f_make
  split
  · exact ⟨hs, MN.rf⟩
  · rename_i hg
    split
    · exact ⟨hs, MN.rf⟩
    · rename_i hf
      split
      · exact ⟨hs, MN.rf⟩
      · rename_i hn
        simp only [Bool.or_eq_true, Bool.not_eq_true', not_or, Bool.not_eq_false, decide_eq_true_eq] at hg
        have h13 := (in_ix hg.1.2 0 13 rfl rfl (by decide) (by decide)).2
        obtain ⟨nn, hnn, rfl⟩ := le_nat 30 hn hg.2 rfl (by decide)
        rw [ix_nI (show nn < 2 ^ 31 by omega)]
        obtain ⟨h1, h2, h3, h4, -⟩ := h
        refine ⟨⟨hk, ?_, ?_, ?_, ?_⟩, ⟨Nat.le_succ _, Nat.le_add_right _ _, Nat.le_refl _⟩⟩
        · show rT r + 1 ≤ rN r + nn + (k + 1); omega
        · show rN r + nn ≤ 12000; omega
        · show rM r ≤ k + 1; omega
        · exact IP.hd (hi.table h13 hnn) _ (Nat.le_refl _)
theorem lv_grow (h : LV k r) (hk : k + 1 ≤ 512) (c n : Int32) : LV (k + 1) (f_grow r c n).1 ∧ MN r (f_grow r c n).1 := by
  have hi := h.2.2.2.2
  have hs := h.same hk hi (SM.rf r)
  unfold f_grow
  split
  · exact ⟨hs, MN.rf⟩
  · rename_i hg
    split
    · exact ⟨hs, MN.rf⟩
    · rename_i hf
      split
      · exact ⟨hs, MN.rf⟩
      · rename_i t0
        split
        · exact ⟨hs, MN.rf⟩
        · rename_i hn
          simp only [Bool.or_eq_true, Bool.not_eq_true', not_or, Bool.not_eq_false, decide_eq_true_eq] at hg
          obtain ⟨nn, hnn, rfl⟩ := le_nat 30 hn hg.2 rfl (by decide)
          rw [ix_nI (show nn < 2 ^ 31 by omega)]
          obtain ⟨h1, h2, h3, h4, -⟩ := h
          refine ⟨⟨hk, ?_, ?_, ?_, ?_⟩, ⟨Nat.le_succ _, Nat.le_add_right _ _, Nat.le_refl _⟩⟩
          · show rT r + 1 ≤ rN r + nn + (k + 1); omega
          · show rN r + nn ≤ 12000; omega
          · show rM r ≤ k + 1; omega
          · exact IP.hd (IP.flat (c := min nn (rMn r (rHd r (ix c)))) hi t0 (hi.1.2.2 _) (Nat.min_le_right _ _) (Nat.min_le_left _ _) hnn) _ (Nat.le_refl _)
theorem lv_thing (h : LV k r) (hk : k + 1 ≤ 512) (c i mk nu : Int32) : LV (k + 1) (f_thing r c i mk nu).1 ∧ MN r (f_thing r c i mk nu).1 := by
  have hi := h.2.2.2.2
  have hb := h.b
  have hs := h.same hk hi (SM.rf r)
  have hth : ∀ (r' : RS), IP r' → rT r' = rT r → rN r' = rN r → rM r' = rM r + 1 → LV (k + 1) r' ∧ MN r r' := fun r' hi' e1 e2 e3 => by
    obtain ⟨h1, h2, h3, h4, -⟩ := h
    exact ⟨⟨hk, by omega, by omega, by omega, hi'⟩, ⟨by omega, by omega, by omega⟩⟩
  unfold f_thing
  split
  · exact ⟨hs, MN.rf⟩
  · rename_i hg
    simp only [Bool.or_eq_true, Bool.not_eq_true', not_or, Bool.not_eq_false] at hg
    have hg0 : ¬ mk < 0 := by
      have q := hg.2
      simp only [f_in, Bool.and_eq_true, Bool.not_eq_true', decide_eq_false_iff_not] at q
      exact q.1
    split
    · exact ⟨hs, MN.rf⟩
    · split
      · split
        · exact hth _ (hi.newT _ _) rfl rfl rfl
        · exact ⟨hs, MN.rf⟩
      · rename_i hn
        have hn : f_thno r (rHd r (ix c)) i mk = 0 := Decidable.of_not_not hn
        have hno : f_no r (rHd r (ix c)) 8 i = 0 ∧ ¬ (mk = 0 ∧ rK r (rHd r (ix c)) = 9) := by
          unfold f_thno at hn
          by_cases q : f_no r (rHd r (ix c)) 8 i = 0 ∧ mk = 0 ∧ rK r (rHd r (ix c)) = 9
          · rw [if_pos q] at hn; cases hn
          · rw [if_neg q] at hn; exact ⟨hn, fun z => q ⟨hn, z⟩⟩
        obtain ⟨t0, hj, hK⟩ := no_facts hi.2.1 hno.1
        split
        · rename_i hm
          refine hth _ ?_ rfl rfl rfl
          refine (hi.newT _ _).put (show rT r < 2 ^ 31 by omega) (show rM r + 1 < 2 ^ 31 by omega) t0 (hi.1.2.2 _) hj ?_
          show f_ok _ (rK r (rHd r (ix c))) _
          refine Or.inr ⟨rM r + 1, rfl, ?_⟩
          by_cases h9 : rK r (rHd r (ix c)) = 9
          · refine Or.inr (Or.inr (Or.inl ⟨h9, Nat.le_refl _, ?_⟩))
            show va_up (rIM r) (rM r + 1) (decide (mk = 1)) (rM r + 1) = true
            rw [va_up_self, decide_eq_true_eq]
            exact mk_1 hm (fun z => hno.2 ⟨z, h9⟩) hg0
          · exact Or.inr (Or.inl ⟨by omega, Nat.le_refl _⟩)
        · exact ⟨h.same hk (hi.put (by omega) (by omega) t0 (hi.1.2.2 _) hj (ok_0 _ _)) (SM.put _ _ _ _), (SM.put r _ _ _).mn⟩
theorem lv_deep (h : LV k r) (hk : k + 1 ≤ 512) (c kd n m l : Int32) : LV (k + 1) (f_deep r c kd n m l).1 ∧ MN r (f_deep r c kd n m l).1 := by
  have hi := h.2.2.2.2
  have hb := h.b
  have hs := h.same hk hi (SM.rf r)
  unfold f_deep
  split
  · exact ⟨hs, MN.rf⟩
  · rename_i hg
    split
    · exact ⟨hs, MN.rf⟩
    · rename_i hp
      split
      · exact ⟨hs, MN.rf⟩
      · rename_i hf
        split
        · exact ⟨hs, MN.rf⟩
        · rename_i hbl
          simp only [Bool.or_eq_true, Bool.not_eq_true', not_or, Bool.not_eq_false, decide_eq_true_eq, Bool.and_eq_true, not_and] at hg
          obtain ⟨⟨⟨⟨g1, g2⟩, g3⟩, g4⟩, g5⟩ := hg
          obtain ⟨kn, k1, k2, rfl⟩ := f_in_nat g2 10 13 rfl rfl (by decide) (by decide)
          have hbl2 := hbl
          simp only [f_below, Bool.or_eq_true, not_or, decide_eq_true_eq, Bool.and_eq_true, not_and] at hbl2
          obtain ⟨⟨b1, b2⟩, b3⟩ := hbl2
          obtain ⟨nn, hnn, rfl⟩ := le_nat 30 b1 g3 rfl (by decide)
          obtain ⟨mm, hmm, rfl⟩ := le_nat 30 b2 g4 rfl (by decide)
          have hbf : f_below (nI kn) (nI nn) (nI mm) l = false := Bool.eq_false_iff.mpr hbl
          have fin : ∀ ll : Nat, ll ≤ 30 → f_deepT r kn nn mm (ix l) = f_deepT r kn nn mm ll → (kn = 13 → nn * mm * ll ≤ 400) → LV (k + 1) (sHd (f_deepT r kn nn mm (ix l)) (va_up (rHd r) (ix c) (rT r + 1))) ∧ MN r (sHd (f_deepT r kn nn mm (ix l)) (va_up (rHd r) (ix c) (rT r + 1))) := fun ll hll e hpr => by
            rw [e]
            have hM := deepT_MN r kn nn mm ll
            have hT := dp_out_T kn mm ll (rT r + 1) (f_table r kn nn) nn
            have hN := dp_out_N kn mm ll (rT r + 1) (f_table r kn nn) nn
            have hbd := dp_bd (i := nn) (l := ll) hnn hmm (fun _ => hll) (Nat.le_refl _) hpr
            have hT' : rT (f_deepT r kn nn mm ll) = rT r + 1 + nn * (1 + dpy kn mm) := hT
            have hN' : rN (f_deepT r kn nn mm ll) = rN r + nn + nn * (mm + dpx kn mm ll) := hN
            have hle : nn * (1 + dpy kn mm) ≤ nn + nn * (mm + dpx kn mm ll) := by
              have : nn * (1 + dpy kn mm) ≤ nn * (1 + mm) := Nat.mul_le_mul_left _ (by unfold dpy; split <;> omega)
              have h2 : nn * (1 + mm) = nn + nn * mm := by rw [Nat.mul_add, Nat.mul_one]
              have h3 : nn * mm ≤ nn * (mm + dpx kn mm ll) := Nat.mul_le_mul_left _ (by omega)
              omega
            have hMM : rM (f_deepT r kn nn mm ll) = rM r := by
              have a := hi.table (k := kn) (n := nn) k2 hnn
              exact (dp_out_f (m := mm) (l := ll) (t0 := rT r + 1) a.1 a.2.1 (Nat.succ_ne_zero _) (Nat.le_refl _) (va_up_self _ _ _) k1 k2 hmm hll (show rT r + 1 < 70000 by omega) nn (Nat.le_of_eq (va_up_self (rMn r) (rT r + 1) nn).symm)).1.2.2.2.1
            obtain ⟨h1, h2, h3, h4, -⟩ := h
            refine ⟨⟨hk, ?_, ?_, ?_, ?_⟩, ?_⟩
            · show rT (f_deepT r kn nn mm ll) ≤ rN (f_deepT r kn nn mm ll) + (k + 1); omega
            · show rN (f_deepT r kn nn mm ll) ≤ 12000; omega
            · show rM (f_deepT r kn nn mm ll) ≤ k + 1; omega
            · have z := ip_deepT (m := mm) (l := ll) hi (by omega) (by omega) k1 k2 hnn hmm hll
              have z2 := z.hd (ix c) (t := rT r + 1) hM.1
              rw [deepT_Hd] at z2
              exact z2
            · exact (MN.table r kn nn).tr hM
          rw [ix_nI (show kn < 2 ^ 31 by omega), ix_nI (show nn < 2 ^ 31 by omega), ix_nI (show mm < 2 ^ 31 by omega)]
          by_cases h13 : kn = 13
          · subst h13
            obtain ⟨ll, hll, rfl⟩ := le_nat 30 (b3 rfl) (g5 rfl) rfl (by decide)
            refine fin ll hll (by rw [ix_nI (show ll < 2 ^ 31 by omega)]) (fun _ => ?_)
            have hmul : nn * mm ≤ 900 := Nat.le_trans (Nat.mul_le_mul hnn hmm) (by decide)
            have hmul3 : nn * mm * ll ≤ 27000 := Nat.le_trans (Nat.mul_le_mul hmul hll) (by decide)
            have hpe : f_prod (nI 13) (nI nn) (nI mm) (nI ll) = nI (nn * mm * ll) := by
              unfold f_prod
              rw [hbf, if_neg (by decide), if_pos (by decide), pk_mul, pk_mul]
            rw [hpe] at hp
            exact nInlt (show ¬ nI 400 < nI (nn * mm * ll) from hp) (by decide) (by omega)
          · exact fin 1 (by decide) (deepT_l h13) (fun q => absurd q h13)
end LVS
