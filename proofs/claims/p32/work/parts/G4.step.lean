/-! ===== what is seen of a state; a step, taken back and told again ===== -/
theorem hangF_q {n : Nat} {S S' : zS2} (h : zq n S S') (s : Nat) : hangF S' s = hangF S s := by
  have e : ∀ x y n, hgP S' x y n = hgP S x y n := by
    intro x y n
    induction n with
    | zero => rfl
    | succ n ih => simp only [hgP, ih, h.eq 78 (by decide)]
  unfold hangF
  rw [e, belF_q h, h.eq 82 (by decide), h.eq 83 (by decide), h.eq 84 (by decide)]
theorem loopB_q {n : Nat} {S S' : zS2} (h : zq n S S') (s : Nat) : loopB S' s = loopB S s := by
  have e : ∀ n x, ilI S' x n = ilI S x n := by
    intro n x
    induction n with
    | zero => rfl
    | succ n ih => simp only [ilI, ih, hangF_q h]
  have e2 : ∀ n x, ilO S' x n = ilO S x n := by
    intro n x
    induction n with
    | zero => rfl
    | succ n ih => simp only [ilO, ih, e]
  unfold loopB
  rw [e2, hangF_q h]
def sw (n : Nat) (S : zS2) (j : Nat) : Int32 := if j < 12 then S 88 j else if j < 24 then 2 * S 79 (j - 12) + zbi (staleB S (j - 12)) else if j < 29 then S 92 (j - 24) + 10 * S 97 (j - 24) else if j < 34 then S 95 (j - 29) else if j < 39 then S 96 (j - 34) else if j < 44 then zbi (loopB S (j - 39)) else if j = 44 then S 67 34 else if j = 45 then S 67 33 else nI n
theorem sw_q {n m : Nat} {S S' : zS2} (h : zq m S S') (j : Nat) : sw n S' j = sw n S j := by
  unfold sw
  rw [h.eq 88 (by decide), h.eq 79 (by decide), h.eq 92 (by decide), h.eq 97 (by decide), h.eq 95 (by decide), h.eq 96 (by decide), h.now, h.work, staleB_q h, loopB_q h]
theorem lrN_b {S : zS2} {s : Nat} (h : 0 ≤ S 85 s ∧ S 85 s ≤ 1000) : 0 ≤ lrN S s ∧ lrN S s ≤ 1000 := by
  have h1 := Int32.le_iff_toInt_le.mp h.1
  have h2 := Int32.le_iff_toInt_le.mp h.2
  have e0 : (0 : Int32).toInt = 0 := rfl
  have e1 : (1000 : Int32).toInt = 1000 := rfl
  unfold lrN
  generalize S 88 (S 83 s).toNatClampNeg = x
  generalize S 85 s = y at *
  generalize S 83 s = z
  simp only [Int32.le_iff_toInt_le, Int32.lt_iff_toInt_lt] at *
  repeat' split
  all_goals omega
theorem CR.ni {n : Nat} {S : zS2} (h : CR n S) : ∀ k, k ≤ n → VI (rpF S k) ∧ (∀ j, j < 5 → S1 j (12000 * k) (rpF S k)) ∧ Wd (144000 * k) (beginF S) (rpF S k) := by
  intro k
  induction k with
  | zero => exact fun _ => ⟨VI_begin S, fun j hj => S1_begin S hj, Wd.z rfl⟩
  | succ k ih =>
    intro hk
    obtain ⟨a, b, c⟩ := ih (by omega)
    obtain ⟨g1, g2, g3, -⟩ := h.step (show k < n by omega)
    have hR := (h.kq k (by omega)).1.1
    have hv : stC (rpF S k) k ≤ 50 ∨ rpF S k 98 k ≠ 10 := by
      obtain ⟨kd, k1, k2, -, -, -, k6⟩ := stepV_kind g1
      by_cases z : kd = 10
      · exact Or.inl (k6 z)
      · refine Or.inr (fun q => z ?_)
        exact (nI_eq (b := 10) (by omega) (by decide)).mp (k2.symm.trans q)
    have hn := (doF_n hR g3 hv).1
    have v1 := a.do hR g1 g3
    have v2 := fun j (hj : j < 5) => (b j hj).do (st := k)
    have v3 := Wd.do (rpF S k) k
    rw [rpF]
    generalize doF (rpF S k) k = d at *
    exact ⟨v1, fun j hj => (v2 j hj).up (by omega), (c.tr v3).up (by omega)⟩
theorem CV.ni {n : Nat} {S : zS2} (h : CV n S) : (∀ c, c < 12 → S 80 c = 0 → S 88 c = worthN S c) ∧ (∀ j, j < 5 → S1 j 480000 S) ∧ ∃ a, a ≤ 5760000 ∧ S 67 33 = nI a := by
  obtain ⟨v1, v2, v3⟩ := h.cr.ni n (Nat.le_refl n)
  have q := h.1.same
  have hn := h.1.1
  obtain ⟨hK, hQ⟩ := h.kq
  refine ⟨fun c hc h80 => ?_, fun j hj => ?_, ?_⟩
  · rw [q.eq 88 (by decide), worthN_q q hc]
    refine v1.2 c hc trivial ((q.eq 80 (by decide) c).symm.trans h80) ((q.eq 89 (by decide) c).symm.trans (hQ.1 c hc))
  · exact ((v2 j hj).same (q.eq 97 (by decide) j) (fun z => (q.eq 92 (by decide) j).symm.trans z)).up (by omega)
  · obtain ⟨d, d1, d2⟩ := v3
    refine ⟨d, by omega, ?_⟩
    rw [q.work, d2, (beginF_v S).2.2.1]
    exact Int32.zero_add _
theorem CV.cell {n c : Nat} {S : zS2} (h : CV n S) (hc : c < 12) : (S 80 c = 0 → S 88 c = worthN S c) ∧ (S 80 c ≠ 0 → staleB S c = false) ∧ (∃ d, d ≤ 11 ∧ S 79 c = nI d) ∧ (-1000000 ≤ S 88 c ∧ S 88 c ≤ 1000000) := by
  obtain ⟨hK, hQ⟩ := h.kq
  refine ⟨h.ni.1 c hc, fun q => ?_, (hK.2.2 c hc).1, Int32.le_iff_toInt_le.mpr (hK.2.1.1 c hc).1, Int32.le_iff_toInt_le.mpr (hK.2.1.1 c hc).2⟩
  cases hb : staleB S c with
  | false => rfl
  | true => exact absurd ((staleB_iff S hc).mp hb).1 q
theorem CV.svc {n k : Nat} {S : zS2} (h : CV n S) (hk : k < 5) : (S 92 k = 0 ∨ S 92 k = 1 ∨ S 92 k = 2 ∨ S 92 k = 3) ∧ (0 ≤ S 95 k ∧ S 95 k ≤ 1000) ∧ (S 92 k = 2 ∨ (S 95 k = 0 ∧ S 96 k = 0)) ∧ ∃ a, a ≤ 480000 ∧ S 97 k = nI a ∧ (S 92 k = 2 → 1 ≤ a) := by
  obtain ⟨hK, hQ⟩ := h.kq
  obtain ⟨-, x2, x3, x4⟩ := hK.2.1.2.2.2.2 k hk
  obtain ⟨q1, q2, q3⟩ := hQ.2 k hk
  refine ⟨x4, ?_, ?_, h.ni.2.1 k hk⟩
  · rw [← q2]
    unfold ldN
    split
    · exact lrN_b x2
    · exact ⟨by decide, by decide⟩
  · by_cases z : S 92 k = 2
    · exact Or.inl z
    · have e : ¬ nsN S k = 2 := fun y => z (q1.symm.trans y)
      have e2 : ldN S k = 0 := by unfold ldN; rw [if_neg e]
      refine Or.inr ⟨q2.symm.trans e2, ?_⟩
      rw [← q3]
      unfold tdN
      rw [if_neg (fun y => e y.1), e2]
/-! a step's tokens, laid into its row; what else stood there is wiped -/
def zz (S : zS2) (n : Nat) : zS2 := fun b j => if b = 103 ∧ 30 * n ≤ j ∧ j < 30 * n + 30 then 0 else S b j
theorem zz_ne (S : zS2) (n : Nat) {b : Nat} (h : b ≠ 103) (j : Nat) : zz S n b j = S b j := by simp [zz, h]
theorem zz_q (S : zS2) (n : Nat) : zq n S (zz S n) := by
  refine zq_of (fun b hb j => zz_ne S n (by rintro rfl; exact absurd hb (by decide)) j) (zz_ne S n (by decide) _) (zz_ne S n (by decide) _) (fun s _ _ => ⟨zz_ne S n (by decide) _, zz_ne S n (by decide) _⟩) (fun c _ _ => zz_ne S n (by decide) _) (fun c k _ _ => zz_ne S n (by decide) _) (fun b hb k hk => zz_ne S n (by rintro rfl; exact absurd hb (by decide)) k) (fun k hk j hj => ?_)
  have e : ¬ (30 * n ≤ 30 * k + j ∧ 30 * k + j < 30 * n + 30) := by omega
  simp [zz, e]
theorem zR9_ne (S : zS2) (ks : List Nat) {b : Nat} (h : b ≠ 69) (j : Nat) : zR9 S ks b j = S b j := if_neg h
theorem zR9_q (n : Nat) (S : zS2) (ks : List Nat) : zq n S (zR9 S ks) := zq_near (fun b h1 _ j => zR9_ne S ks (by omega) j) (zR9_ne S ks (by decide) 33) (zR9_ne S ks (by decide) 34)
def ly (S : zS2) (n : Nat) (ks : List Nat) : zS2 := fmP (zR9 (zz S n) ks) n ks.length ks.length
theorem ly_ne (S : zS2) (n : Nat) (ks : List Nat) {b : Nat} (h : b ≠ 69 ∧ b ≠ 103 ∧ b ≠ 104) (j : Nat) : ly S n ks b j = S b j := by
  unfold ly
  rw [fmP_ne _ _ _ _ h.2, zR9_ne _ _ h.1, zz_ne _ _ h.2.1]
theorem ly_q (S : zS2) (n : Nat) (ks : List Nat) : zq n S (ly S n ks) := zq_trans (zz_q S n) (zq_trans (zR9_q n _ ks) (fmP_q _ n _ _))
theorem ly_104 (S : zS2) (n : Nat) (ks : List Nat) : ly S n ks 104 n = nI ks.length := by simp [ly, fmP]
theorem ly_103 (S : zS2) (n : Nat) (ks : List Nat) {i : Nat} (hi : i < 30) : ly S n ks 103 (30 * n + i) = if i < ks.length then zRo ks i else 0 := by
  unfold ly
  by_cases q : i < ks.length
  · rw [fmP_c _ _ _ q, if_pos q]
    exact if_pos rfl
  · have z : ¬ (30 * n ≤ 30 * n + i ∧ 30 * n + i < 30 * n + ks.length) := by omega
    rw [if_neg q]
    simp only [fmP, z, and_false, if_false, show ¬ (103 : Nat) = 104 by decide, false_and]
    rw [zR9_ne _ _ (by decide)]
    have z2 : 30 * n ≤ 30 * n + i ∧ 30 * n + i < 30 * n + 30 := ⟨by omega, by omega⟩
    simp only [zz, z2, and_self, if_true]
theorem ly_st {S : zS2} {n : Nat} {ks : List Nat} (h : ks.length ≤ 30) : stN (ly S n ks) n = ks.length := by
  unfold stN
  rw [ly_104]
  exact nI_clamp (by omega)
theorem ly_s30 {S : zS2} {n : Nat} {ks : List Nat} (h : ks.length ≤ 30) (h3 : ∀ k, stN S k ≤ 30) (k : Nat) : stN (ly S n ks) k ≤ 30 := by
  by_cases q : k = n
  · rw [q, ly_st h]; exact h
  · have e : ly S n ks 104 k = S 104 k := by
      simp only [ly, fmP, show ¬ (104 : Nat) = 103 by decide, false_and, if_false, true_and, q]
      rw [zR9_ne _ _ (by decide), zz_ne _ _ (by decide)]
    unfold stN
    rw [e]
    exact h3 k
theorem ly_cr (S : zS2) (n : Nat) {ks : List Nat} : zCr (ly S n ks) n ks := zOp_cr ks (Nat.le_refl _) (zOp_ro _ ks)
theorem ly_qq {S S' : zS2} {n : Nat} {ks : List Nat} (q : zq n S S') (w a b c : Int32) : zq (n + 1) (kpS (ly S n ks) n w a b c) (kpS (ly S' n ks) n w a b c) := by
  have q1 : zq n (kpS (ly S n ks) n w a b c) (kpS (ly S' n ks) n w a b c) := zq_trans (zq_symm (zq_trans (ly_q S n ks) (kpS_q _ _ _ _ _ _))) (zq_trans q (zq_trans (ly_q S' n ks) (kpS_q _ _ _ _ _ _)))
  refine zq_up q1 ⟨fun x hx k hk => ?_, fun k hk i hi => ?_⟩
  · by_cases z : k = n
    · subst z
      have k1 := kp_at (ly S k ks) k w a b c
      have k2 := kp_at (ly S' k ks) k w a b c
      simp only [List.mem_cons, List.not_mem_nil, or_false] at hx
      rcases hx with rfl | rfl | rfl | rfl | rfl | rfl
      · rw [k1.1, k2.1]
      · rw [k1.2.1, k2.2.1]
      · rw [k1.2.2.1, k2.2.2.1]
      · rw [k1.2.2.2, k2.2.2.2]
      · have e : ∀ X : zS2, kpS X k w a b c 102 k = X 67 34 := fun X => by simp [kpS, zu]
        rw [e, e, ly_ne _ _ _ (by decide), ly_ne _ _ _ (by decide), q.now]
      · rw [kp_ne _ _ _ _ _ _ (by decide), kp_ne _ _ _ _ _ _ (by decide), ly_104, ly_104]
    · exact q1.step x hx k (by omega)
  · by_cases z : k = n
    · subst z
      rw [kp_ne _ _ _ _ _ _ (by decide), kp_ne _ _ _ _ _ _ (by decide), ly_103 _ _ _ hi, ly_103 _ _ _ hi]
    · exact q1.scode k (by omega) i hi
theorem CV.lyy {n : Nat} {S : zS2} (h : CV n S) (ks : List Nat) : CV n (ly S n ks) := h.q (ly_q S n ks) (ly_ne S n ks (by decide) 42)
theorem KS_ly {n c : Nat} {S : zS2} {ks : List Nat} (hV : CV n S) (hc : c < 12) (h30 : ks.length ≤ 30) (ok : okL ks) (od : dL ks = 1) (hh : bt (belF S false (pkm ks)) c = false) : KS n (ly S n ks) 0 (nI c) 0 0 := by
  have q : zq n S (zR9 (zz S n) ks) := zq_trans (zz_q S n) (zR9_q n _ ks)
  have hX : CV n (zR9 (zz S n) ks) := hV.q q ((zR9_ne _ _ (by decide) 42).trans (zz_ne _ _ (by decide) 42))
  refine KS_fm hX hc (zOp_ro _ ks) h30 ok od ?_
  rw [belF_q q, ← belF_bits S (wh_pk (zOp_ro (zz S n) ks) (okL_t ok)) hc]
  exact hh
theorem CV.keep {n : Nat} {S : zS2} (hV : CV n S) (hn : n < 40) {w a b c : Int32} (ks : KS n S w a b c) : CV (n + 1) (doF (kpS S n w a b c) n).1 := by
  obtain ⟨ks1, ks2, ks3, -, -, E, ks4, ks5, ks6⟩ := ks
  have f1 : zkf (kpS S n w a b c) (doF (kpS S n w a b c) n).1 := doF_k _ _
  exact ⟨hV.1.keep hn ⟨ks1, ks3⟩, hV.2.1.step hV.1 (kpS_q _ _ _ _ _ _) ks1 ks4 ks5 ks6, fun k hk => stX_zkf f1 (by
    by_cases q : k = n
    · rw [q]; exact ks2
    · exact stX_q (kpS_q S n w a b c) (by omega) (hV.2.2 k (by omega)))⟩
/-- the latest step is taken back -/
theorem CV.back {n : Nat} {S : zS2} (h : CV (n + 1) S) : CV n (rpF (zu S 67 42 (nI n)) n) ∧ CR n (zu S 67 42 (nI n)) := by
  have qa : zq (n + 1) S (zu S 67 42 (nI n)) := zq_near (fun b h1 _ j => zu_ne _ _ _ _ (by omega) j) (zu_nj _ _ _ _ _ (by decide)) (zu_nj _ _ _ _ _ (by decide))
  have hw1 := h.1.rw1
  have hT : RT n (zu S 67 42 (nI n)) := h.2.1.mv (Nat.le_succ n) h.1.2.2.1 qa.zof (zq_less qa (Nat.le_succ n)).zst
  have hx : ∀ k, k < n → stX (zu S 67 42 (nI n)) k := fun k hk => stX_q qa (by omega) (h.2.2 k (by omega))
  have hR : CR n (zu S 67 42 (nI n)) := ⟨hw1.2.2.1, hx, hw1.2.2.2.1, hw1.2.2.2.2, hT⟩
  refine ⟨⟨h.1.undo, ?_, fun k hk => stX_zkf (rpF_k _ n) (hx k hk)⟩, hR⟩
  exact hT.mv (Nat.le_refl n) hw1.2.2.1 (rpF_f _ hw1.2.2.1) (zst_k (rpF_k _ n))
theorem back_q {n : Nat} {S T S' : zS2} (h : CV n S) (q : zq n S T) (hv : stepV T n) (q' : zq (n + 1) (doF T n).1 S') : zq n S (rpF (zu S' 67 42 (nI n)) n) := by
  have ho : zof S (zu S' 67 42 (nI n)) := zof_trans q.zof (zof_trans (doF_f T hv) (zof_trans q'.zof (zof_u S' _ _ _ (zout_n (by decide)))))
  have hs : zst n S (zu S' 67 42 (nI n)) := by
    refine zst_trans q.zst (zst_trans (zst_k (doF_k T n)) (zst_trans (zst_less q'.zst (Nat.le_succ n)) ⟨fun b hb k hk => ?_, fun k hk i hi => ?_⟩))
    · exact zu_ne _ _ _ _ (by rintro rfl; revert hb; decide) k
    · exact zu_ne _ _ _ _ (by decide) _
  exact zq_trans (zq_symm h.1.same) (rpF_q ho hs h.1.2.2.1 n (Nat.le_refl n))
theorem told_q {n : Nat} {S S' : zS2} {ks : List Nat} {w a b c : Int32} (q : zq n S S') (hv : stepV (kpS (ly S n ks) n w a b c) n) : zq (n + 1) (doF (kpS (ly S n ks) n w a b c) n).1 (doF (kpS (ly S' n ks) n w a b c) n).1 ∧ (doF (kpS (ly S' n ks) n w a b c) n).2 = (doF (kpS (ly S n ks) n w a b c) n).2 := doF_q (ly_qq q w a b c) (Nat.lt_succ_self n) hv
