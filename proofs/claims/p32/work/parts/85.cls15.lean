/-! ===== settled states ===== -/
def QS (S : zS2) : Prop := (∀ y, y < 12 → S 89 y = 0) ∧ ∀ k, k < 5 → nsN S k = S 92 k ∧ ldN S k = S 95 k ∧ tdN S k = S 96 k
theorem rdC_ns {S : zS2} (hX : XI S) {s : Nat} (hs : s < 5) : rdC S s 92 s = nsN S s ∧ (nsN S s = S 92 s → rdC S s = S) := by
  have h4 := (hX.2.2.2.2 s hs).2.2.2
  unfold nsN rdC
  by_cases c3 : S 92 s = 3
  · rw [if_pos c3, if_pos c3]; exact ⟨c3, fun _ => rfl⟩
  · rw [if_neg c3, if_neg c3]
    unfold changeF
    by_cases cw : wantP S s 5 = false
    · rw [if_pos cw, if_pos cw]; exact ⟨zu_eq _ _ _ _, fun q => zu_self q.symm⟩
    · rw [if_neg cw, if_neg cw]
      by_cases c0 : S 92 s = 0
      · rw [if_pos c0]
        by_cases cs : staleB S (S 82 s).toNatClampNeg = true
        · rw [if_pos cs, if_neg (by rw [cs]; simp), if_neg (by rw [c0]; exact fun q => absurd q.1 (by decide))]
          exact ⟨c0, fun _ => rfl⟩
        · rw [if_neg cs, if_pos ⟨c0, by simpa using cs⟩]
          by_cases cd : S 86 s = 0
          · rw [if_pos cd, if_pos cd]
            unfold runF
            exact ⟨by rw [zu_ne _ _ _ _ (by decide), zu_eq], fun q => absurd (q.trans c0) (by decide)⟩
          · rw [if_neg cd, if_neg cd]
            exact ⟨zu_eq _ _ _ _, fun q => absurd (q.trans c0) (by decide)⟩
      · rw [if_neg c0, if_neg (by exact fun q => c0 q.1)]
        by_cases c1 : S 92 s = 1
        · rw [if_pos c1]
          by_cases cl : S 94 s ≤ S 67 34 - S 93 s
          · rw [if_pos cl, if_pos ⟨c1, cl⟩]
            unfold runF
            exact ⟨by rw [zu_ne _ _ _ _ (by decide), zu_eq], fun q => absurd (q.trans c1) (by decide)⟩
          · rw [if_neg cl, if_neg (by exact fun q => cl q.2)]
            exact ⟨c1, fun _ => rfl⟩
        · have c2 : S 92 s = 2 := by
            rcases h4 with q | q | q | q
            · exact absurd q c0
            · exact absurd q c1
            · exact q
            · exact absurd q c3
          rw [if_neg c1, if_neg (by exact fun q => c1 q.1)]
          exact ⟨c2, fun _ => rfl⟩
theorem XI.lie {S : zS2} (hX : XI S) {s : Nat} (hs : s < 5) : S 87 s = -1 ∨ 0 ≤ S 87 s := (hX.2.2.2.2 s hs).2.2.1.imp (fun q => q) (fun q => q.1)
theorem rdS_qs {S : zS2} (hX : XI S) {s : Nat} (hs : s < 5) (h : nsN S s = S 92 s ∧ ldN S s = S 95 s ∧ tdN S s = S 96 s) : rdS S s = S :=
  rdS_same (rdC_ns hX hs).1 (rdC_ns hX hs).2 (hX.lie hs) h.1 h.2.1 h.2.2
theorem chB_qs {S : zS2} (hX : XI S) {s : Nat} (hs : s < 5) : chB S (rdS S s) s = false ↔ (nsN S s = S 92 s ∧ ldN S s = S 95 s ∧ tdN S s = S 96 s) := by
  obtain ⟨h1, h2, h3⟩ := rdS_ch (rdC_ns hX hs).1 (hX.lie hs)
  rw [chB_eq, h1, h2, h3]
theorem rdM_0 {S : zS2} (hX : XI S) : ∀ n, n ≤ 5 → rdM S n = 0 → rdP S n = S ∧ ∀ k, k < n → nsN S k = S 92 k ∧ ldN S k = S 95 k ∧ tdN S k = S 96 k := by
  intro n
  induction n with
  | zero => exact fun _ _ => ⟨rfl, fun k hk => absurd hk (by omega)⟩
  | succ n ih =>
    intro hn h
    have hz : rdM S n = 0 ∧ chB (rdP S n) (rdP S (n + 1)) n = false := by
      have hb : ∀ i, i < 32 → bt (rdM S n) i = false ∧ bt (if chB (rdP S n) (rdP S (n + 1)) n = true then (1 : Int32) <<< (nI n &&& 31) else 0) i = false := fun i hi => by
        have := congrArg (fun z => bt z i) h
        simp only [b_0] at this
        rw [rdM, b_or, Bool.or_eq_false_iff] at this
        exact this
      refine ⟨b_ext (fun i hi => by rw [(hb i hi).1, b_0]), ?_⟩
      cases hc : chB (rdP S n) (rdP S (n + 1)) n with
      | false => rfl
      | true =>
        have := (hb n (by omega)).2
        rw [if_pos hc, b_one n (by omega) (by omega)] at this
        simp at this
    obtain ⟨e, hk⟩ := ih (by omega) hz.1
    have hz2 := hz.2
    rw [show rdP S (n + 1) = rdS (rdP S n) n from rfl, e] at hz2
    have hq := (chB_qs hX (by omega)).mp hz2
    refine ⟨?_, fun k hk2 => ?_⟩
    · rw [show rdP S (n + 1) = rdS (rdP S n) n from rfl, e]; exact rdS_qs hX (by omega) hq
    · rcases Nat.lt_or_eq_of_le (Nat.le_of_lt_succ hk2) with q | q
      · exact hk k q
      · subst q; exact hq
theorem rdM_qs {S : zS2} (hX : XI S) (h : ∀ k, k < 5 → nsN S k = S 92 k ∧ ldN S k = S 95 k ∧ tdN S k = S 96 k) : ∀ n, n ≤ 5 → rdP S n = S ∧ rdM S n = 0 := by
  intro n
  induction n with
  | zero => exact fun _ => ⟨rfl, rfl⟩
  | succ n ih =>
    intro hn
    obtain ⟨e1, e2⟩ := ih (by omega)
    have e3 : rdP S (n + 1) = S := by rw [show rdP S (n + 1) = rdS (rdP S n) n from rfl, e1]; exact rdS_qs hX (by omega) (h n (by omega))
    refine ⟨e3, ?_⟩
    rw [rdM, e2, e3, e1, if_neg (by rw [(chB_eq S S n).mpr ⟨rfl, rfl, rfl⟩]; decide)]
    rfl
set_option maxHeartbeats 400000 in
theorem QS.round {S : zS2} (hR : RI S) (hX : XI S) (h : maskF S = 0) : QS (roundF S) := by
  obtain ⟨e, hk⟩ := rdM_0 (hX.works hR) 5 (Nat.le_refl 5) h
  have e2 : roundF S = worksF S := e
  rw [e2]
  exact ⟨fun y hy => wkI_clean 12 S hR.2.1 (kcn_le S) y hy, hk⟩
set_option maxHeartbeats 400000 in
theorem QS.mask {S : zS2} (hX : XI S) (h : QS S) : maskF S = 0 ∧ roundF S = S := by
  have e : worksF S = S := wkI_none (ndP_of0 h.1) 12
  obtain ⟨a, b⟩ := rdM_qs hX h.2 5 (Nat.le_refl 5)
  refine ⟨?_, ?_⟩
  · show rdM (worksF S) 5 = 0
    rw [e]; exact b
  · show rdP (worksF S) 5 = S
    rw [e]; exact a
set_option maxHeartbeats 400000 in
theorem QS.blk : ∀ (r : Nat) {S : zS2} {late : Int32}, RI S → XI S → (blkF r S late).2.2.1 = false → QS (blkF r S late).1 := by
  intro r
  induction r with
  | zero => intro S late _ _ h; exact absurd (show true = false from h) (by decide)
  | succ r ih =>
    intro S late hR hX h
    by_cases q : maskF S = 0
    · rw [blkF_0 late q]; dsimp only; exact QS.round hR hX q
    · rw [blkF_1 late q] at h ⊢
      dsimp only at h ⊢
      exact ih hR.round (hX.round hR) h
set_option maxHeartbeats 400000 in
theorem QS.setn : ∀ (f : Nat) {S : zS2}, RI S → XI S → ncut S < f → QS (setF f S).1 := by
  intro f
  induction f with
  | zero => intro S _ _ h; omega
  | succ f ih =>
    intro S hR hX hn
    obtain ⟨g1, g2, g3, g4⟩ := blkF_ok 40 S 0 hR (fun k _ hb => by rw [b_0] at hb; cases hb)
    rw [setF]
    by_cases q : (blkF 40 S 0).2.2.1 = false
    · rw [if_pos q]; dsimp only; exact QS.blk 40 hR hX q
    · rw [if_neg q]
      dsimp only
      have hex := g4 (by simpa using q) (Or.inl (by decide))
      obtain ⟨hw5, hwb, -⟩ := lowN_ok hex
      have hw3 : (blkF 40 S 0).1 92 (lowN (blkF 40 S 0).2.2.2) ≠ 3 := fun z => (g3 _ (by omega) hwb).2 ((g2 _).mp z)
      have := ncut_cut hw5 hw3
      have e := ncut_eq g2
      exact ih (g1.cut _) ((XI.blk 40 hR hX).cut _) (by omega)
theorem QS.set {S : zS2} (hR : RI S) (hX : XI S) : QS (setF 6 S).1 := QS.setn 6 hR hX (Nat.lt_succ_of_le (by unfold ncut; exact Nat.le_trans List.countP_le_length (by simp)))
set_option maxHeartbeats 400000 in
theorem setF_qs {S : zS2} (hX : XI S) (h : QS S) : setF 6 S = (S, 1) := by
  obtain ⟨a, b⟩ := h.mask hX
  rw [show (6 : Nat) = 5 + 1 from rfl, setF, show (40 : Nat) = 39 + 1 from rfl, blkF_0 0 a]
  dsimp only
  rw [if_pos rfl, b]
/-! one tick over a settled state -/
theorem oldB_up {S : zS2} {E w : Nat} (hE : S 67 34 = nI E) (hE2 : E < 2000) (h91 : S 91 w = -1 ∨ 0 ≤ S 91 w) (h : oldB S w = true) : oldB (nowF S) w = true := by
  unfold oldB nowF at *
  rw [zu_ne _ _ _ _ (by decide : 91 ≠ 67), zu_eq]
  rcases h91 with e | e
  · rw [e, show decide ((-1 : Int32) < 0) = true from by decide]; rfl
  · rw [Bool.or_eq_true] at h ⊢
    rcases h with q | q
    · exact Or.inl q
    · refine Or.inr ?_
      have q2 := of_decide_eq_true q
      apply decide_eq_true
      rw [hE] at q2 ⊢
      rw [nI_1 E]
      have a1 : (0 : Int) ≤ (S 91 w).toInt := Int32.le_iff_toInt_le.mp e
      have a2 := Int32.toInt_lt (S 91 w)
      have s1 : ∀ m : Nat, m ≤ 2000 → (nI m - S 91 w).toInt = (m : Int) - (S 91 w).toInt := fun m hm => by
        rw [Int32.toInt_sub, nI_toInt (by omega)]
        exact Int.bmod_eq_of_le (by omega) (by omega)
      rw [Int32.lt_iff_toInt_lt, s1 _ (by omega)] at q2 ⊢
      have : (10 : Int32).toInt = 10 := by decide
      omega
theorem belF_now (S : zS2) (v : Int32) (h : Bool) (x : Int32) : belF (zu S 67 34 v) h x = belF S h x := by
  have e1 : ∀ (x : Int32) (n : Nat), belP (zu S 67 34 v) h x n = belP S h x n := by
    intro x n
    induction n with
    | zero => rfl
    | succ n ih => rw [belP, belP, ih, zu_ne _ _ _ _ (by decide), zu_ne _ _ _ _ (by decide)]
  have e2 : ∀ r, belR (zu S 67 34 v) h x r = belR S h x r := by
    intro r
    induction r with
    | zero => rfl
    | succ r ih => rw [belR, belR, ih, e1]
  exact e2 12
theorem stale_up {S : zS2} {E c : Nat} (hE : S 67 34 = nI E) (hE2 : E < 2000) (hX : XI S) (h : staleB S c = true) : staleB (nowF S) c = true := by
  unfold staleB at *
  rw [stO_iff] at *
  obtain ⟨k, hk, r, hr, h1, h2, h3, h4⟩ := h
  refine ⟨k, hk, r, hr, by unfold nowF; rw [belF_now]; exact h1, ?_, ?_, oldB_up hE hE2 (hX.2.2.2.1 r hr).2 h4⟩
  · unfold nowF; rw [zu_ne _ _ _ _ (by decide)]; exact h2
  · unfold nowF; rw [zu_ne _ _ _ _ (by decide)]; exact h3
theorem dueB_at {S : zS2} {n : Nat} (h : dueB S n = false) : ∀ k, k < n → S 92 k = 1 → ¬ (S 94 k ≤ S 67 34 - S 93 k) := by
  induction n with
  | zero => intro k hk; omega
  | succ n ih =>
    intro k hk h1 h2
    rw [dueB, Bool.or_eq_false_iff] at h
    rcases Nat.lt_or_eq_of_le (Nat.le_of_lt_succ hk) with q | q
    · exact ih h.1 k q h1 h2
    · subst q
      have := h.2
      rw [h1] at this
      simp at this
      exact absurd h2 (Int32.not_le.mpr this)
theorem wantP_now (S : zS2) (v : Int32) (s n : Nat) : wantP (zu S 67 34 v) s n = wantP S s n := by
  unfold wantP
  rw [zu_ne _ _ _ _ (by decide : 82 ≠ 67), zu_ne _ _ _ _ (by decide : 88 ≠ 67)]
  congr 2
theorem QS.now {S : zS2} {E : Nat} (hE : S 67 34 = nI E) (hE2 : E < 2000) (hX : XI S) (h : QS S) (hd : dueB (nowF S) 5 = false) : QS (nowF S) := by
  have e : ∀ b, b ≠ 67 → ∀ j, nowF S b j = S b j := fun b hb j => zu_ne _ _ _ _ hb j
  refine ⟨fun y hy => by rw [e 89 (by decide)]; exact h.1 y hy, fun k hk => ?_⟩
  obtain ⟨q1, q2, q3⟩ := h.2 k hk
  have hns : nsN (nowF S) k = nsN S k := by
    have hd2 := dueB_at hd k hk
    have q0 := q1
    unfold nsN at q1 ⊢
    rw [e 92 (by decide)] at hd2
    rw [e 92 (by decide), e 82 (by decide), e 86 (by decide)]
    rw [show wantP (nowF S) k 5 = wantP S k 5 from wantP_now S _ k 5]
    by_cases c3 : S 92 k = 3
    · rw [if_pos c3, if_pos c3]
    · rw [if_neg c3] at q1 ⊢
      rw [if_neg c3]
      by_cases cw : wantP S k 5 = false
      · rw [if_pos cw, if_pos cw]
      · rw [if_neg cw] at q1 ⊢
        rw [if_neg cw]
        by_cases c0 : S 92 k = 0
        · rw [if_pos c0] at q1 ⊢
          rw [if_pos c0]
          have hs : staleB S (S 82 k).toNatClampNeg = true := by
            cases z : staleB S (S 82 k).toNatClampNeg with
            | true => rfl
            | false =>
              rw [z, if_neg (by decide), c0] at q1
              split at q1
              · exact absurd q1 (by decide)
              · exact absurd q1 (by decide)
          rw [if_pos (stale_up hE hE2 hX hs), if_pos hs]
        · rw [if_neg c0] at q1 ⊢
          rw [if_neg c0]
          by_cases c1 : S 92 k = 1
          · rw [if_pos c1] at q1 ⊢
            rw [if_pos c1, if_neg (hd2 c1)]
            rw [c1] at q1
            split at q1
            · exact absurd q1 (by decide)
            · rename_i z; rw [if_neg z]
          · rw [if_neg c1, if_neg c1]
  have hlr : lrN (nowF S) k = lrN S k := by unfold lrN; rw [e 83 (by decide), e 85 (by decide), e 88 (by decide)]
  have hld : ldN (nowF S) k = ldN S k := by unfold ldN; rw [hns, hlr]
  have htd : tdN (nowF S) k = tdN S k := by unfold tdN; rw [hns, e 87 (by decide), hld]
  rw [hns, hld, htd, e 92 (by decide), e 95 (by decide), e 96 (by decide)]
  exact ⟨q1, q2, q3⟩
theorem XI.nw {S : zS2} (hX : XI S) : XI (nowF S) := hX.oth (by decide)
theorem RI.nw {S : zS2} (hR : RI S) : RI (nowF S) := hR.now _ 34
theorem tick_qs {S : zS2} {E : Nat} (hE : S 67 34 = nI E) (hE2 : E < 2000) (hX : XI S) (h : QS S) (hd : dueB (nowF S) 5 = false) : setF 6 (nowF S) = (nowF S, 1) := setF_qs hX.nw (h.now hE hE2 hX hd)

