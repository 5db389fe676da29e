/-! ===== what holds of every state told anew ===== -/
theorem XI_zq {n : Nat} {S S' : zS2} (h : XI S) (q : zq n S S') : XI S' := by
  obtain ⟨q1, q2, q3, q4, q5, _⟩ := q
  obtain ⟨h1, h2, h3, h4, h5⟩ := h
  refine ⟨fun c hc => ?_, fun c hc => ?_, fun c hc hh => ?_, fun r hr => ?_, fun s hs => ?_⟩
  · rw [q1 88 (by decide)]; exact h1 c hc
  · rw [q1 80 (by decide)]; exact h2 c hc
  · rw [q1 80 (by decide)] at hh
    rw [q5 c hc hh, q1 88 (by decide), q1 89 (by decide)]; exact h3 c hc hh
  · rw [q1 90 (by decide), q1 91 (by decide)]; exact h4 r hr
  · rw [q1 96 (by decide), q1 85 (by decide), q1 87 (by decide), q1 92 (by decide)]; exact h5 s hs
theorem RI_zq {n : Nat} {S S' : zS2} (h : RI S) (q : zq n S S') : RI S' := RI_q q h
theorem KI_zq {n : Nat} {S S' : zS2} (h : KI S) (q : zq n S S') : KI S' := ⟨RI_zq h.1 q, XI_zq h.2.1 q, h.2.2.mv (fun j => q.1 76 (by decide) j) (fun j => q.1 79 (by decide) j)⟩
theorem QS_zq {n : Nat} {S S' : zS2} (hk : KI S) (h : QS S) (q : zq n S S') : QS S' := by
  have hd : ∀ y, y < 12 → S' 89 y = 0 := fun y hy => by rw [q.1 89 (by decide)]; exact h.1 y hy
  have hX := XI_zq hk.2.1 q
  have hm : maskF S' = 0 := by rw [maskF_q q]; exact (h.mask hk.2.1).1
  have e : worksF S' = S' := wkI_none (ndP_of0 hd) 12
  have h2 : rdM S' 5 = 0 := by
    have : rdM (worksF S') 5 = 0 := hm
    rw [e] at this
    exact this
  exact ⟨hd, (rdM_0 hX 5 (Nat.le_refl 5) h2).2⟩
theorem beginF_XI (S : zS2) : XI (beginF S) := by
  obtain ⟨b1, b2, b3, b4⟩ := beginF_v S
  refine ⟨fun c hc => ?_, fun c hc => ?_, fun c hc hh => ?_, fun r hr => ?_, fun s hs => ?_⟩
  · rw [(b1 c hc).1]; decide
  · exact Or.inl (b1 c hc).2.2.1
  · exact absurd (b1 c hc).2.2.1 hh
  · rw [(b2 r hr).1, (b2 r hr).2.1]; exact ⟨by decide, Or.inl rfl⟩
  · obtain ⟨_, _, a, _, _, _, b, _, d, _, e, _⟩ := b2 s hs
    rw [a, b, d, e]
    exact ⟨by decide, by decide, Or.inl rfl, Or.inl rfl⟩
theorem beginF_QS (S : zS2) : QS (beginF S) := by
  obtain ⟨b1, b2, b3, b4⟩ := beginF_v S
  refine ⟨fun y hy => (b1 y hy).2.1, fun k hk => ?_⟩
  obtain ⟨_, _, a, c, _, _, _, _, d, l, e, _⟩ := b2 k hk
  have hw : wantP (beginF S) k 5 = false := by simp [wantP, c]
  have hn : nsN (beginF S) k = 0 := by
    unfold nsN
    rw [a, if_neg (by decide), if_pos hw]
  have hl : ldN (beginF S) k = 0 := by unfold ldN; rw [hn, if_neg (by decide)]
  refine ⟨by rw [hn, a], by rw [hl, l], ?_⟩
  unfold tdN
  rw [hn, if_neg (fun q => absurd q.1 (by decide)), hl, e]
theorem zkf_s7 {S S' : zS2} (h : zkf S S') {b : Nat} (hb : b ∈ [98, 99, 100, 101, 102, 103, 104]) (j : Nat) : S' b j = S b j := h b j (by
  simp only [List.mem_cons, List.not_mem_nil, or_false] at hb
  unfold zkp; omega)
theorem stepV_zkf {S S' : zS2} (h : zkf S S') {k : Nat} (hv : stepV S k) : stepV S' k := by
  have e1 : stC S' k = stC S k := by unfold stC; rw [zkf_s7 h (by decide)]
  have e2 : stN S' k = stN S k := by unfold stN; rw [zkf_s7 h (by decide)]
  unfold stepV
  rw [e1, e2, zkf_s7 h (by decide : 98 ∈ _), zkf_s7 h (by decide : 99 ∈ _), zkf_s7 h (by decide : 104 ∈ _)]
  exact hv
theorem stX_zkf {S S' : zS2} (h : zkf S S') {k : Nat} (hv : stX S k) : stX S' k := by
  unfold stX
  rw [zkf_s7 h (by decide : 98 ∈ _), zkf_s7 h (by decide : 100 ∈ _), zkf_s7 h (by decide : 101 ∈ _)]
  exact hv
/-- the steps of a state are good ones -/
def CV (n : Nat) (S : zS2) : Prop := RV n S ∧ RT n S ∧ ∀ k, k < n → stX S k
/-- what is needed to tell them anew -/
def CR (n : Nat) (S : zS2) : Prop := (∀ k, k < n → stepV S k) ∧ (∀ k, k < n → stX S k) ∧ (∀ k, k ≤ n → RI (rpF S k)) ∧ (∀ k, k < n → S 98 k ≠ 10 → RI (chgF (rpF S k) k)) ∧ ∀ k, k ≤ n → ∃ E, E ≤ 2000 ∧ rpF S k 67 34 = nI E
theorem CV.cr {n : Nat} {S : zS2} (h : CV n S) : CR n S := ⟨h.1.2.2.1, h.2.2, h.1.2.2.2.1, h.1.2.2.2.2.1, h.2.1⟩
theorem nI_ge0 {E : Nat} (h : E ≤ 2000) : (0 : Int32) ≤ nI E := nI_le (a := 0) (b := E) (Nat.zero_le _) (by omega)
theorem CR.step {n : Nat} {S : zS2} (h : CR n S) {k : Nat} (hk : k < n) : stepV (rpF S k) k ∧ stX (rpF S k) k ∧ (rpF S k 98 k ≠ 10 → RI (chgF (rpF S k) k)) ∧ ∃ E, rpF S k 67 34 = nI E ∧ E ≤ 2000 ∧ (rpF S k 98 k = 10 → E + stC (rpF S k) k ≤ 2000) := by
  obtain ⟨h1, h2, h3, h4, h5⟩ := h
  have z := rpF_k S k
  refine ⟨stepV_zkf z (h1 k hk), stX_zkf z (h2 k hk), fun q => h4 k hk (by rw [zkf_s7 z (by decide)] at q; exact q), ?_⟩
  obtain ⟨E, e1, e2⟩ := h5 k (by omega)
  obtain ⟨E', e3, e4⟩ := h5 (k + 1) (by omega)
  refine ⟨E, e2, e1, fun q => ?_⟩
  have e5 : rpF S (k + 1) 67 34 = nI (E + stC (rpF S k) k) := by
    show (doF (rpF S k) k).1 67 34 = _
    rw [doF_now _ e2, if_pos q]
  have hc : stC (rpF S k) k ≤ 50 := by
    obtain ⟨kd, g1, g2, g3, g4, g5, g6⟩ := stepV_kind (stepV_zkf z (h1 k hk))
    exact g6 ((nI_10 g1 (j := 10) (Nat.le_refl 10) g2).mp (q.trans (by rfl)))
  rw [e5] at e4
  have := (nI_eq (by omega) (by omega)).mp e4
  omega
theorem KI_do {S : zS2} {k : Nat} (hK : KI S) (hQ : QS S) (hv : stepV S k) (hx : stX S k) (hR : S 98 k ≠ 10 → RI (chgF S k)) (hn : 0 ≤ S 67 34) : KI (doF S k).1 ∧ QS (doF S k).1 := by
  unfold doF
  by_cases q : S 98 k = 10
  · rw [if_pos q]; exact ⟨hK.tick _, hQ.tick hK _⟩
  · rw [if_neg q]
    have hX := hK.2.1.chg hv hx hn q
    exact ⟨KI.set ⟨hR q, hX, hK.2.2.chg hv (hR q) q⟩ 6, QS.set (hR q) hX⟩
theorem CR.kq {n : Nat} {S : zS2} (h : CR n S) : ∀ k, k ≤ n → KI (rpF S k) ∧ QS (rpF S k) := by
  intro k
  induction k with
  | zero => exact fun _ => ⟨⟨h.2.2.1 0 (Nat.zero_le _), beginF_XI S, beginF_DX S⟩, beginF_QS S⟩
  | succ k ih =>
    intro hk
    obtain ⟨a, b⟩ := ih (by omega)
    obtain ⟨g1, g2, g3, E, g4, g5, g6⟩ := h.step (show k < n by omega)
    exact KI_do a b g1 g2 g3 (by rw [g4]; exact nI_ge0 g5)
theorem CV.kq {n : Nat} {S : zS2} (h : CV n S) : KI S ∧ QS S := by
  obtain ⟨a, b⟩ := h.cr.kq n (Nat.le_refl n)
  have q := h.1.2.2.2.2.2
  exact ⟨KI_zq a q, QS_zq a b q⟩
theorem CV.now {n : Nat} {S : zS2} (h : CV n S) : ∃ E, E ≤ 2000 ∧ S 67 34 = nI E := by
  obtain ⟨E, e1, e2⟩ := h.2.1 n (Nat.le_refl n)
  exact ⟨E, e1, (h.1.2.2.2.2.2).2.2.1.trans e2⟩
theorem clearF_XI {S : zS2} (h : XI S) : XI (clearF S) := by
  obtain ⟨v1, v2, v3, v4⟩ := clearF_v S
  have e : ∀ b, b ∉ [88, 89, 90, 91, 92, 95, 96, 97, 67] → ∀ j, clearF S b j = S b j := fun b hb j => clearF_at S hb j
  obtain ⟨h1, h2, h3, h4, h5⟩ := h
  refine ⟨fun c hc => ?_, fun c hc => ?_, fun c hc hh => ?_, fun r hr => ?_, fun s hs => ?_⟩
  · rw [(v1 c hc).1]
    split
    · decide
    · rename_i q; rw [(h3 c hc q).1]; exact h1 c hc
  · rw [e 80 (by decide)]; exact h2 c hc
  · rw [e 80 (by decide)] at hh
    rw [e 81 (by decide), (v1 c hc).1, (v1 c hc).2, if_neg hh, if_neg hh]; exact ⟨rfl, rfl⟩
  · rw [(v2 r hr).1, (v2 r hr).2.1]; exact ⟨by decide, Or.inl rfl⟩
  · rw [(v2 s hs).2.2.2.2.1, e 85 (by decide), e 87 (by decide), (v2 s hs).2.2.1]
    exact ⟨by decide, (h5 s hs).2.1, (h5 s hs).2.2.1, Or.inl rfl⟩
theorem KI.clear {S : zS2} (h : KI S) : KI (clearF S) := ⟨h.1.clear, clearF_XI h.2.1, h.2.2.mv (fun j => clearF_at S (by decide) j) (fun j => clearF_at S (by decide) j)⟩
theorem KI.at67 {S : zS2} (h : KI S) (i : Nat) (v : Int32) : KI (zu S 67 i v) := ⟨h.1.now v i, h.2.1.oth (by decide), h.2.2.mv (fun j => zu_ne _ _ _ _ (by decide) j) (fun j => zu_ne _ _ _ _ (by decide) j)⟩
theorem KI.read {S : zS2} (h : KI S) {w : Nat} {v : Int32} (hv : vb v) (hn : 0 ≤ S 67 34) : KI (readF S w v) := ⟨h.1.read w v, h.2.1.read hv hn, h.2.2.mv (fun j => by
  unfold readF
  split
  · exact zu_ne _ _ _ _ (by decide) j
  · rw [soilF_ne _ _ _ (by decide), zu_ne _ _ _ _ (by decide), zu_ne _ _ _ _ (by decide)]) (fun j => by
  unfold readF
  split
  · exact zu_ne _ _ _ _ (by decide) j
  · rw [soilF_ne _ _ _ (by decide), zu_ne _ _ _ _ (by decide), zu_ne _ _ _ _ (by decide)])⟩
theorem raF_kq {S : zS2} (hK : KI S) (hQ : QS S) {n : Nat} (hx : ∀ k, k < n → stX S k) (hn : 0 ≤ S 67 34) : ∀ k, k ≤ n → KI (raF S k) ∧ QS (raF S k) := by
  intro k
  induction k with
  | zero => exact fun _ => ⟨hK, hQ⟩
  | succ k ih =>
    intro hk
    obtain ⟨a, b⟩ := ih (by omega)
    rw [raF]
    split
    · rename_i q
      have hv := (stX_zkf (raF_k S k) (hx k (by omega))).1 (Or.inr q.1)
      have := a.read (w := stC (raF S k) k) hv (by rw [raF_now]; exact hn)
      exact ⟨this.set 6, QS.set this.1 this.2.1⟩
    · exact ⟨a, b⟩

