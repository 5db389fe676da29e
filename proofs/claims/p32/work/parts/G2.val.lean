/-! ===== a clean cell that is not held is worth its formula ===== -/
def MK (S : zS2) : Prop := ∀ c, c < 12 → ∀ k, k < cdn S c → (∀ a, a < 12 → cdw S c k = 20000 + a → bt (S 76 c) a = true) ∧ (∀ a, a < 5 → cdw S c k = 21000 + a → bt (S 77 c) a = true) ∧ (∀ a, a < 5 → cdw S c k = 22000 + a → bt (S 78 c) a = true)
def WA12 (S : zS2) : Prop := ∀ c, c < 12 → WFc S c
def VY (S : zS2) (P : Nat → Prop) : Prop := ∀ c, c < 12 → P c → S 80 c = 0 → S 89 c = 0 → S 88 c = worthN S c
theorem evP_cg {S S' : zS2} {w w' : Nat → Nat} : ∀ n, (∀ k, k < n → w' k = w k ∧ (w k < 30000 → opnd S' (w k) = opnd S (w k))) → evP S' w' n = evP S w n := by
  intro n
  induction n with
  | zero => exact fun _ => rfl
  | succ n ih =>
    intro h
    obtain ⟨h1, h2⟩ := h n (by omega)
    simp only [evP]
    rw [ih (fun k hk => h k (by omega)), h1]
    unfold evS
    split
    · rename_i q; rw [h2 q]
    · rfl
theorem opnd_cg {S S' : zS2} {x : Nat} (ht : tokR x) (h1 : ∀ a, a < 12 → x = 20000 + a → S' 88 a = S 88 a) (h2 : ∀ a, a < 5 → x = 21000 + a → S' 90 a = S 90 a) (h3 : ∀ a, a < 5 → x = 22000 + a → S' 96 a = S 96 a) (hx : x < 30000) : opnd S' x = opnd S x := by
  unfold opnd
  unfold tokR at ht
  split
  · rfl
  · split
    · rw [h1 (x - 20000) (by omega) (by omega)]
    · split
      · rw [h2 (x - 21000) (by omega) (by omega)]
      · rw [h3 (x - 22000) (by omega) (by omega)]
theorem worthN_cg {S S' : zS2} {c : Nat} (hw : WFc S c) (e1 : S' 75 c = S 75 c) (e2 : ∀ k, k < 30 → S' 74 (30 * c + k) = S 74 (30 * c + k)) (h : ∀ k, k < cdn S c → (∀ a, a < 12 → cdw S c k = 20000 + a → S' 88 a = S 88 a) ∧ (∀ a, a < 5 → cdw S c k = 21000 + a → S' 90 a = S 90 a) ∧ (∀ a, a < 5 → cdw S c k = 22000 + a → S' 96 a = S 96 a)) : worthN S' c = worthN S c := by
  have en : cdn S' c = cdn S c := by unfold cdn; rw [e1]
  have h30 := hw.1.1
  unfold worthN
  rw [en, evP_cg (S := S) (w := cdw S c) (cdn S c) (fun k hk => ⟨by unfold cdw; rw [e2 k (by omega)], fun hx => ?_⟩)]
  obtain ⟨a1, a2, a3⟩ := h k hk
  exact opnd_cg (hw.1.2.2 k hk).1 a1 a2 a3 hx
theorem MK.same {S S' : zS2} (h : MK S) (e : ∀ b, b ∈ [74, 75, 76, 77, 78] → ∀ j, S' b j = S b j) : MK S' := by
  intro c hc k hk
  have en : cdn S' c = cdn S c := by unfold cdn; rw [e 75 (by decide)]
  have ew : cdw S' c k = cdw S c k := by unfold cdw; rw [e 74 (by decide)]
  rw [en] at hk
  rw [ew, e 76 (by decide), e 77 (by decide), e 78 (by decide)]
  exact h c hc k hk
theorem VY.weak {S : zS2} {P P' : Nat → Prop} (h : VY S P) (hp : ∀ c, c < 12 → P' c → P c) : VY S P' := fun c hc p => h c hc (hp c hc p)
theorem worthN_same {S S' : zS2} {c : Nat} (e : ∀ b, b ∈ [74, 75, 88, 90, 96] → ∀ j, S' b j = S b j) : worthN S' c = worthN S c := by
  have en : cdn S' c = cdn S c := by unfold cdn; rw [e 75 (by decide)]
  have ew : cdw S' c = cdw S c := by funext k; unfold cdw; rw [e 74 (by decide)]
  unfold worthN
  rw [en, ew, evP_ne (e 88 (by decide)) (e 90 (by decide)) (e 96 (by decide))]
/-- rows that formulas don't look at; and dirt that is wiped off cells outside P -/
theorem VY.same {S S' : zS2} {P : Nat → Prop} (h : VY S P) (e : ∀ b, b ∈ [74, 75, 88, 90, 96] → ∀ j, S' b j = S b j) (e2 : ∀ c, c < 12 → P c → (S' 80 c = 0 → S 80 c = 0) ∧ (S' 89 c = 0 → S 89 c = 0)) : VY S' P := by
  intro c hc p h80 h89
  rw [e 88 (by decide), worthN_same e]
  exact h c hc p ((e2 c hc p).1 h80) ((e2 c hc p).2 h89)
theorem soil_clean {S : zS2} {rk w c : Nat} (hc : c < 12) (h80 : S 80 c = 0) (h : soilF S rk w 89 c = 0) : S 89 c = 0 ∧ bt (S rk c) w = false := by
  rw [soilF_at _ _ _ hc, zbi_0, Bool.or_eq_false_iff, Bool.and_eq_false_iff] at h
  obtain ⟨h1, h2⟩ := h
  refine ⟨Classical.not_not.mp (of_decide_eq_false h1), h2.resolve_left (fun z => absurd h80 (of_decide_eq_false z))⟩
theorem VY.val {S : zS2} {P : Nat → Prop} (h : VY S P) (hw : WA12 S) (hm : MK S) (a : Nat) (v : Int32) : VY (soilF (zu S 88 a v) 76 a) (fun c => P c ∧ c ≠ a) := by
  intro c hc hp h80 h89
  obtain ⟨hp, hne⟩ := hp
  rw [soilF_ne _ _ _ (by decide)] at h80
  obtain ⟨s1, s2⟩ := soil_clean hc h80 h89
  rw [zu_ne _ _ _ _ (by decide)] at h80 s1 s2
  rw [soilF_ne _ _ _ (by decide), zu_nj _ _ _ _ _ hne, h c hc hp h80 s1]
  symm
  refine worthN_cg (hw c hc) ?_ (fun k _ => ?_) (fun k hk => ⟨fun b hb e => ?_, fun b _ _ => ?_, fun b _ _ => ?_⟩)
  · rw [soilF_ne _ _ _ (by decide), zu_ne _ _ _ _ (by decide)]
  · rw [soilF_ne _ _ _ (by decide), zu_ne _ _ _ _ (by decide)]
  · rw [soilF_ne _ _ _ (by decide)]
    refine zu_nj _ _ _ _ _ (fun z => ?_)
    have := (hm c hc k hk).1 b hb e
    rw [z, s2] at this
    cases this
  · rw [soilF_ne _ _ _ (by decide), zu_ne _ _ _ _ (by decide)]
  · rw [soilF_ne _ _ _ (by decide), zu_ne _ _ _ _ (by decide)]
theorem VY.become {S : zS2} {P : Nat → Prop} (h : VY S P) (hw : WA12 S) (hm : MK S) (a : Nat) (v : Int32) : VY (becomeF S a v) (fun c => P c ∧ c ≠ a) := by
  unfold becomeF
  split
  · exact h.weak (fun c _ q => q.1)
  · exact h.val hw hm a v
theorem becomeF_val (S : zS2) (a : Nat) (v : Int32) : becomeF S a v 88 a = v := by
  unfold becomeF
  split
  · assumption
  · rw [soilF_ne _ _ _ (by decide), zu_eq]
theorem worth_self {S : zS2} (hw : WA12 S) (hm : MK S) (hD : DepthOK S) {a : Nat} (ha : a < 12) (v : Int32) : worthN (becomeF S a v) a = worthN S a := by
  refine worthN_cg (hw a ha) (becomeF_ne _ _ _ (by decide) (by decide) _) (fun k _ => becomeF_ne _ _ _ (by decide) (by decide) _) (fun k hk => ⟨fun b hb e => ?_, fun b _ _ => becomeF_ne _ _ _ (by decide) (by decide) _, fun b _ _ => becomeF_ne _ _ _ (by decide) (by decide) _⟩)
  have hne : b ≠ a := by
    intro z
    subst z
    exact Int32.lt_irrefl (hD b b ha ha ((hm b ha k hk).1 b ha e))
  unfold becomeF
  split
  · rfl
  · rw [soilF_ne _ _ _ (by decide), zu_nj _ _ _ _ _ hne]
theorem VY.tell {S : zS2} {P : Nat → Prop} (h : VY S P) (hw : WA12 S) (hm : MK S) (a : Nat) (v : Int32) : VY (tellF S a v) P := by
  unfold tellF
  split
  · exact h
  · intro c hc hp h80 h89
    rw [soilF_ne _ _ _ (by decide)] at h80
    obtain ⟨s1, s2⟩ := soil_clean hc h80 h89
    rw [zu_ne _ _ _ _ (by decide)] at h80 s1 s2
    rw [soilF_ne _ _ _ (by decide), zu_ne _ _ _ _ (by decide), h c hc hp h80 s1]
    symm
    refine worthN_cg (hw c hc) ?_ (fun k _ => ?_) (fun k hk => ⟨fun b _ _ => ?_, fun b _ _ => ?_, fun b hb e => ?_⟩)
    · rw [soilF_ne _ _ _ (by decide), zu_ne _ _ _ _ (by decide)]
    · rw [soilF_ne _ _ _ (by decide), zu_ne _ _ _ _ (by decide)]
    · rw [soilF_ne _ _ _ (by decide), zu_ne _ _ _ _ (by decide)]
    · rw [soilF_ne _ _ _ (by decide), zu_ne _ _ _ _ (by decide)]
    · rw [soilF_ne _ _ _ (by decide)]
      refine zu_nj _ _ _ _ _ (fun z => ?_)
      have := (hm c hc k hk).2.2 b hb e
      rw [z, s2] at this
      cases this
theorem VY.read {S : zS2} {P : Nat → Prop} (h : VY S P) (hw : WA12 S) (hm : MK S) (a : Nat) (v : Int32) : VY (readF S a v) P := by
  unfold readF
  have e91 : ∀ (T : zS2) (i : Nat) (x : Int32) b, b ≠ 91 → ∀ j, zu T 91 i x b j = T b j := fun T i x b hb j => zu_ne _ _ _ _ hb j
  split
  · exact h.same (fun b hb j => e91 _ _ _ b (by rintro rfl; exact absurd hb (by decide)) j) (fun c _ _ => ⟨fun z => z, fun z => z⟩)
  · intro c hc hp h80 h89
    rw [soilF_ne _ _ _ (by decide)] at h80
    obtain ⟨s1, s2⟩ := soil_clean hc h80 h89
    rw [zu_ne _ _ _ _ (by decide), zu_ne _ _ _ _ (by decide)] at h80 s1 s2
    rw [soilF_ne _ _ _ (by decide), zu_ne _ _ _ _ (by decide), zu_ne _ _ _ _ (by decide), h c hc hp h80 s1]
    symm
    refine worthN_cg (hw c hc) ?_ (fun k _ => ?_) (fun k hk => ⟨fun b _ _ => ?_, fun b hb e => ?_, fun b _ _ => ?_⟩)
    · rw [soilF_ne _ _ _ (by decide), zu_ne _ _ _ _ (by decide), zu_ne _ _ _ _ (by decide)]
    · rw [soilF_ne _ _ _ (by decide), zu_ne _ _ _ _ (by decide), zu_ne _ _ _ _ (by decide)]
    · rw [soilF_ne _ _ _ (by decide), zu_ne _ _ _ _ (by decide), zu_ne _ _ _ _ (by decide)]
    · rw [soilF_ne _ _ _ (by decide)]
      rw [zu_nj _ _ _ _ _ (fun z => by
        have := (hm c hc k hk).2.1 b hb e
        rw [z, s2] at this
        cases this), zu_ne _ _ _ _ (by decide)]
    · rw [soilF_ne _ _ _ (by decide), zu_ne _ _ _ _ (by decide), zu_ne _ _ _ _ (by decide)]
def VI (S : zS2) : Prop := MK S ∧ VY S (fun _ => True)
theorem VI.same {S S' : zS2} (h : VI S) (e : ∀ b, b ∈ [74, 75, 76, 77, 78, 80, 88, 89, 90, 96] → ∀ j, S' b j = S b j) : VI S' := by
  refine ⟨h.1.same (fun b hb j => e b ?_ j), h.2.same (fun b hb j => e b ?_ j) (fun c _ _ => ⟨fun z => (e 80 (by decide) c).symm.trans z, fun z => (e 89 (by decide) c).symm.trans z⟩)⟩
  · revert b; decide
  · revert b; decide
theorem RI.wa {S : zS2} (h : RI S) : WA12 S := h.1
theorem VI.wk {S : zS2} (h : VI S) (hR : RI S) {c : Nat} (hc : c < 12) : VI (wkS S c) := by
  unfold wkS
  have e0 : ∀ b, b ≠ 89 → b ≠ 67 → ∀ j, zu (zu (zu S 89 c 0) 67 33 (S 67 33 + 1)) 67 44 1 b j = S b j := fun b h1 h2 j => by
    rw [zu_ne _ _ _ _ h2, zu_ne _ _ _ _ h2, zu_ne _ _ _ _ h1]
  have hw1 : worthN (zu (zu S 89 c 0) 67 33 (S 67 33 + 1)) c = worthN (zu (zu (zu S 89 c 0) 67 33 (S 67 33 + 1)) 67 44 1) c := worthN_same (fun b hb j => (zu_ne _ _ _ _ (by rintro rfl; exact absurd hb (by decide)) j).symm)
  have h89 : ∀ d, d ≠ c → zu (zu (zu S 89 c 0) 67 33 (S 67 33 + 1)) 67 44 1 89 d = S 89 d := fun d hd => by
    rw [zu_ne _ _ _ _ (by decide), zu_ne _ _ _ _ (by decide), zu_nj _ _ _ _ _ hd]
  rw [hw1]
  generalize zu (zu (zu S 89 c 0) 67 33 (S 67 33 + 1)) 67 44 1 = T at *
  have hWT : WA12 T := fun d hd => WFc_mv (hR.1 d hd) (e0 74 (by decide) (by decide)) (e0 75 (by decide) (by decide))
  have hMT : MK T := h.1.same (fun b hb j => e0 b (by rintro rfl; exact absurd hb (by decide)) (by rintro rfl; exact absurd hb (by decide)) j)
  have hDT : DepthOK T := fun k j hk hj hb => by
    rw [e0 76 (by decide) (by decide)] at hb
    rw [e0 79 (by decide) (by decide), e0 79 (by decide) (by decide)]
    exact hR.2.1 k j hk hj hb
  have hVT : VY T (fun d => d ≠ c) := VY.same (S := S) (h.2.weak (fun _ _ _ => trivial)) (fun b hb j => e0 b (by rintro rfl; exact absurd hb (by decide)) (by rintro rfl; exact absurd hb (by decide)) j) (fun d _ hd => ⟨fun z => (e0 80 (by decide) (by decide) d).symm.trans z, fun z => (h89 d hd).symm.trans z⟩)
  refine ⟨hMT.same (fun b hb j => becomeF_ne _ _ _ (by rintro rfl; exact absurd hb (by decide)) (by rintro rfl; exact absurd hb (by decide)) j), fun d hd _ h80 h9 => ?_⟩
  by_cases z : d = c
  · subst z
    rw [becomeF_val, worth_self hWT hMT hDT hd]
  · exact hVT.become hWT hMT c _ d hd ⟨z, z⟩ h80 h9
theorem VI.wki : ∀ (n : Nat) {S : zS2}, VI S → RI S → VI (wkI S n) := by
  intro n
  induction n with
  | zero => exact fun h _ => h
  | succ n ih =>
    intro S h hR
    unfold wkI
    split
    · exact h
    · rename_i c hc
      have hR2 : RI (wkS S c) := hR.mv (zsm_v (wkS_sm S c)) (fun k hk h3 => by
        rw [wkS_sm S c 92 k (by decide) (by decide) (by decide)] at h3
        rw [wkS_sm S c 95 k (by decide) (by decide) (by decide), wkS_sm S c 96 k (by decide) (by decide) (by decide)]
        exact hR.2.2.2 k hk h3)
      exact ih (h.wk hR (ndP_lt S 12 c hc)) hR2
theorem rdC_ne (σ : zS2) (k : Nat) {b : Nat} (hb : b ≠ 92 ∧ b ≠ 93 ∧ b ≠ 94 ∧ b ≠ 97) (j : Nat) : rdC σ k b j = σ b j := by
  unfold rdC changeF runF
  repeat' split
  all_goals simp [zu, hb]
theorem VI.rd1 {S : zS2} (h : VI S) (hR : RI S) (k : Nat) : VI (rdS S k) := by
  unfold rdS
  have e : ∀ b, b ∈ [74, 75, 76, 77, 78, 80, 88, 89, 90, 96] → ∀ j, rdL (rdC S k) k b j = S b j := fun b hb j => by
    unfold rdL
    rw [zu_ne _ _ _ _ (by rintro rfl; exact absurd hb (by decide)), rdC_ne _ _ (by refine ⟨?_, ?_, ?_, ?_⟩ <;> (rintro rfl; exact absurd hb (by decide)))]
  generalize rdT (rdL (rdC S k) k) k = v
  generalize rdL (rdC S k) k = T at *
  have hT := h.same e
  have hWT : WA12 T := fun d hd => WFc_mv (hR.1 d hd) (e 74 (by decide)) (e 75 (by decide))
  exact ⟨hT.1.same (fun b hb j => tellF_ne _ _ _ (by rintro rfl; exact absurd hb (by decide)) (by rintro rfl; exact absurd hb (by decide)) j), hT.2.tell hWT hT.1 k v⟩
theorem VI.rd {S : zS2} (h : VI S) (hR : RI S) : ∀ n, n ≤ 5 → VI (rdP S n) := by
  intro n
  induction n with
  | zero => exact fun _ => h
  | succ n ih => exact fun hn => (ih (by omega)).rd1 (hR.rd (by omega)) n
theorem VI.round {S : zS2} (h : VI S) (hR : RI S) : VI (roundF S) := (h.wki 12 hR).rd hR.works 5 (Nat.le_refl 5)
theorem VI.cut {S : zS2} (h : VI S) (hR : RI S) (k : Nat) : VI (cutF S k) := by
  unfold cutF
  have e : ∀ b, b ∈ [74, 75, 76, 77, 78, 80, 88, 89, 90, 96] → ∀ j, zu (zu S 92 k 3) 95 k 0 b j = S b j := fun b hb j => by
    rw [zu_ne _ _ _ _ (by rintro rfl; exact absurd hb (by decide)), zu_ne _ _ _ _ (by rintro rfl; exact absurd hb (by decide))]
  generalize zu (zu S 92 k 3) 95 k 0 = T at *
  have hT := h.same e
  have hWT : WA12 T := fun d hd => WFc_mv (hR.1 d hd) (e 74 (by decide)) (e 75 (by decide))
  exact ⟨hT.1.same (fun b hb j => tellF_ne _ _ _ (by rintro rfl; exact absurd hb (by decide)) (by rintro rfl; exact absurd hb (by decide)) j), hT.2.tell hWT hT.1 k 0⟩
theorem VI.blk : ∀ (r : Nat) {S : zS2} (late : Int32), VI S → RI S → VI (blkF r S late).1 := by
  intro r
  induction r with
  | zero => exact fun _ h _ => h
  | succ r ih =>
    intro S late h hR
    by_cases hm : maskF S = 0
    · rw [blkF_0 late hm]
      dsimp only
      exact h.round hR
    · rw [blkF_1 late hm]
      dsimp only
      exact ih _ (h.round hR) hR.round
theorem VI.set : ∀ (f : Nat) {S : zS2}, VI S → RI S → VI (setF f S).1 := by
  intro f
  induction f with
  | zero => exact fun h _ => h
  | succ f ih =>
    intro S h hR
    obtain ⟨g1, -⟩ := blkF_ok 40 S 0 hR (fun k _ hb => by rw [b_0] at hb; cases hb)
    have h1 := VI.blk 40 0 h hR
    rw [setF]
    split
    · exact h1
    · dsimp only
      exact ih (h1.cut g1 _) (g1.cut _)
