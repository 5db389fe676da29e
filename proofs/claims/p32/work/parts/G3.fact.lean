/-! ===== what holds of every state that calls can reach ===== -/
theorem clamp_nI {x : Int32} {m : Nat} (h : x.toNatClampNeg = m) (hm : 0 < m) : x = nI m := by
  by_cases q : x < 0
  · have : x.toNatClampNeg = 0 := by
      rw [Int32.lt_iff_toInt_lt] at q
      have h0 : (0 : Int32).toInt = 0 := by decide
      unfold Int32.toNatClampNeg
      omega
    omega
  · obtain ⟨j, hj, rfl⟩ := nI_of q
    rw [nI_clamp (by omega)] at h
    rw [h]
theorem maskP_bt (S : zS2) (st lo hi a : Nat) (ha : a < 32) (h1 : lo + a ≤ hi) (h2 : hi < 100000) : ∀ n k, k < n → S 103 (30 * st + k) = nI (lo + a) → bt (maskP S st (nI lo) (nI hi) n) a = true := by
  intro n
  induction n with
  | zero => intro k hk _; omega
  | succ n ih =>
    intro k hk e
    rw [maskP, b_or, Bool.or_eq_true]
    by_cases q : k = n
    · right
      subst q
      rw [e, if_pos ⟨nI_le (by omega) (by omega), nI_le h1 (by omega)⟩, nI_sub (by omega), show lo + a - lo = a by omega, b_one a ha ha]
      exact decide_eq_true rfl
    · exact Or.inl (ih k (by omega) e)
theorem giveF_row (S : zS2) (c st n : Nat) {b : Nat} (h1 : b ≠ 79) (h2 : b ≠ 89) (j : Nat) : giveF S c st n b j = gvP S c st n b j := by
  unfold giveF
  rw [zu_ne _ _ _ _ h2, dpR_ne _ _ h1]
  simp [dzP, h1]
theorem giveF_89 (S : zS2) (c st n j : Nat) : giveF S c st n 89 j = if j = c then (if S 80 c = 0 then 1 else 0) else S 89 j := by
  have e : ∀ b, b ≠ 79 → (b = 80 ∨ b = 89) → ∀ i, dpR (dzP (gvP S c st n) 12) 12 b i = S b i := fun b hb hb2 i => by
    rw [dpR_ne _ _ hb]
    rcases hb2 with rfl | rfl <;> simp [dzP, gvP]
  unfold giveF
  by_cases q : j = c
  · rw [q, zu_eq, if_pos rfl, e 80 (by decide) (Or.inl rfl)]
  · rw [zu_nj _ _ _ _ _ q, if_neg q, e 89 (by decide) (Or.inr rfl)]
theorem gv_74 (S : zS2) {c st n d k : Nat} (hn : n ≤ 30) (hk : k < 30) : gvP S c st n 74 (30 * d + k) = if d = c ∧ k < n then S 103 (30 * st + k) else S 74 (30 * d + k) := by
  by_cases q : d = c
  · subst q
    by_cases q2 : k < n
    · have z : 30 * d ≤ 30 * d + k ∧ 30 * d + k < 30 * d + n := ⟨by omega, by omega⟩
      simp only [gvP, z, q2, and_self, if_true]
      rw [show 30 * d + k - 30 * d = k by omega]
    · have z : ¬ (30 * d ≤ 30 * d + k ∧ 30 * d + k < 30 * d + n) := by omega
      simp [gvP, z, q2]
  · have z : ¬ (30 * c ≤ 30 * d + k ∧ 30 * d + k < 30 * c + n) := by omega
    simp [gvP, z, q]
theorem VI.give {S : zS2} (h : VI S) (hR : RI S) {c st : Nat} (h30 : stN S st ≤ 30) : VI (giveF S c st (stN S st)) := by
  have r := fun (b : Nat) (h1 : b ≠ 79) (h2 : b ≠ 89) (j : Nat) => giveF_row S c st (stN S st) h1 h2 j
  have r9 := giveF_89 S c st (stN S st)
  generalize giveF S c st (stN S st) = T at *
  have rv : ∀ b, b ≠ 79 → b ≠ 89 → b ≠ 74 → b ≠ 75 → b ≠ 76 → b ≠ 77 → b ≠ 78 → ∀ j, T b j = S b j := fun b h1 h2 h3 h4 h5 h6 h7 j => by
    rw [r b h1 h2, gvP_ne _ _ _ _ _ h3 h4 h5 h6 h7]
  have rd : ∀ b, b = 75 ∨ b = 76 ∨ b = 77 ∨ b = 78 → ∀ j, j ≠ c → T b j = S b j := fun b hb j hj => by
    rw [r b (by omega) (by omega)]
    rcases hb with rfl | rfl | rfl | rfl <;> simp [gvP, hj]
  refine ⟨fun d hd k hk => ?_, fun d hd _ h80 h89 => ?_⟩
  · by_cases q : d = c
    · subst q
      have en : cdn T d = stN S st := by
        unfold cdn stN
        rw [r 75 (by decide) (by decide)]
        simp [gvP]
      rw [en] at hk
      have ew : cdw T d k = (S 103 (30 * st + k)).toNatClampNeg := by
        unfold cdw
        rw [r 74 (by decide) (by decide), gv_74 S h30 (by omega), if_pos ⟨rfl, hk⟩]
      rw [ew, r 76 (by decide) (by decide), r 77 (by decide) (by decide), r 78 (by decide) (by decide)]
      have g6 : gvP S d st (stN S st) 76 d = maskP S st 20000 20999 (stN S st) := by simp [gvP]
      have g7 : gvP S d st (stN S st) 77 d = maskP S st 21000 21999 (stN S st) := by simp [gvP]
      have g8 : gvP S d st (stN S st) 78 d = maskP S st 22000 29999 (stN S st) := by simp [gvP]
      rw [g6, g7, g8]
      exact ⟨fun a ha e => maskP_bt S st 20000 20999 a (by omega) (by omega) (by decide) _ k hk (clamp_nI e (by omega)), fun a ha e => maskP_bt S st 21000 21999 a (by omega) (by omega) (by decide) _ k hk (clamp_nI e (by omega)), fun a ha e => maskP_bt S st 22000 29999 a (by omega) (by omega) (by decide) _ k hk (clamp_nI e (by omega))⟩
    · have en : cdn T d = cdn S d := by unfold cdn; rw [rd 75 (by decide) d q]
      rw [en] at hk
      have hd30 := (hR.1 d hd).1.1
      have ew : cdw T d k = cdw S d k := by
        unfold cdw
        rw [r 74 (by decide) (by decide), gv_74 S h30 (by omega), if_neg (fun z => q z.1)]
      rw [ew, rd 76 (by decide) d q, rd 77 (by decide) d q, rd 78 (by decide) d q]
      exact h.1 d hd k hk
  · rw [rv 80 (by decide) (by decide) (by decide) (by decide) (by decide) (by decide) (by decide)] at h80
    rw [r9] at h89
    by_cases q : d = c
    · subst q
      rw [if_pos rfl, if_pos h80] at h89
      exact absurd h89 (by decide)
    · rw [if_neg q] at h89
      rw [rv 88 (by decide) (by decide) (by decide) (by decide) (by decide) (by decide) (by decide), h.2 d hd trivial h80 h89]
      symm
      refine worthN_cg (hR.1 d hd) (rd 75 (by decide) d q) (fun k hk => ?_) (fun k hk => ⟨fun b _ _ => ?_, fun b _ _ => ?_, fun b _ _ => ?_⟩)
      · rw [r 74 (by decide) (by decide), gv_74 S h30 hk, if_neg (fun z => q z.1)]
      · exact rv 88 (by decide) (by decide) (by decide) (by decide) (by decide) (by decide) (by decide) b
      · exact rv 90 (by decide) (by decide) (by decide) (by decide) (by decide) (by decide) (by decide) b
      · exact rv 96 (by decide) (by decide) (by decide) (by decide) (by decide) (by decide) (by decide) b
theorem VI.hold {S : zS2} (h : VI S) (hR : RI S) {c : Nat} (v : Int32) : VI (becomeF (zu (zu (zu S 80 c 1) 81 c v) 89 c 0) c v) := by
  have e : ∀ b, b ≠ 80 → b ≠ 81 → b ≠ 89 → ∀ j, zu (zu (zu S 80 c 1) 81 c v) 89 c 0 b j = S b j := fun b h1 h2 h3 j => by
    rw [zu_ne _ _ _ _ h3, zu_ne _ _ _ _ h2, zu_ne _ _ _ _ h1]
  have e80 : ∀ d, d ≠ c → zu (zu (zu S 80 c 1) 81 c v) 89 c 0 80 d = S 80 d := fun d hd => by
    rw [zu_ne _ _ _ _ (by decide), zu_ne _ _ _ _ (by decide), zu_nj _ _ _ _ _ hd]
  have e89 : ∀ d, d ≠ c → zu (zu (zu S 80 c 1) 81 c v) 89 c 0 89 d = S 89 d := fun d hd => by
    rw [zu_nj _ _ _ _ _ hd, zu_ne _ _ _ _ (by decide), zu_ne _ _ _ _ (by decide)]
  have c80 : zu (zu (zu S 80 c 1) 81 c v) 89 c 0 80 c = 1 := by
    rw [zu_ne _ _ _ _ (by decide), zu_ne _ _ _ _ (by decide), zu_eq]
  generalize zu (zu (zu S 80 c 1) 81 c v) 89 c 0 = T at *
  have hWT : WA12 T := fun d hd => WFc_mv (hR.1 d hd) (e 74 (by decide) (by decide) (by decide)) (e 75 (by decide) (by decide) (by decide))
  have hMT : MK T := h.1.same (fun b hb j => e b (by rintro rfl; exact absurd hb (by decide)) (by rintro rfl; exact absurd hb (by decide)) (by rintro rfl; exact absurd hb (by decide)) j)
  have hVT : VY T (fun d => d ≠ c) := VY.same (S := S) (h.2.weak (fun _ _ _ => trivial)) (fun b hb j => e b (by rintro rfl; exact absurd hb (by decide)) (by rintro rfl; exact absurd hb (by decide)) (by rintro rfl; exact absurd hb (by decide)) j) (fun d _ hd => ⟨fun z => (e80 d hd).symm.trans z, fun z => (e89 d hd).symm.trans z⟩)
  refine ⟨hMT.same (fun b hb j => becomeF_ne _ _ _ (by rintro rfl; exact absurd hb (by decide)) (by rintro rfl; exact absurd hb (by decide)) j), fun d hd _ h80 h9 => ?_⟩
  by_cases z : d = c
  · subst z
    rw [becomeF_ne _ _ _ (by decide) (by decide), c80] at h80
    exact absurd h80 (by decide)
  · exact hVT.become hWT hMT c _ d hd ⟨z, z⟩ h80 h9
theorem VI.release {S : zS2} (h : VI S) {c : Nat} : VI (zu (zu S 80 c 0) 89 c 1) := by
  have e : ∀ b, b ≠ 80 → b ≠ 89 → ∀ j, zu (zu S 80 c 0) 89 c 1 b j = S b j := fun b h1 h3 j => by
    rw [zu_ne _ _ _ _ h3, zu_ne _ _ _ _ h1]
  refine ⟨h.1.same (fun b hb j => e b (by rintro rfl; exact absurd hb (by decide)) (by rintro rfl; exact absurd hb (by decide)) j), fun d hd _ h80 h9 => ?_⟩
  by_cases z : d = c
  · subst z
    rw [zu_eq] at h9
    exact absurd h9 (by decide)
  · rw [zu_ne _ _ _ _ (by decide), zu_nj _ _ _ _ _ z] at h80
    rw [zu_nj _ _ _ _ _ z, zu_ne _ _ _ _ (by decide)] at h9
    rw [e 88 (by decide) (by decide), worthN_same (S := S) (fun b hb j => e b (by rintro rfl; exact absurd hb (by decide)) (by rintro rfl; exact absurd hb (by decide)) j)]
    exact h.2 d hd trivial h80 h9
theorem VI.setS {S : zS2} (h : VI S) (s st : Nat) : VI (setSF S s st) := by
  refine h.same (fun b hb j => ?_)
  have h' : b ≠ 82 ∧ b ≠ 83 ∧ b ≠ 84 ∧ b ≠ 85 ∧ b ≠ 86 ∧ b ≠ 87 ∧ b ≠ 92 := by
    refine ⟨?_, ?_, ?_, ?_, ?_, ?_, ?_⟩ <;> (rintro rfl; exact absurd hb (by decide))
  unfold setSF
  split <;> simp [zu, h']
theorem VI.chg {S : zS2} (h : VI S) (hR : RI S) {st : Nat} (hv : stepV S st) (h10 : S 98 st ≠ 10) : VI (chgF S st) := by
  obtain ⟨k, k1, k2, k3, k4, k5, k6⟩ := stepV_kind hv
  have hk9 : k ≤ 9 := by
    rcases Nat.lt_or_ge k 10 with z | z
    · omega
    · have : k = 10 := by omega
      subst this
      exact absurd k2 (fun z => h10 z)
  rw [chgF_kd hk9 k2]
  split
  · rename_i q2
    unfold setCF
    split
    · rename_i q0
      have k0 : k = 0 := (nI_eq (b := 0) (by omega) (by decide)).mp (k2.symm.trans q0)
      exact h.give hR ((k4 q2).2 k0)
    · split
      · exact h.hold hR _
      · exact h.release
  · split
    · exact ⟨h.1.same (fun b hb j => readF_ne _ _ _ (by refine ⟨?_, ?_, ?_⟩ <;> (rintro rfl; exact absurd hb (by decide))) j), h.2.read hR.1 h.1 _ _⟩
    · exact h.setS _ _
theorem VI.tick {S : zS2} (h : VI S) (hR : RI S) : ∀ n, VI (tickF S n).1 := by
  intro n
  induction n with
  | zero => exact h
  | succ n ih =>
    have h1 : VI (nowF (tickF S n).1) := ih.same (fun b hb j => zu_ne _ _ _ _ (by rintro rfl; exact absurd hb (by decide)) j)
    have h2 : RI (nowF (tickF S n).1) := (tickF_ok hR n).now _ _
    rw [tickF]
    dsimp only
    exact h1.set 6 h2
theorem VI.do {S : zS2} (h : VI S) (hR : RI S) {st : Nat} (hv : stepV S st) (hc : S 98 st ≠ 10 → RI (chgF S st)) : VI (doF S st).1 := by
  unfold doF
  split
  · exact h.tick hR _
  · rename_i q
    exact (h.chg hR hv q).set 6 (hc q)
theorem VI_begin (S : zS2) : VI (beginF S) := by
  obtain ⟨b1, -, -, -⟩ := beginF_v S
  have hn : ∀ c, c < 12 → cdn (beginF S) c = 1 ∧ cdw (beginF S) c 0 = 0 := fun c hc => by
    obtain ⟨-, -, -, -, a, -, -, -, b⟩ := b1 c hc
    unfold cdn cdw
    rw [a, b]
    exact ⟨rfl, rfl⟩
  refine ⟨fun c hc k hk => ?_, fun c hc _ _ _ => ?_⟩
  · obtain ⟨h1, h2⟩ := hn c hc
    have : k = 0 := by omega
    subst this
    rw [h2]
    exact ⟨fun a _ e => by omega, fun a _ e => by omega, fun a _ e => by omega⟩
  · obtain ⟨h1, h2⟩ := hn c hc
    rw [(b1 c hc).1]
    unfold worthN
    rw [h1]
    simp only [evP, evS, h2]
    rfl
