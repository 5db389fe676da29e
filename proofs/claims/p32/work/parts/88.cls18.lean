theorem XI.read {S : zS2} (h : XI S) {w : Nat} {v : Int32} (hv : vb v) (hn : 0 ≤ S 67 34) : XI (readF S w v) := by
  have h1 : XI (zu S 91 w (S 67 34)) := by
    obtain ⟨h1, h2, h3, h4, h5⟩ := h
    refine ⟨fun d hd => ?_, fun d hd => ?_, fun d hd q => ?_, fun r hr => ?_, fun k hk => ?_⟩
    · rw [zu_ne _ _ _ _ (by decide)]; exact h1 d hd
    · rw [zu_ne _ _ _ _ (by decide)]; exact h2 d hd
    · rw [zu_ne _ _ _ _ (by decide)] at q
      rw [zu_ne _ _ _ _ (by decide), zu_ne _ _ _ _ (by decide), zu_ne _ _ _ _ (by decide)]; exact h3 d hd q
    · rw [zu_ne _ _ _ _ (by decide : 90 ≠ 91)]
      refine ⟨(h4 r hr).1, ?_⟩
      by_cases e : r = w
      · subst e; rw [zu_eq]; exact Or.inr hn
      · rw [zu_n _ _ _ _ (by omega)]; exact (h4 r hr).2
    · rw [zu_ne _ _ _ _ (by decide), zu_ne _ _ _ _ (by decide), zu_ne _ _ _ _ (by decide), zu_ne _ _ _ _ (by decide)]; exact h5 k hk
  unfold readF
  split
  · exact h1
  · refine XI.soil ?_ _ _
    obtain ⟨h1, h2, h3, h4, h5⟩ := h1
    refine ⟨fun d hd => ?_, fun d hd => ?_, fun d hd q => ?_, fun r hr => ?_, fun k hk => ?_⟩
    · rw [zu_ne _ _ _ _ (by decide)]; exact h1 d hd
    · rw [zu_ne _ _ _ _ (by decide)]; exact h2 d hd
    · rw [zu_ne _ _ _ _ (by decide)] at q
      rw [zu_ne _ _ _ _ (by decide), zu_ne _ _ _ _ (by decide), zu_ne _ _ _ _ (by decide)]; exact h3 d hd q
    · rw [zu_ne _ _ _ _ (by decide : 91 ≠ 90)]
      refine ⟨?_, (h4 r hr).2⟩
      by_cases e : r = w
      · subst e; rw [zu_eq]; exact hv
      · rw [zu_n _ _ _ _ (by omega)]; exact (h4 r hr).1
    · rw [zu_ne _ _ _ _ (by decide), zu_ne _ _ _ _ (by decide), zu_ne _ _ _ _ (by decide), zu_ne _ _ _ _ (by decide)]; exact h5 k hk
theorem XI.hold {S : zS2} (h : XI S) {c : Nat} {v : Int32} (hv : vb v) : XI (becomeF (zu (zu (zu S 80 c 1) 81 c v) 89 c 0) c v) := by
  have key : ∀ T : zS2, (∀ b, b ≠ 88 → ∀ j, T b j = zu (zu (zu S 80 c 1) 81 c v) 89 c 0 b j) → (∀ j, T 88 j = if j = c then v else S 88 j) → XI T := by
    intro T e1 e2
    obtain ⟨h1, h2, h3, h4, h5⟩ := h
    refine ⟨fun d hd => ?_, fun d hd => ?_, fun d hd q => ?_, fun r hr => ?_, fun k hk => ?_⟩
    · rw [e2]
      split
      · exact hv
      · exact h1 d hd
    · rw [e1 80 (by decide), zu_ne _ _ _ _ (by decide), zu_ne _ _ _ _ (by decide)]
      by_cases e : d = c
      · subst e; rw [zu_eq]; exact Or.inr rfl
      · rw [zu_n _ _ _ _ (by omega)]; exact h2 d hd
    · rw [e1 80 (by decide), zu_ne _ _ _ _ (by decide), zu_ne _ _ _ _ (by decide)] at q
      rw [e1 81 (by decide), zu_ne _ _ _ _ (by decide), e2, e1 89 (by decide)]
      by_cases e : d = c
      · subst e; rw [zu_eq, zu_eq, if_pos rfl]; exact ⟨rfl, rfl⟩
      · rw [zu_n _ _ _ _ (by omega)] at q
        rw [zu_n _ _ _ _ (by omega), zu_ne _ _ _ _ (by decide), if_neg e, zu_n _ _ _ _ (by omega), zu_ne _ _ _ _ (by decide), zu_ne _ _ _ _ (by decide)]; exact h3 d hd q
    · rw [e1 90 (by decide), e1 91 (by decide), zu_ne _ _ _ _ (by decide), zu_ne _ _ _ _ (by decide), zu_ne _ _ _ _ (by decide), zu_ne _ _ _ _ (by decide), zu_ne _ _ _ _ (by decide), zu_ne _ _ _ _ (by decide)]; exact h4 r hr
    · have z : ∀ b, b = 96 ∨ b = 85 ∨ b = 87 ∨ b = 92 → T b k = S b k := fun b hb => by rw [e1 b (by omega), zu_ne _ _ _ _ (by omega), zu_ne _ _ _ _ (by omega), zu_ne _ _ _ _ (by omega)]
      rw [z 96 (by omega), z 85 (by omega), z 87 (by omega), z 92 (by omega)]; exact h5 k hk
  unfold becomeF
  split
  · rename_i q
    refine key _ (fun _ _ _ => rfl) (fun j => ?_)
    rw [zu_ne _ _ _ _ (by decide), zu_ne _ _ _ _ (by decide), zu_ne _ _ _ _ (by decide)] at q ⊢
    split
    · rename_i e; rw [e]; exact q
    · rfl
  · refine XI.soil (key _ (fun b hb j => zu_ne _ _ _ _ hb j) (fun j => ?_)) _ _
    by_cases e : j = c
    · subst e; rw [zu_eq, if_pos rfl]
    · rw [zu_n _ _ _ _ (by omega), if_neg e, zu_ne _ _ _ _ (by decide), zu_ne _ _ _ _ (by decide), zu_ne _ _ _ _ (by decide)]
theorem XI.release {S : zS2} (h : XI S) {c : Nat} : XI (zu (zu S 80 c 0) 89 c 1) := by
  obtain ⟨h1, h2, h3, h4, h5⟩ := h
  refine ⟨fun d hd => ?_, fun d hd => ?_, fun d hd q => ?_, fun r hr => ?_, fun k hk => ?_⟩
  · rw [zu_ne _ _ _ _ (by decide), zu_ne _ _ _ _ (by decide)]; exact h1 d hd
  · rw [zu_ne _ _ _ _ (by decide)]
    by_cases e : d = c
    · subst e; rw [zu_eq]; exact Or.inl rfl
    · rw [zu_n _ _ _ _ (by omega)]; exact h2 d hd
  · rw [zu_ne _ _ _ _ (by decide)] at q
    by_cases e : d = c
    · subst e; rw [zu_eq] at q; exact absurd rfl q
    · rw [zu_n _ _ _ _ (by omega)] at q
      rw [zu_ne _ _ _ _ (by decide), zu_ne _ _ _ _ (by decide), zu_ne _ _ _ _ (by decide), zu_ne _ _ _ _ (by decide), zu_n _ _ _ _ (by omega), zu_ne _ _ _ _ (by decide)]; exact h3 d hd q
  · rw [zu_ne _ _ _ _ (by decide), zu_ne _ _ _ _ (by decide), zu_ne _ _ _ _ (by decide), zu_ne _ _ _ _ (by decide)]; exact h4 r hr
  · have z : ∀ b, b = 96 ∨ b = 85 ∨ b = 87 ∨ b = 92 → zu (zu S 80 c 0) 89 c 1 b k = S b k := fun b hb => by rw [zu_ne _ _ _ _ (by omega), zu_ne _ _ _ _ (by omega)]
    rw [z 96 (by omega), z 85 (by omega), z 87 (by omega), z 92 (by omega)]; exact h5 k hk
theorem XI.give {S : zS2} (h : XI S) {c st n : Nat} (hc : c < 12) : XI (giveF S c st n) := by
  have z : ∀ b, b ∈ [80, 81, 85, 87, 88, 89, 90, 91, 92, 96] → ∀ j, gdF S c st n b j = S b j := fun b hb j => by
    rw [gdF_at S c st n ((by decide : ∀ b, b ∈ [80, 81, 85, 87, 88, 89, 90, 91, 92, 96] → b ≠ 79) b hb), gvP_at S c st n ((by decide : ∀ b, b ∈ [80, 81, 85, 87, 88, 89, 90, 91, 92, 96] → b ∉ [74, 75, 76, 77, 78]) b hb)]
  have h0 : XI (gdF S c st n) := h.mv z
  rw [giveF_gd]
  split
  · rename_i e
    obtain ⟨h1, h2, h3, h4, h5⟩ := h0
    refine ⟨fun d hd => ?_, fun d hd => ?_, fun d hd q => ?_, fun r hr => ?_, fun k hk => ?_⟩
    · rw [zu_ne _ _ _ _ (by decide)]; exact h1 d hd
    · rw [zu_ne _ _ _ _ (by decide)]; exact h2 d hd
    · rw [zu_ne _ _ _ _ (by decide)] at q
      rw [zu_ne _ _ _ _ (by decide), zu_ne _ _ _ _ (by decide)]
      by_cases e2 : d = c
      · subst e2; exact absurd e q
      · rw [zu_n _ _ _ _ (by omega)]; exact h3 d hd q
    · rw [zu_ne _ _ _ _ (by decide), zu_ne _ _ _ _ (by decide)]; exact h4 r hr
    · rw [zu_ne _ _ _ _ (by decide), zu_ne _ _ _ _ (by decide), zu_ne _ _ _ _ (by decide), zu_ne _ _ _ _ (by decide)]; exact h5 k hk
  · exact h0.clean
theorem XI.setS {S : zS2} (h : XI S) {s st k : Nat} (hk : 4 ≤ k ∧ k ≤ 9) (hS : S 98 st = nI k) (hx : stX S st) : XI (setSF S s st) := by
  rw [setSF_kd hk hS]
  obtain ⟨x1, x2, x3, x4, x5⟩ := hx
  have hkk : k = 4 ∨ k = 5 ∨ k = 6 ∨ k = 7 ∨ k = 8 ∨ k = 9 := by omega
  rcases hkk with rfl | rfl | rfl | rfl | rfl | rfl
  · rw [if_pos rfl]; exact h.oth (by decide)
  · rw [if_neg (by decide), if_pos rfl]; exact h.oth (by decide)
  · rw [if_neg (by decide), if_neg (by decide), if_pos rfl]
    have x := x2 (hS.trans (by decide))
    refine XI.oth ?_ (by decide)
    obtain ⟨h1, h2, h3, h4, h5⟩ := h
    refine ⟨fun d hd => ?_, fun d hd => ?_, fun d hd q => ?_, fun r hr => ?_, fun k hk => ?_⟩
    · rw [zu_ne _ _ _ _ (by decide)]; exact h1 d hd
    · rw [zu_ne _ _ _ _ (by decide)]; exact h2 d hd
    · rw [zu_ne _ _ _ _ (by decide)] at q
      rw [zu_ne _ _ _ _ (by decide), zu_ne _ _ _ _ (by decide), zu_ne _ _ _ _ (by decide)]; exact h3 d hd q
    · rw [zu_ne _ _ _ _ (by decide), zu_ne _ _ _ _ (by decide)]; exact h4 r hr
    · rw [zu_ne _ _ _ _ (by decide : 96 ≠ 85), zu_ne _ _ _ _ (by decide : 87 ≠ 85), zu_ne _ _ _ _ (by decide : 92 ≠ 85)]
      refine ⟨(h5 k hk).1, ?_, (h5 k hk).2.2⟩
      by_cases e : k = s
      · subst e; rw [zu_eq]; exact x
      · rw [zu_n _ _ _ _ (by omega)]; exact (h5 k hk).2.1
  · rw [if_neg (by decide), if_neg (by decide), if_neg (by decide), if_pos rfl]; exact h.oth (by decide)
  · rw [if_neg (by decide), if_neg (by decide), if_neg (by decide), if_neg (by decide), if_pos rfl]
    have x := x3 (hS.trans (by decide))
    obtain ⟨h1, h2, h3, h4, h5⟩ := h
    refine ⟨fun d hd => ?_, fun d hd => ?_, fun d hd q => ?_, fun r hr => ?_, fun k hk => ?_⟩
    · rw [zu_ne _ _ _ _ (by decide)]; exact h1 d hd
    · rw [zu_ne _ _ _ _ (by decide)]; exact h2 d hd
    · rw [zu_ne _ _ _ _ (by decide)] at q
      rw [zu_ne _ _ _ _ (by decide), zu_ne _ _ _ _ (by decide), zu_ne _ _ _ _ (by decide)]; exact h3 d hd q
    · rw [zu_ne _ _ _ _ (by decide), zu_ne _ _ _ _ (by decide)]; exact h4 r hr
    · rw [zu_ne _ _ _ _ (by decide : 96 ≠ 87), zu_ne _ _ _ _ (by decide : 85 ≠ 87), zu_ne _ _ _ _ (by decide : 92 ≠ 87)]
      refine ⟨(h5 k hk).1, (h5 k hk).2.1, ?_, (h5 k hk).2.2.2⟩
      by_cases e : k = s
      · subst e; rw [zu_eq]; exact x
      · rw [zu_n _ _ _ _ (by omega)]; exact (h5 k hk).2.2.1
  · rw [if_neg (by decide), if_neg (by decide), if_neg (by decide), if_neg (by decide), if_neg (by decide)]; exact h.state (Or.inl rfl)
theorem nI_10 {k : Nat} (hk : k ≤ 10) {x : Int32} {j : Nat} (hj : j ≤ 10) (h : x = nI k) : (x = nI j ↔ k = j) := by rw [h]; exact nI_eq (by omega) (by omega)
/-- the kinds of steps -/
theorem stepV_kind {S : zS2} {st : Nat} (h : stepV S st) : ∃ k, k ≤ 10 ∧ S 98 st = nI k ∧ S 99 st = nI (stC S st) ∧ (k ≤ 2 → stC S st < 12 ∧ (k = 0 → stN S st ≤ 30)) ∧ (3 ≤ k → k ≤ 9 → stC S st < 5) ∧ (k = 10 → stC S st ≤ 50) := by
  rcases h with ⟨h1, h2, h3, h4⟩ | ⟨h1, h2, h3⟩ | ⟨⟨k, k1, k2, k3⟩, h2, h3⟩ | ⟨h1, h2, h3⟩
  · rcases h1 with e | e | e
    · exact ⟨0, by omega, e, h3, fun _ => ⟨h2, fun _ => (h4 e).1⟩, fun q => absurd q (by omega), fun q => absurd q (by omega)⟩
    · exact ⟨1, by omega, e, h3, fun _ => ⟨h2, fun q => absurd q (by omega)⟩, fun q => absurd q (by omega), fun q => absurd q (by omega)⟩
    · exact ⟨2, by omega, e, h3, fun _ => ⟨h2, fun q => absurd q (by omega)⟩, fun q => absurd q (by omega), fun q => absurd q (by omega)⟩
  · exact ⟨3, by omega, h1, h3, fun q => absurd q (by omega), fun _ _ => h2, fun q => absurd q (by omega)⟩
  · exact ⟨k, by omega, k3, h3, fun q => absurd q (by omega), fun _ _ => h2, fun q => absurd q (by omega)⟩
  · exact ⟨10, by omega, h1, h3, fun q => absurd q (by omega), fun _ q => absurd q (by omega), fun _ => h2⟩
theorem chgF_kd {S : zS2} {st k : Nat} (hk : k ≤ 9) (h : S 98 st = nI k) : chgF S st = if k ≤ 2 then setCF S (stC S st) st (stN S st) else if k = 3 then readF S (stC S st) (S 100 st) else setSF S (stC S st) st := by
  unfold chgF
  rw [h]
  by_cases e : k ≤ 2
  · rw [if_pos e, if_pos (show nI k ≤ 2 from nI_le (a := k) (b := 2) e (by decide))]
  · rw [if_neg e, if_neg (show ¬ nI k ≤ 2 from Int32.not_le.mpr (nI_lt (a := 2) (b := k) (by omega) (by omega)))]
    by_cases e3 : k = 3
    · subst e3; rw [if_pos rfl, if_pos (show nI 3 = 3 by decide)]
    · rw [if_neg e3, if_neg (show ¬ nI k = 3 from fun q => e3 ((nI_eq (a := k) (b := 3) (by omega) (by decide)).mp q))]
theorem XI.chg {S : zS2} (h : XI S) {st : Nat} (hv : stepV S st) (hx : stX S st) (hn : 0 ≤ S 67 34) (h10 : S 98 st ≠ 10) : XI (chgF S st) := by
  obtain ⟨k, hk, e, h1, h2, h3, h4⟩ := stepV_kind hv
  have hk9 : k ≤ 9 := by
    apply Classical.byContradiction
    intro q
    exact h10 (e.trans (by rw [show k = 10 by omega]; rfl))
  rw [chgF_kd hk9 e]
  split
  · rename_i k2
    unfold setCF
    split
    · exact h.give (h2 k2).1
    · split
      · rename_i e1; exact h.hold (hx.1 (Or.inl e1))
      · exact h.release
  · split
    · rename_i e3; subst e3; exact h.read (hx.1 (Or.inr e)) hn
    · exact h.setS ⟨by omega, hk9⟩ e hx
theorem DX.chg {S : zS2} (h : DX S) {st : Nat} (hv : stepV S st) (hR : RI (chgF S st)) (h10 : S 98 st ≠ 10) : DX (chgF S st) := by
  obtain ⟨k, hk, e, h1, h2, h3, h4⟩ := stepV_kind hv
  have hk9 : k ≤ 9 := by
    apply Classical.byContradiction
    intro q
    exact h10 (e.trans (by rw [show k = 10 by omega]; rfl))
  rw [chgF_kd hk9 e] at hR ⊢
  split
  · rename_i k2
    rw [if_pos k2] at hR
    unfold setCF at hR ⊢
    split
    · rename_i e0
      rw [if_pos e0] at hR
      exact (gdF_DX hR).mv (fun j => by rw [giveF_gd, zu_ne _ _ _ _ (by decide)]) (fun j => by rw [giveF_gd, zu_ne _ _ _ _ (by decide)])
    · split
      · exact h.mv (fun j => by rw [becomeF_ne _ _ _ (by decide) (by decide), zu_ne _ _ _ _ (by decide), zu_ne _ _ _ _ (by decide), zu_ne _ _ _ _ (by decide)]) (fun j => by rw [becomeF_ne _ _ _ (by decide) (by decide), zu_ne _ _ _ _ (by decide), zu_ne _ _ _ _ (by decide), zu_ne _ _ _ _ (by decide)])
      · exact h.mv (fun j => by rw [zu_ne _ _ _ _ (by decide), zu_ne _ _ _ _ (by decide)]) (fun j => by rw [zu_ne _ _ _ _ (by decide), zu_ne _ _ _ _ (by decide)])
  · split
    · have z : ∀ b, b ≠ 91 → b ≠ 90 → b ≠ 89 → ∀ j, readF S (stC S st) (S 100 st) b j = S b j := fun b q1 q2 q3 j => by
        unfold readF
        split
        · exact zu_ne _ _ _ _ q1 j
        · rw [soilF_ne _ _ _ q3, zu_ne _ _ _ _ q2, zu_ne _ _ _ _ q1]
      exact h.mv (fun j => z 76 (by decide) (by decide) (by decide) j) (fun j => z 79 (by decide) (by decide) (by decide) j)
    · rw [setSF_kd ⟨by omega, hk9⟩ e]
      have z : ∀ T : zS2, (∀ j, T 76 j = S 76 j) → (∀ j, T 79 j = S 79 j) → DX T := fun T a b => h.mv a b
      repeat' split
      all_goals refine z _ (fun j => ?_) (fun j => ?_)
      all_goals first | rw [zu_ne _ _ _ _ (by decide), zu_ne _ _ _ _ (by decide)] | rw [zu_ne _ _ _ _ (by decide)]
theorem DX.blk {S : zS2} (h : DX S) (f : Nat) (hv : ∀ b j, b = 76 ∨ b = 79 → (setF f S).1 b j = S b j) : DX (setF f S).1 := h.mv (fun j => hv 76 j (Or.inl rfl)) (fun j => hv 79 j (Or.inr rfl))

set_option maxRecDepth 100000 in
set_option maxHeartbeats 4000000 in
theorem c_X6_change {l : Launch} {Z : zZ} (hZ : zSt l Z) {μ : zMem} {σ : zS2} {π : zP2} {g : zG2} {t : Nat} (ht : ta t) {S : zS2} (hM : mo t μ σ π S) (hR : RI S) (hX : XI S) {sp st : Nat} (hsp : zSp μ σ π sp S st) (hv : stepV S st) (h10 : S 98 st ≠ 10) (hn : S 98 st = 0 → stN S st ≤ 30) (hx : stX S st) (hRc : RI (chgF S st)) : zCt l Z mX6_change 4 0 0 [.ref t, .ref sp] (zA4 μ σ π g) (fun r μ' => r = none ∧ zE0 t μ σ π g (chgF S st) μ') := by
  refine zCt_of hZ mpX6_change (Nat.le_of_ble_eq_true rfl) (L := [some (.ref t), some (.ref sp)]) rfl (fun τ hY => ?_)
  have hT := hY.1
  have hB := hM.1.tb
  obtain ⟨hio, hspn, hk, hk0, hk1, he2, he3, he5, hfm⟩ := id hsp
  obtain ⟨k, hk10, hkS, h99, hC, hV, _⟩ := stepV_kind hv
  have hk9 : k ≤ 9 := by
    apply Classical.byContradiction
    intro q
    exact h10 (hkS.trans (by rw [show k = 10 by omega]; rfl))
  have h1 : σ sp 1 = nI (stC S st) := hk1.trans h99
  have h0 : σ sp 0 = nI k := hk0.trans hkS
  have hset := chgF_kd hk9 hkS
  by_cases e3 : k = 3
  · rw [if_neg (by omega), if_pos e3] at hset
    refine J_aload_n (i := 1) hT dX6_change_0 rfl rfl ?_
    refine R_getI hT fX6_91 rfl dX6_change_1 hk ?_
    refine J_topil (h0) ?_
    refine J_iconst (v := 3) hT dX6_change_4 rfl ?_
    refine J_icmp_ne (tgt := 16) hT dX6_change_5 (by decide) (fun q => absurd ((by rw [e3]; rfl)) q) (fun _ => ?_)
    refine J_aload_n (i := 0) hT dX6_change_8 rfl rfl ?_
    refine J_aload_n (i := 1) hT dX6_change_9 rfl rfl ?_
    refine J_callV (ci := 6) hY dX6_change_10 mfX6_changeReading miX6_changeReading msX6_changeReading kX6_111 ⟨by decide, rfl⟩ hB.k (c_X6_changeReading hZ ht hM hk hio (hV (by omega) (by omega)) h1) rfl (by decide) rfl rfl (Nat.le_of_ble_eq_true rfl) (Nat.le_refl _) (Nat.le_refl _) (fun r1 μ1 hq1 => ?_)
    obtain ⟨rfl, hq2⟩ := hq1
    rw [he2] at hq2
    refine J_goto (tgt := 37) hT dX6_change_13 (by decide) ?_
    exact J_vret hT dX6_change_37 rfl (⟨rfl, by rw [hset]; exact hq2.e0⟩) (Nat.le_refl _) (Nat.le_refl _)
  · by_cases e2 : k ≤ 2
    · rw [if_pos e2] at hset
      rw [hset] at hRc
      refine J_aload_n (i := 1) hT dX6_change_0 rfl rfl ?_
      refine R_getI hT fX6_91 rfl dX6_change_1 hk ?_
      refine J_topil (h0) ?_
      refine J_iconst (v := 3) hT dX6_change_4 rfl ?_
      refine J_icmp_ne (tgt := 16) hT dX6_change_5 (by decide) (fun _ => ?_) (fun q => absurd q ((fun q => e3 ((nI_eq (a := k) (b := 3) (by omega) (by decide)).mp q))))
      refine J_aload_n (i := 1) hT dX6_change_16 rfl rfl ?_
      refine R_getI hT fX6_91 rfl dX6_change_17 hk ?_
      refine J_topil (h0) ?_
      refine J_iconst (v := 3) hT dX6_change_20 rfl ?_
      refine J_icmp_ge (tgt := 32) hT dX6_change_21 (by decide) (fun q => absurd q (Int32.not_le.mpr (nI_lt (a := k) (b := 3) (by omega) (by decide)))) (fun _ => ?_)
      refine J_aload_n (i := 0) hT dX6_change_24 rfl rfl ?_
      refine J_aload_n (i := 1) hT dX6_change_25 rfl rfl ?_
      refine J_callV (ci := 6) hY dX6_change_26 mfX6_changeCell miX6_changeCell msX6_changeCell kX6_114 ⟨by decide, rfl⟩ hB.k (c_X6_changeCell hZ ht hM hR hX hsp (hC e2).1 h1 e2 hkS (fun q => hn (hkS.trans (by rw [q]; rfl))) hRc) rfl (by decide) rfl rfl (Nat.le_of_ble_eq_true rfl) (Nat.le_refl _) (Nat.le_refl _) (fun r1 μ1 hq1 => ?_)
      obtain ⟨rfl, hq2⟩ := hq1
      refine J_goto (tgt := 37) hT dX6_change_29 (by decide) ?_
      exact J_vret hT dX6_change_37 rfl (⟨rfl, by rw [hset]; exact hq2⟩) (Nat.le_refl _) (Nat.le_refl _)
    · rw [if_neg e2, if_neg e3] at hset
      refine J_aload_n (i := 1) hT dX6_change_0 rfl rfl ?_
      refine R_getI hT fX6_91 rfl dX6_change_1 hk ?_
      refine J_topil (h0) ?_
      refine J_iconst (v := 3) hT dX6_change_4 rfl ?_
      refine J_icmp_ne (tgt := 16) hT dX6_change_5 (by decide) (fun _ => ?_) (fun q => absurd q ((fun q => e3 ((nI_eq (a := k) (b := 3) (by omega) (by decide)).mp q))))
      refine J_aload_n (i := 1) hT dX6_change_16 rfl rfl ?_
      refine R_getI hT fX6_91 rfl dX6_change_17 hk ?_
      refine J_topil (h0) ?_
      refine J_iconst (v := 3) hT dX6_change_20 rfl ?_
      refine J_icmp_ge (tgt := 32) hT dX6_change_21 (by decide) (fun _ => ?_) (fun q => absurd (nI_le (a := 3) (b := k) (by omega) (by omega)) q)
      refine J_aload_n (i := 0) hT dX6_change_32 rfl rfl ?_
      refine J_aload_n (i := 1) hT dX6_change_33 rfl rfl ?_
      refine J_callV (ci := 6) hY dX6_change_34 mfX6_changeService miX6_changeService msX6_changeService kX6_117 ⟨by decide, rfl⟩ hB.k (c_X6_changeService hZ ht hM hk hio (hV (by omega) hk9) h1 ⟨by omega, hk9⟩ h0 hkS he2 he3 (fun q => by rw [he3]; exact (hx.2.2.2.2 (by rw [hkS, q]; rfl)).2)) rfl (by decide) rfl rfl (Nat.le_of_ble_eq_true rfl) (Nat.le_refl _) (Nat.le_refl _) (fun r1 μ1 hq1 => ?_)
      obtain ⟨rfl, hq2⟩ := hq1
      exact J_vret hT dX6_change_37 rfl (⟨rfl, by rw [hset]; exact hq2.e0⟩) (Nat.le_refl _) (Nat.le_refl _)


