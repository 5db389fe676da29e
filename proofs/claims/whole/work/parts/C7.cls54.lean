/-! ===== the reference's constructor ===== -/
theorem aw_b : Cond.arrayClass (zty 1) ∈ ztb := ztb_in (zc5 (List.mem_of_getElem? (i := 148) rfl)) rfl
theorem aw_l : Cond.arrayClass .long ∈ ztb := ztb_in (zc5 (List.mem_of_getElem? (i := 149) rfl)) rfl
theorem N_newG {τ : zT} {M : zM} {kk mc ms : Nat} {F : State → Prop} {pc : Nat} {L : List (Option Value)} {st : List Value} {μ : zMem} {σ : zS2} {π : zP2} {g : zG2} {c k : Nat} (hT : zCx τ M kk mc ms) {b : Nat} {l : List (Nat × Nat)} {n : Nat} {i : Int32} (hd : decode M.2.1 pc = .ok (.newarray .long, 2)) (hw1 : Cond.arrayClass .long ∈ ztb) (hi : i = nI n) (hn : n ≤ 100000) (hc : c + 1 ≤ mc) (hs : k + n ≤ ms) (hb : zN μ + l.length = b)
    (h : zJ τ F (pc + 2) L (.ref b :: st) (zA4 (zals μ (l ++ [(3, n)])) (n1 b σ) (n2 b π) (n3 b g)) (c + 1) (k + n)) : zJ τ F pc L (.int i :: st) (zA4 (zals μ l) σ π g) c k := by
  refine J_newG hT hd hw1 hi hn hc hs ?_
  rw [zals_A4 hb, show zN (zA4 (zals μ l) σ π g) = b from (zals_N l μ).trans hb]
  exact h
/-- rows made so far: their fields, and all numbers 0 -/
def rlF : List Nat := zrl.map (fun x => x.1)
def RK (k : Nat) (σ σ' : zS2) (π π' : zP2) (g g' : zG2) : Prop := (∀ b, b < 67 → ∀ j, σ' b j = σ b j ∧ π' b j = π b j ∧ g' b j = g b j) ∧ (∀ b, 67 ≤ b → b < 68 + k → ∀ j, σ' b j = 0 ∧ g' b j = 0) ∧ ∀ i f, i < k → rlF[i]? = some f → π' 67 f = some (68 + i)
theorem rlF_nd : ∀ i : Nat, i < 38 → ∀ j : Nat, j < 38 → i ≠ j → rlF[i]? ≠ rlF[j]? := by decide +kernel
theorem RK.step {k : Nat} {σ σ' : zS2} {π π' : zP2} {g g' : zG2} (h : RK k σ σ' π π' g g') {f b : Nat} (hb : 68 + k = b) (hk : k < 38) (hf : rlF[k]? = some f) : RK (k + 1) σ (n1 b σ') π (zup (n2 b π') 67 f (some b)) g (n3 b g') := by
  subst hb
  obtain ⟨h1, h2, h3⟩ := h
  refine ⟨fun b hb j => ?_, fun b h67 hb j => ?_, fun i x hi hx => ?_⟩
  · have q : ¬ b = 68 + k := by omega
    obtain ⟨a1, a2, a3⟩ := h1 b hb j
    exact ⟨(if_neg q).trans a1, ((zup_n _ _ _ _ (fun z => by omega)).trans (if_neg q)).trans a2, (if_neg q).trans a3⟩
  · by_cases q : b = 68 + k
    · exact ⟨if_pos q, if_pos q⟩
    · obtain ⟨a1, a2⟩ := h2 b h67 (by omega) j
      exact ⟨(if_neg q).trans a1, (if_neg q).trans a2⟩
  · by_cases q : i = k
    · subst q
      have e : x = f := Option.some.inj (hx.symm.trans hf)
      rw [e]
      exact zup_eq _ _ _ _
    · have hne : x ≠ f := fun e => rlF_nd i (by omega) k hk q (by rw [hx, hf, e])
      exact ((zup_n _ _ _ _ (fun z => hne z.2)).trans (if_neg (by omega))).trans (h3 i x (by omega) hx)
def rlL : List (Nat × Nat) := zrl.map (fun x => (x.2.2.1, x.2.2.2))
theorem zrl_i : ∀ x, x ∈ zrl → x.2.1 - 68 < 38 ∧ x.2.1 = 68 + (x.2.1 - 68) ∧ rlF[x.2.1 - 68]? = some x.1 ∧ rlL[x.2.1 - 68]? = some (x.2.2.1, x.2.2.2) := by decide +kernel
theorem RK.ref {μ : zMem} {σ σ' : zS2} {π π' : zP2} {g g' : zG2} (h : RK 38 σ σ' π π' g g') (hN : zN μ = 68) (hk : zK μ 67 = 9 + 8) : zRef (zals μ rlL) π' := by
  refine ⟨((zals_o _ μ 67 (by omega)).1).trans hk, fun j a kd n hx => ?_⟩
  obtain ⟨q1, q2, q3, q4⟩ := zrl_i _ hx
  dsimp only at q1 q2 q3 q4
  have h1 := h.2.2 _ _ q1 q3
  have h2 := zals_at rlL μ _ _ q4
  rw [hN, ← q2] at h2
  rw [← q2] at h1
  exact ⟨h1, h2.1, h2.2⟩
set_option maxRecDepth 100000 in
set_option maxHeartbeats 8000000 in
theorem c_X9_init {l : Launch} {Z : zZ} (hZ : zSt l Z) {μ : zMem} {σ : zS2} {π : zP2} {g : zG2} (hk : zK μ 67 = 9 + 8) (hN : zN μ = 68) (h67 : ∀ j, σ 67 j = 0 ∧ g 67 j = 0) : zCt l Z mX9_init 2 38 2228 [.ref 67] (zA4 μ σ π g) (fun r μ' => r = none ∧ ∃ σ' π' g', μ' = zA4 (zals μ rlL) (beginF σ') π' g' ∧ RK 38 σ σ' π π' g g') := by
  refine zCt_of hZ mpX9_init (Nat.le_of_ble_eq_true rfl) (L := [some (.ref 67)]) rfl (fun τ hY => ?_)
  have hT := hY.1
  have kt : ∀ l, zK (zals μ l) 67 = 9 + 8 := fun l => (zals_o l μ 67 (by omega)).1.trans hk
  have lenN : ∀ {l : List (Nat × Nat)} {m b : Nat}, l.length = m → 68 + m = b → zN μ + l.length = b := fun h1 h2 => by rw [hN, h1]; exact h2
  have h0 : RK 0 σ σ π π g g := ⟨fun _ _ _ => ⟨rfl, rfl, rfl⟩, fun b h1 h2 j => by rw [show b = 67 by omega]; exact h67 j, fun i f hi => absurd hi (Nat.not_lt_zero i)⟩
  obtain ⟨s0, hs0⟩ : ∃ x, x = σ := ⟨_, rfl⟩
  obtain ⟨p0, hp0⟩ : ∃ x, x = π := ⟨_, rfl⟩
  obtain ⟨g0, hg0⟩ : ∃ x, x = g := ⟨_, rfl⟩
  have h0 : RK 0 σ s0 π p0 g g0 := by rw [hs0, hp0, hg0]; exact h0
  refine J_mu (show zA4 μ σ π g = zA4 (zals μ []) s0 p0 g0 by rw [hs0, hp0, hg0]; rfl) ?_
  refine J_aload_n (i := 0) hT dX9_init_0 rfl rfl ?_
  refine J_objInit hT dX9_init_1 kX9_1 oi1 oi2 rfl (by decide) ?_
  refine J_aload_n (i := 0) hT dX9_init_4 rfl rfl ?_
  refine J_bipush (v := 30) hT dX9_init_5 rfl ?_
  refine N_newI (b := 68) (kd := 0) (n := 30) hT (Or.inl ⟨rfl, rfl⟩) dX9_init_7 cw_ai rfl (by decide) (by decide) (by decide) (lenN rfl rfl) ?_
  refine C_putP hT fX9_7 (Or.inr ⟨rfl, rfl, wX9_7⟩) rfl dX9_init_9 (kt _) ?_
  have h1 := h0.step (f := 0) (b := 68) rfl (by decide) rfl
  generalize n1 68 s0 = s1 at h1 ⊢
  generalize zup (n2 68 p0) 67 0 (some 68) = p1 at h1 ⊢
  generalize n3 68 g0 = g1 at h1 ⊢
  clear h0
  refine J_aload_n (i := 0) hT dX9_init_12 rfl rfl ?_
  refine J_bipush (v := 30) hT dX9_init_13 rfl ?_
  refine N_newI (b := 69) (kd := 0) (n := 30) hT (Or.inl ⟨rfl, rfl⟩) dX9_init_15 cw_ai rfl (by decide) (by decide) (by decide) (lenN rfl rfl) ?_
  refine C_putP hT fX9_13 (Or.inr ⟨rfl, rfl, wX9_13⟩) rfl dX9_init_17 (kt _) ?_
  have h2 := h1.step (f := 2) (b := 69) rfl (by decide) rfl
  generalize n1 69 s1 = s2 at h2 ⊢
  generalize zup (n2 69 p1) 67 2 (some 69) = p2 at h2 ⊢
  generalize n3 69 g1 = g2 at h2 ⊢
  clear h1
  refine J_aload_n (i := 0) hT dX9_init_20 rfl rfl ?_
  refine J_bipush (v := 62) hT dX9_init_21 rfl ?_
  refine N_newI (b := 70) (kd := 0) (n := 62) hT (Or.inl ⟨rfl, rfl⟩) dX9_init_23 cw_ai rfl (by decide) (by decide) (by decide) (lenN rfl rfl) ?_
  refine C_putP hT fX9_16 (Or.inr ⟨rfl, rfl, wX9_16⟩) rfl dX9_init_25 (kt _) ?_
  have h3 := h2.step (f := 4) (b := 70) rfl (by decide) rfl
  generalize n1 70 s2 = s3 at h3 ⊢
  generalize zup (n2 70 p2) 67 4 (some 70) = p3 at h3 ⊢
  generalize n3 70 g2 = g3 at h3 ⊢
  clear h2
  refine J_aload_n (i := 0) hT dX9_init_28 rfl rfl ?_
  refine J_bipush (v := 32) hT dX9_init_29 rfl ?_
  refine N_newI (b := 71) (kd := 1) (n := 32) hT (Or.inr (Or.inl ⟨rfl, rfl⟩)) dX9_init_31 aw_b rfl (by decide) (by decide) (by decide) (lenN rfl rfl) ?_
  refine C_putP hT fX9_19 (Or.inr ⟨rfl, rfl, wX9_19⟩) rfl dX9_init_33 (kt _) ?_
  have h4 := h3.step (f := 6) (b := 71) rfl (by decide) rfl
  generalize n1 71 s3 = s4 at h4 ⊢
  generalize zup (n2 71 p3) 67 6 (some 71) = p4 at h4 ⊢
  generalize n3 71 g3 = g4 at h4 ⊢
  clear h3
  refine J_aload_n (i := 0) hT dX9_init_36 rfl rfl ?_
  refine J_bipush (v := 32) hT dX9_init_37 rfl ?_
  refine N_newI (b := 72) (kd := 0) (n := 32) hT (Or.inl ⟨rfl, rfl⟩) dX9_init_39 cw_ai rfl (by decide) (by decide) (by decide) (lenN rfl rfl) ?_
  refine C_putP hT fX9_23 (Or.inr ⟨rfl, rfl, wX9_23⟩) rfl dX9_init_41 (kt _) ?_
  have h5 := h4.step (f := 7) (b := 72) rfl (by decide) rfl
  generalize n1 72 s4 = s5 at h5 ⊢
  generalize zup (n2 72 p4) 67 7 (some 72) = p5 at h5 ⊢
  generalize n3 72 g4 = g5 at h5 ⊢
  clear h4
  refine J_aload_n (i := 0) hT dX9_init_44 rfl rfl ?_
  refine J_bipush (v := 32) hT dX9_init_45 rfl ?_
  refine N_newI (b := 73) (kd := 0) (n := 32) hT (Or.inl ⟨rfl, rfl⟩) dX9_init_47 cw_ai rfl (by decide) (by decide) (by decide) (lenN rfl rfl) ?_
  refine C_putP hT fX9_26 (Or.inr ⟨rfl, rfl, wX9_26⟩) rfl dX9_init_49 (kt _) ?_
  have h6 := h5.step (f := 8) (b := 73) rfl (by decide) rfl
  generalize n1 73 s5 = s6 at h6 ⊢
  generalize zup (n2 73 p5) 67 8 (some 73) = p6 at h6 ⊢
  generalize n3 73 g5 = g6 at h6 ⊢
  clear h5
  refine J_aload_n (i := 0) hT dX9_init_52 rfl rfl ?_
  refine J_sipush (v := 360) hT dX9_init_53 rfl ?_
  refine N_newI (b := 74) (kd := 0) (n := 360) hT (Or.inl ⟨rfl, rfl⟩) dX9_init_56 cw_ai rfl (by decide) (by decide) (by decide) (lenN rfl rfl) ?_
  refine C_putP hT fX9_29 (Or.inr ⟨rfl, rfl, wX9_29⟩) rfl dX9_init_58 (kt _) ?_
  have h7 := h6.step (f := 9) (b := 74) rfl (by decide) rfl
  generalize n1 74 s6 = s7 at h7 ⊢
  generalize zup (n2 74 p6) 67 9 (some 74) = p7 at h7 ⊢
  generalize n3 74 g6 = g7 at h7 ⊢
  clear h6
  refine J_aload_n (i := 0) hT dX9_init_61 rfl rfl ?_
  refine J_bipush (v := 12) hT dX9_init_62 rfl ?_
  refine N_newI (b := 75) (kd := 0) (n := 12) hT (Or.inl ⟨rfl, rfl⟩) dX9_init_64 cw_ai rfl (by decide) (by decide) (by decide) (lenN rfl rfl) ?_
  refine C_putP hT fX9_32 (Or.inr ⟨rfl, rfl, wX9_32⟩) rfl dX9_init_66 (kt _) ?_
  have h8 := h7.step (f := 10) (b := 75) rfl (by decide) rfl
  generalize n1 75 s7 = s8 at h8 ⊢
  generalize zup (n2 75 p7) 67 10 (some 75) = p8 at h8 ⊢
  generalize n3 75 g7 = g8 at h8 ⊢
  clear h7
  refine J_aload_n (i := 0) hT dX9_init_69 rfl rfl ?_
  refine J_bipush (v := 12) hT dX9_init_70 rfl ?_
  refine N_newI (b := 76) (kd := 0) (n := 12) hT (Or.inl ⟨rfl, rfl⟩) dX9_init_72 cw_ai rfl (by decide) (by decide) (by decide) (lenN rfl rfl) ?_
  refine C_putP hT fX9_35 (Or.inr ⟨rfl, rfl, wX9_35⟩) rfl dX9_init_74 (kt _) ?_
  have h9 := h8.step (f := 11) (b := 76) rfl (by decide) rfl
  generalize n1 76 s8 = s9 at h9 ⊢
  generalize zup (n2 76 p8) 67 11 (some 76) = p9 at h9 ⊢
  generalize n3 76 g8 = g9 at h9 ⊢
  clear h8
  refine J_aload_n (i := 0) hT dX9_init_77 rfl rfl ?_
  refine J_bipush (v := 12) hT dX9_init_78 rfl ?_
  refine N_newI (b := 77) (kd := 0) (n := 12) hT (Or.inl ⟨rfl, rfl⟩) dX9_init_80 cw_ai rfl (by decide) (by decide) (by decide) (lenN rfl rfl) ?_
  refine C_putP hT fX9_38 (Or.inr ⟨rfl, rfl, wX9_38⟩) rfl dX9_init_82 (kt _) ?_
  have h10 := h9.step (f := 12) (b := 77) rfl (by decide) rfl
  generalize n1 77 s9 = s10 at h10 ⊢
  generalize zup (n2 77 p9) 67 12 (some 77) = p10 at h10 ⊢
  generalize n3 77 g9 = g10 at h10 ⊢
  clear h9
  refine J_aload_n (i := 0) hT dX9_init_85 rfl rfl ?_
  refine J_bipush (v := 12) hT dX9_init_86 rfl ?_
  refine N_newI (b := 78) (kd := 0) (n := 12) hT (Or.inl ⟨rfl, rfl⟩) dX9_init_88 cw_ai rfl (by decide) (by decide) (by decide) (lenN rfl rfl) ?_
  refine C_putP hT fX9_41 (Or.inr ⟨rfl, rfl, wX9_41⟩) rfl dX9_init_90 (kt _) ?_
  have h11 := h10.step (f := 13) (b := 78) rfl (by decide) rfl
  generalize n1 78 s10 = s11 at h11 ⊢
  generalize zup (n2 78 p10) 67 13 (some 78) = p11 at h11 ⊢
  generalize n3 78 g10 = g11 at h11 ⊢
  clear h10
  refine J_aload_n (i := 0) hT dX9_init_93 rfl rfl ?_
  refine J_bipush (v := 12) hT dX9_init_94 rfl ?_
  refine N_newI (b := 79) (kd := 0) (n := 12) hT (Or.inl ⟨rfl, rfl⟩) dX9_init_96 cw_ai rfl (by decide) (by decide) (by decide) (lenN rfl rfl) ?_
  refine C_putP hT fX9_44 (Or.inr ⟨rfl, rfl, wX9_44⟩) rfl dX9_init_98 (kt _) ?_
  have h12 := h11.step (f := 14) (b := 79) rfl (by decide) rfl
  generalize n1 79 s11 = s12 at h12 ⊢
  generalize zup (n2 79 p11) 67 14 (some 79) = p12 at h12 ⊢
  generalize n3 79 g11 = g12 at h12 ⊢
  clear h11
  refine J_aload_n (i := 0) hT dX9_init_101 rfl rfl ?_
  refine J_bipush (v := 12) hT dX9_init_102 rfl ?_
  refine N_newI (b := 80) (kd := 1) (n := 12) hT (Or.inr (Or.inl ⟨rfl, rfl⟩)) dX9_init_104 aw_b rfl (by decide) (by decide) (by decide) (lenN rfl rfl) ?_
  refine C_putP hT fX9_47 (Or.inr ⟨rfl, rfl, wX9_47⟩) rfl dX9_init_106 (kt _) ?_
  have h13 := h12.step (f := 15) (b := 80) rfl (by decide) rfl
  generalize n1 80 s12 = s13 at h13 ⊢
  generalize zup (n2 80 p12) 67 15 (some 80) = p13 at h13 ⊢
  generalize n3 80 g12 = g13 at h13 ⊢
  clear h12
  refine J_aload_n (i := 0) hT dX9_init_109 rfl rfl ?_
  refine J_bipush (v := 12) hT dX9_init_110 rfl ?_
  refine N_newI (b := 81) (kd := 0) (n := 12) hT (Or.inl ⟨rfl, rfl⟩) dX9_init_112 cw_ai rfl (by decide) (by decide) (by decide) (lenN rfl rfl) ?_
  refine C_putP hT fX9_50 (Or.inr ⟨rfl, rfl, wX9_50⟩) rfl dX9_init_114 (kt _) ?_
  have h14 := h13.step (f := 16) (b := 81) rfl (by decide) rfl
  generalize n1 81 s13 = s14 at h14 ⊢
  generalize zup (n2 81 p13) 67 16 (some 81) = p14 at h14 ⊢
  generalize n3 81 g13 = g14 at h14 ⊢
  clear h13
  refine J_aload_n (i := 0) hT dX9_init_117 rfl rfl ?_
  refine J_iconst (v := 5) hT dX9_init_118 rfl ?_
  refine N_newI (b := 82) (kd := 0) (n := 5) hT (Or.inl ⟨rfl, rfl⟩) dX9_init_119 cw_ai rfl (by decide) (by decide) (by decide) (lenN rfl rfl) ?_
  refine C_putP hT fX9_53 (Or.inr ⟨rfl, rfl, wX9_53⟩) rfl dX9_init_121 (kt _) ?_
  have h15 := h14.step (f := 17) (b := 82) rfl (by decide) rfl
  generalize n1 82 s14 = s15 at h15 ⊢
  generalize zup (n2 82 p14) 67 17 (some 82) = p15 at h15 ⊢
  generalize n3 82 g14 = g15 at h15 ⊢
  clear h14
  refine J_aload_n (i := 0) hT dX9_init_124 rfl rfl ?_
  refine J_iconst (v := 5) hT dX9_init_125 rfl ?_
  refine N_newI (b := 83) (kd := 0) (n := 5) hT (Or.inl ⟨rfl, rfl⟩) dX9_init_126 cw_ai rfl (by decide) (by decide) (by decide) (lenN rfl rfl) ?_
  refine C_putP hT fX9_56 (Or.inr ⟨rfl, rfl, wX9_56⟩) rfl dX9_init_128 (kt _) ?_
  have h16 := h15.step (f := 18) (b := 83) rfl (by decide) rfl
  generalize n1 83 s15 = s16 at h16 ⊢
  generalize zup (n2 83 p15) 67 18 (some 83) = p16 at h16 ⊢
  generalize n3 83 g15 = g16 at h16 ⊢
  clear h15
  refine J_aload_n (i := 0) hT dX9_init_131 rfl rfl ?_
  refine J_iconst (v := 5) hT dX9_init_132 rfl ?_
  refine N_newI (b := 84) (kd := 0) (n := 5) hT (Or.inl ⟨rfl, rfl⟩) dX9_init_133 cw_ai rfl (by decide) (by decide) (by decide) (lenN rfl rfl) ?_
  refine C_putP hT fX9_59 (Or.inr ⟨rfl, rfl, wX9_59⟩) rfl dX9_init_135 (kt _) ?_
  have h17 := h16.step (f := 19) (b := 84) rfl (by decide) rfl
  generalize n1 84 s16 = s17 at h17 ⊢
  generalize zup (n2 84 p16) 67 19 (some 84) = p17 at h17 ⊢
  generalize n3 84 g16 = g17 at h17 ⊢
  clear h16
  refine J_aload_n (i := 0) hT dX9_init_138 rfl rfl ?_
  refine J_iconst (v := 5) hT dX9_init_139 rfl ?_
  refine N_newI (b := 85) (kd := 0) (n := 5) hT (Or.inl ⟨rfl, rfl⟩) dX9_init_140 cw_ai rfl (by decide) (by decide) (by decide) (lenN rfl rfl) ?_
  refine C_putP hT fX9_62 (Or.inr ⟨rfl, rfl, wX9_62⟩) rfl dX9_init_142 (kt _) ?_
  have h18 := h17.step (f := 20) (b := 85) rfl (by decide) rfl
  generalize n1 85 s17 = s18 at h18 ⊢
  generalize zup (n2 85 p17) 67 20 (some 85) = p18 at h18 ⊢
  generalize n3 85 g17 = g18 at h18 ⊢
  clear h17
  refine J_aload_n (i := 0) hT dX9_init_145 rfl rfl ?_
  refine J_iconst (v := 5) hT dX9_init_146 rfl ?_
  refine N_newI (b := 86) (kd := 0) (n := 5) hT (Or.inl ⟨rfl, rfl⟩) dX9_init_147 cw_ai rfl (by decide) (by decide) (by decide) (lenN rfl rfl) ?_
  refine C_putP hT fX9_65 (Or.inr ⟨rfl, rfl, wX9_65⟩) rfl dX9_init_149 (kt _) ?_
  have h19 := h18.step (f := 21) (b := 86) rfl (by decide) rfl
  generalize n1 86 s18 = s19 at h19 ⊢
  generalize zup (n2 86 p18) 67 21 (some 86) = p19 at h19 ⊢
  generalize n3 86 g18 = g19 at h19 ⊢
  clear h18
  refine J_aload_n (i := 0) hT dX9_init_152 rfl rfl ?_
  refine J_iconst (v := 5) hT dX9_init_153 rfl ?_
  refine N_newI (b := 87) (kd := 0) (n := 5) hT (Or.inl ⟨rfl, rfl⟩) dX9_init_154 cw_ai rfl (by decide) (by decide) (by decide) (lenN rfl rfl) ?_
  refine C_putP hT fX9_68 (Or.inr ⟨rfl, rfl, wX9_68⟩) rfl dX9_init_156 (kt _) ?_
  have h20 := h19.step (f := 22) (b := 87) rfl (by decide) rfl
  generalize n1 87 s19 = s20 at h20 ⊢
  generalize zup (n2 87 p19) 67 22 (some 87) = p20 at h20 ⊢
  generalize n3 87 g19 = g20 at h20 ⊢
  clear h19
  refine J_aload_n (i := 0) hT dX9_init_159 rfl rfl ?_
  refine J_bipush (v := 12) hT dX9_init_160 rfl ?_
  refine N_newI (b := 88) (kd := 0) (n := 12) hT (Or.inl ⟨rfl, rfl⟩) dX9_init_162 cw_ai rfl (by decide) (by decide) (by decide) (lenN rfl rfl) ?_
  refine C_putP hT fX9_71 (Or.inr ⟨rfl, rfl, wX9_71⟩) rfl dX9_init_164 (kt _) ?_
  have h21 := h20.step (f := 23) (b := 88) rfl (by decide) rfl
  generalize n1 88 s20 = s21 at h21 ⊢
  generalize zup (n2 88 p20) 67 23 (some 88) = p21 at h21 ⊢
  generalize n3 88 g20 = g21 at h21 ⊢
  clear h20
  refine J_aload_n (i := 0) hT dX9_init_167 rfl rfl ?_
  refine J_bipush (v := 12) hT dX9_init_168 rfl ?_
  refine N_newI (b := 89) (kd := 1) (n := 12) hT (Or.inr (Or.inl ⟨rfl, rfl⟩)) dX9_init_170 aw_b rfl (by decide) (by decide) (by decide) (lenN rfl rfl) ?_
  refine C_putP hT fX9_74 (Or.inr ⟨rfl, rfl, wX9_74⟩) rfl dX9_init_172 (kt _) ?_
  have h22 := h21.step (f := 24) (b := 89) rfl (by decide) rfl
  generalize n1 89 s21 = s22 at h22 ⊢
  generalize zup (n2 89 p21) 67 24 (some 89) = p22 at h22 ⊢
  generalize n3 89 g21 = g22 at h22 ⊢
  clear h21
  refine J_aload_n (i := 0) hT dX9_init_175 rfl rfl ?_
  refine J_iconst (v := 5) hT dX9_init_176 rfl ?_
  refine N_newI (b := 90) (kd := 0) (n := 5) hT (Or.inl ⟨rfl, rfl⟩) dX9_init_177 cw_ai rfl (by decide) (by decide) (by decide) (lenN rfl rfl) ?_
  refine C_putP hT fX9_77 (Or.inr ⟨rfl, rfl, wX9_77⟩) rfl dX9_init_179 (kt _) ?_
  have h23 := h22.step (f := 25) (b := 90) rfl (by decide) rfl
  generalize n1 90 s22 = s23 at h23 ⊢
  generalize zup (n2 90 p22) 67 25 (some 90) = p23 at h23 ⊢
  generalize n3 90 g22 = g23 at h23 ⊢
  clear h22
  refine J_aload_n (i := 0) hT dX9_init_182 rfl rfl ?_
  refine J_iconst (v := 5) hT dX9_init_183 rfl ?_
  refine N_newI (b := 91) (kd := 0) (n := 5) hT (Or.inl ⟨rfl, rfl⟩) dX9_init_184 cw_ai rfl (by decide) (by decide) (by decide) (lenN rfl rfl) ?_
  refine C_putP hT fX9_80 (Or.inr ⟨rfl, rfl, wX9_80⟩) rfl dX9_init_186 (kt _) ?_
  have h24 := h23.step (f := 26) (b := 91) rfl (by decide) rfl
  generalize n1 91 s23 = s24 at h24 ⊢
  generalize zup (n2 91 p23) 67 26 (some 91) = p24 at h24 ⊢
  generalize n3 91 g23 = g24 at h24 ⊢
  clear h23
  refine J_aload_n (i := 0) hT dX9_init_189 rfl rfl ?_
  refine J_iconst (v := 5) hT dX9_init_190 rfl ?_
  refine N_newI (b := 92) (kd := 0) (n := 5) hT (Or.inl ⟨rfl, rfl⟩) dX9_init_191 cw_ai rfl (by decide) (by decide) (by decide) (lenN rfl rfl) ?_
  refine C_putP hT fX9_83 (Or.inr ⟨rfl, rfl, wX9_83⟩) rfl dX9_init_193 (kt _) ?_
  have h25 := h24.step (f := 27) (b := 92) rfl (by decide) rfl
  generalize n1 92 s24 = s25 at h25 ⊢
  generalize zup (n2 92 p24) 67 27 (some 92) = p25 at h25 ⊢
  generalize n3 92 g24 = g25 at h25 ⊢
  clear h24
  refine J_aload_n (i := 0) hT dX9_init_196 rfl rfl ?_
  refine J_iconst (v := 5) hT dX9_init_197 rfl ?_
  refine N_newI (b := 93) (kd := 0) (n := 5) hT (Or.inl ⟨rfl, rfl⟩) dX9_init_198 cw_ai rfl (by decide) (by decide) (by decide) (lenN rfl rfl) ?_
  refine C_putP hT fX9_86 (Or.inr ⟨rfl, rfl, wX9_86⟩) rfl dX9_init_200 (kt _) ?_
  have h26 := h25.step (f := 28) (b := 93) rfl (by decide) rfl
  generalize n1 93 s25 = s26 at h26 ⊢
  generalize zup (n2 93 p25) 67 28 (some 93) = p26 at h26 ⊢
  generalize n3 93 g25 = g26 at h26 ⊢
  clear h25
  refine J_aload_n (i := 0) hT dX9_init_203 rfl rfl ?_
  refine J_iconst (v := 5) hT dX9_init_204 rfl ?_
  refine N_newI (b := 94) (kd := 0) (n := 5) hT (Or.inl ⟨rfl, rfl⟩) dX9_init_205 cw_ai rfl (by decide) (by decide) (by decide) (lenN rfl rfl) ?_
  refine C_putP hT fX9_89 (Or.inr ⟨rfl, rfl, wX9_89⟩) rfl dX9_init_207 (kt _) ?_
  have h27 := h26.step (f := 29) (b := 94) rfl (by decide) rfl
  generalize n1 94 s26 = s27 at h27 ⊢
  generalize zup (n2 94 p26) 67 29 (some 94) = p27 at h27 ⊢
  generalize n3 94 g26 = g27 at h27 ⊢
  clear h26
  refine J_aload_n (i := 0) hT dX9_init_210 rfl rfl ?_
  refine J_iconst (v := 5) hT dX9_init_211 rfl ?_
  refine N_newI (b := 95) (kd := 0) (n := 5) hT (Or.inl ⟨rfl, rfl⟩) dX9_init_212 cw_ai rfl (by decide) (by decide) (by decide) (lenN rfl rfl) ?_
  refine C_putP hT fX9_92 (Or.inr ⟨rfl, rfl, wX9_92⟩) rfl dX9_init_214 (kt _) ?_
  have h28 := h27.step (f := 30) (b := 95) rfl (by decide) rfl
  generalize n1 95 s27 = s28 at h28 ⊢
  generalize zup (n2 95 p27) 67 30 (some 95) = p28 at h28 ⊢
  generalize n3 95 g27 = g28 at h28 ⊢
  clear h27
  refine J_aload_n (i := 0) hT dX9_init_217 rfl rfl ?_
  refine J_iconst (v := 5) hT dX9_init_218 rfl ?_
  refine N_newI (b := 96) (kd := 0) (n := 5) hT (Or.inl ⟨rfl, rfl⟩) dX9_init_219 cw_ai rfl (by decide) (by decide) (by decide) (lenN rfl rfl) ?_
  refine C_putP hT fX9_95 (Or.inr ⟨rfl, rfl, wX9_95⟩) rfl dX9_init_221 (kt _) ?_
  have h29 := h28.step (f := 31) (b := 96) rfl (by decide) rfl
  generalize n1 96 s28 = s29 at h29 ⊢
  generalize zup (n2 96 p28) 67 31 (some 96) = p29 at h29 ⊢
  generalize n3 96 g28 = g29 at h29 ⊢
  clear h28
  refine J_aload_n (i := 0) hT dX9_init_224 rfl rfl ?_
  refine J_iconst (v := 5) hT dX9_init_225 rfl ?_
  refine N_newI (b := 97) (kd := 0) (n := 5) hT (Or.inl ⟨rfl, rfl⟩) dX9_init_226 cw_ai rfl (by decide) (by decide) (by decide) (lenN rfl rfl) ?_
  refine C_putP hT fX9_98 (Or.inr ⟨rfl, rfl, wX9_98⟩) rfl dX9_init_228 (kt _) ?_
  have h30 := h29.step (f := 32) (b := 97) rfl (by decide) rfl
  generalize n1 97 s29 = s30 at h30 ⊢
  generalize zup (n2 97 p29) 67 32 (some 97) = p30 at h30 ⊢
  generalize n3 97 g29 = g30 at h30 ⊢
  clear h29
  refine J_aload_n (i := 0) hT dX9_init_231 rfl rfl ?_
  refine J_bipush (v := 40) hT dX9_init_232 rfl ?_
  refine N_newI (b := 98) (kd := 0) (n := 40) hT (Or.inl ⟨rfl, rfl⟩) dX9_init_234 cw_ai rfl (by decide) (by decide) (by decide) (lenN rfl rfl) ?_
  refine C_putP hT fX9_101 (Or.inr ⟨rfl, rfl, wX9_101⟩) rfl dX9_init_236 (kt _) ?_
  have h31 := h30.step (f := 35) (b := 98) rfl (by decide) rfl
  generalize n1 98 s30 = s31 at h31 ⊢
  generalize zup (n2 98 p30) 67 35 (some 98) = p31 at h31 ⊢
  generalize n3 98 g30 = g31 at h31 ⊢
  clear h30
  refine J_aload_n (i := 0) hT dX9_init_239 rfl rfl ?_
  refine J_bipush (v := 40) hT dX9_init_240 rfl ?_
  refine N_newI (b := 99) (kd := 0) (n := 40) hT (Or.inl ⟨rfl, rfl⟩) dX9_init_242 cw_ai rfl (by decide) (by decide) (by decide) (lenN rfl rfl) ?_
  refine C_putP hT fX9_104 (Or.inr ⟨rfl, rfl, wX9_104⟩) rfl dX9_init_244 (kt _) ?_
  have h32 := h31.step (f := 36) (b := 99) rfl (by decide) rfl
  generalize n1 99 s31 = s32 at h32 ⊢
  generalize zup (n2 99 p31) 67 36 (some 99) = p32 at h32 ⊢
  generalize n3 99 g31 = g32 at h32 ⊢
  clear h31
  refine J_aload_n (i := 0) hT dX9_init_247 rfl rfl ?_
  refine J_bipush (v := 40) hT dX9_init_248 rfl ?_
  refine N_newI (b := 100) (kd := 0) (n := 40) hT (Or.inl ⟨rfl, rfl⟩) dX9_init_250 cw_ai rfl (by decide) (by decide) (by decide) (lenN rfl rfl) ?_
  refine C_putP hT fX9_107 (Or.inr ⟨rfl, rfl, wX9_107⟩) rfl dX9_init_252 (kt _) ?_
  have h33 := h32.step (f := 37) (b := 100) rfl (by decide) rfl
  generalize n1 100 s32 = s33 at h33 ⊢
  generalize zup (n2 100 p32) 67 37 (some 100) = p33 at h33 ⊢
  generalize n3 100 g32 = g33 at h33 ⊢
  clear h32
  refine J_aload_n (i := 0) hT dX9_init_255 rfl rfl ?_
  refine J_bipush (v := 40) hT dX9_init_256 rfl ?_
  refine N_newI (b := 101) (kd := 0) (n := 40) hT (Or.inl ⟨rfl, rfl⟩) dX9_init_258 cw_ai rfl (by decide) (by decide) (by decide) (lenN rfl rfl) ?_
  refine C_putP hT fX9_110 (Or.inr ⟨rfl, rfl, wX9_110⟩) rfl dX9_init_260 (kt _) ?_
  have h34 := h33.step (f := 38) (b := 101) rfl (by decide) rfl
  generalize n1 101 s33 = s34 at h34 ⊢
  generalize zup (n2 101 p33) 67 38 (some 101) = p34 at h34 ⊢
  generalize n3 101 g33 = g34 at h34 ⊢
  clear h33
  refine J_aload_n (i := 0) hT dX9_init_263 rfl rfl ?_
  refine J_bipush (v := 40) hT dX9_init_264 rfl ?_
  refine N_newI (b := 102) (kd := 0) (n := 40) hT (Or.inl ⟨rfl, rfl⟩) dX9_init_266 cw_ai rfl (by decide) (by decide) (by decide) (lenN rfl rfl) ?_
  refine C_putP hT fX9_113 (Or.inr ⟨rfl, rfl, wX9_113⟩) rfl dX9_init_268 (kt _) ?_
  have h35 := h34.step (f := 39) (b := 102) rfl (by decide) rfl
  generalize n1 102 s34 = s35 at h35 ⊢
  generalize zup (n2 102 p34) 67 39 (some 102) = p35 at h35 ⊢
  generalize n3 102 g34 = g35 at h35 ⊢
  clear h34
  refine J_aload_n (i := 0) hT dX9_init_271 rfl rfl ?_
  refine J_sipush (v := 1200) hT dX9_init_272 rfl ?_
  refine N_newI (b := 103) (kd := 0) (n := 1200) hT (Or.inl ⟨rfl, rfl⟩) dX9_init_275 cw_ai rfl (by decide) (by decide) (by decide) (lenN rfl rfl) ?_
  refine C_putP hT fX9_116 (Or.inr ⟨rfl, rfl, wX9_116⟩) rfl dX9_init_277 (kt _) ?_
  have h36 := h35.step (f := 40) (b := 103) rfl (by decide) rfl
  generalize n1 103 s35 = s36 at h36 ⊢
  generalize zup (n2 103 p35) 67 40 (some 103) = p36 at h36 ⊢
  generalize n3 103 g35 = g36 at h36 ⊢
  clear h35
  refine J_aload_n (i := 0) hT dX9_init_280 rfl rfl ?_
  refine J_bipush (v := 40) hT dX9_init_281 rfl ?_
  refine N_newI (b := 104) (kd := 0) (n := 40) hT (Or.inl ⟨rfl, rfl⟩) dX9_init_283 cw_ai rfl (by decide) (by decide) (by decide) (lenN rfl rfl) ?_
  refine C_putP hT fX9_119 (Or.inr ⟨rfl, rfl, wX9_119⟩) rfl dX9_init_285 (kt _) ?_
  have h37 := h36.step (f := 41) (b := 104) rfl (by decide) rfl
  generalize n1 104 s36 = s37 at h37 ⊢
  generalize zup (n2 104 p36) 67 41 (some 104) = p37 at h37 ⊢
  generalize n3 104 g36 = g37 at h37 ⊢
  clear h36
  refine J_aload_n (i := 0) hT dX9_init_288 rfl rfl ?_
  refine J_bipush (v := 32) hT dX9_init_289 rfl ?_
  refine N_newG (b := 105) (n := 32) hT dX9_init_291 aw_l rfl (by decide) (by decide) (by decide) (lenN rfl rfl) ?_
  refine C_putP hT fX9_122 (Or.inr ⟨rfl, rfl, wX9_122⟩) rfl dX9_init_293 (kt _) ?_
  have h38 := h37.step (f := 43) (b := 105) rfl (by decide) rfl
  generalize n1 105 s37 = s38 at h38 ⊢
  generalize zup (n2 105 p37) 67 43 (some 105) = p38 at h38 ⊢
  generalize n3 105 g37 = g38 at h38 ⊢
  clear h37
  refine J_mu (show _ = zA4 (zals μ rlL) s38 p38 g38 from rfl) ?_
  refine J_aload_n (i := 0) hT dX9_init_296 rfl rfl ?_
  refine R_callV0 (ci := 9) hY dX9_init_297 mfX9_begins miX9_begins msX9_begins kX9_126 ⟨by decide, rfl⟩ (rk (h38.ref hN hk)) (c_X9_begins hZ (h38.ref hN hk)) rfl (by decide) rfl rfl (Nat.le_of_ble_eq_true rfl) (by decide) (by decide) ?_
  exact J_vret hT dX9_init_300 rfl ⟨rfl, _, _, _, rfl, h38⟩ (by decide) (by decide)
