/-! ===== quotients, rests, constants; the law's world ===== -/
theorem nI_div {x d : Nat} (hx : x < 2 ^ 31) (hd : d < 2 ^ 31) : nI x / nI d = nI (x / d) := by
  have hq : x / d < 2 ^ 31 := Nat.lt_of_le_of_lt (Nat.div_le_self x d) hx
  apply Int32.toInt_inj.mp
  rw [Int32.toInt_div, nI_toInt hx, nI_toInt hd, nI_toInt hq]
  rw [show (Int.tdiv (x : Int) (d : Int)) = ((x / d : Nat) : Int) from rfl]
  generalize x / d = q at hq ⊢
  apply Int.bmod_eq_of_le <;> omega
theorem nI_rem {x d : Nat} (hx : x < 2 ^ 31) (hd : d < 2 ^ 31) : nI x - nI x / nI d * nI d = nI (x % d) := by
  rw [nI_div hx hd, nI_mul, nI_sub (Nat.div_mul_le_self x d)]
  congr 1
  have h1 := Nat.div_add_mod x d
  have h2 := Nat.mul_comm d (x / d)
  omega
theorem shr_bit (m : Int32) {i : Nat} (h : i < 32) : ((m >>> (nI i &&& 31)) &&& 1) = zbi (bt m i) := by
  have hz : ∀ b : Bool, ∀ j, j < 32 → bt (zbi b) j = (b && decide (j = 0)) := by decide +kernel
  apply b_ext
  intro j hj
  rw [b_and, b_sshr i h m hj, b_1 j hj, hz _ j hj]
  by_cases q : j = 0
  · subst q
    have : i + 0 < 32 := by omega
    rw [if_pos this, Nat.add_zero]
  · rw [decide_eq_false q, Bool.and_false, Bool.and_false]
section ZH0
variable {τ : zT} {M : zM} {kk mc ms : Nat} {F : State → Prop} {pc : Nat} {L : List (Option Value)} {st : List Value} {μ : zMem} {c k : Nat}
theorem J_idiv (hT : zCx τ M kk mc ms) {x d : Nat} {vx vd : Int32} (hd : decode M.2.1 pc = .ok (.idiv, 1)) (ex : vx = nI x) (ed : vd = nI d) (hx : x < 2147483648) (h0 : 0 < d) (h2 : d < 2147483648) (h : zJ τ F (pc + 1) L (.int (nI (x / d)) :: st) μ c k) : zJ τ F pc L (.int vd :: .int vx :: st) μ c k := by
  intro ad H locs ls hw hL hst
  subst ex; subst ed
  refine lv_idiv hT.1 hT.2.1 hd (nI_ne0 h0 h2) ?_
  rw [nI_div hx h2]
  have hst := zoks_tl hst
  have hst := zoks_tl hst
  exact h ad H locs ls hw hL (zoks_cons (zok_int _ _) hst)
theorem J_irem (hT : zCx τ M kk mc ms) {x d : Nat} {vx vd : Int32} (hd : decode M.2.1 pc = .ok (.irem, 1)) (ex : vx = nI x) (ed : vd = nI d) (hx : x < 2147483648) (h0 : 0 < d) (h2 : d < 2147483648) (h : zJ τ F (pc + 1) L (.int (nI (x % d)) :: st) μ c k) : zJ τ F pc L (.int vd :: .int vx :: st) μ c k := by
  intro ad H locs ls hw hL hst
  subst ex; subst ed
  refine lv_irem hT.1 hT.2.1 hd (nI_ne0 h0 h2) ?_
  rw [nI_rem hx h2]
  have hst := zoks_tl hst
  have hst := zoks_tl hst
  exact h ad H locs ls hw hL (zoks_cons (zok_int _ _) hst)
theorem J_ldc (hT : zCx τ M kk mc ms) {idx : Nat} {v : Int32} (hd : decode M.2.1 pc = .ok (.ldc idx, 2)) (hw1 : Cond.constant M.1.cls idx v ∈ ztb) (h : zJ τ F (pc + 2) L (.int v :: st) μ c k) : zJ τ F pc L st μ c k := by
  intro ad H locs ls hw hL hst
  refine lv_ldc hT.1 hT.2.1 hT.own (hT.ws _ hw1) hd ?_
  exact h ad H locs ls hw hL (zoks_cons (zok_int _ _) hst)
end ZH0
set_option maxRecDepth 20000 in
theorem lc_7 : Cond.constant RL 7 58027 ∈ ztb := ztb_in (zc2 (List.mem_of_getElem? (i := 63) rfl)) rfl
set_option maxRecDepth 20000 in
theorem lc_8 : Cond.constant RL 8 2147483647 ∈ ztb := ztb_in (zc2 (List.mem_of_getElem? (i := 64) rfl)) rfl
set_option maxRecDepth 20000 in
theorem lc_123 : Cond.constant RL 123 (-1000000) ∈ ztb := ztb_in (zc4 (List.mem_of_getElem? (i := 119) rfl)) rfl
set_option maxRecDepth 20000 in
theorem lc_124 : Cond.constant RL 124 1000000 ∈ ztb := ztb_in (zc4 (List.mem_of_getElem? (i := 120) rfl)) rfl
/-! a row of the law's own is no part of the class's world -/
def lwR (μ : zMem) (r : Nat) : Prop := 67 ≤ r ∧ (r < 70 ∨ (zK μ r = 0 ∧ zL μ r = 47))
theorem zFo.row {μ : zMem} {σ σ' : zS2} {π : zP2} {f n : Nat} {w : Nat → Nat} {a b c : Int32} (h : zFo μ σ π f w n a b c) (hn : n ≤ 30) {r : Nat} (hr : lwR μ r) (e : ∀ x, x ≠ r → ∀ j, σ' x j = σ x j) : zFo μ σ' π f w n a b c := by
  obtain ⟨h1, h2, h3, h4, h5, h6, h7, ca, h8, h9, h10, h11, h12, h13⟩ := h
  have hf : f ≠ r := by
    rintro rfl
    rcases hr.2 with q | q
    · have := hr.1; unfold Im at h1; omega
    · omega
  have hc : ca ≠ r := by
    rintro rfl
    rcases hr.2 with q | q
    · have := hr.1; unfold Im at h9; omega
    · omega
  rw [← e f hf 1] at h4 h5 h6 h7
  exact ⟨h1, h2, h3, h4, h5, h6, h7, ca, h8, h9, h10, h11, h12, fun k hk => (e ca hc k).trans (h13 k hk)⟩
theorem CW.row {n : Nat} {S : zS2} {μ : zMem} {σ σ' : zS2} {π : zP2} (h : CW n S μ σ π) (hd : ∀ c, c < 12 → cdn S c ≤ 30) (h3 : ∀ k, stN S k ≤ 30) {r : Nat} (hr : lwR μ r) (e : ∀ x, x ≠ r → ∀ j, σ' x j = σ x j) : CW n S μ σ' π := by
  have er : ∀ x, x < 67 → ∀ j, σ' x j = σ x j := fun x hx j => e x (by have := hr.1; omega) j
  refine ⟨h.1, ⟨h.t35.1, ⟨fun i hi => (er _ (by omega) _).trans (h.t35.2.1.1 i hi), fun i hi => (er _ (by omega) _).trans (h.t35.2.1.2 i hi)⟩, h.t35.2.2.mv (by have := h.nn; omega) zgr.rf (fun b hb j => er b (by omega) j) (fun _ _ _ => rfl)⟩, h.z5.mv (by have := h.nn; omega) zgr.rf (fun b hb j => er b (by omega) j) (fun _ _ _ => rfl), ⟨?_, h.m.2⟩, (er 0 (by decide) 5).trans h.ct, fun k hk => ?_, ⟨(er 66 (by decide) 0).trans h.one.1, (er 66 (by decide) 1).trans h.one.2⟩, (er 1 (by decide) 1).trans h.tl, fun i hi => (er 2 (by decide) i).trans (h.tx hi)⟩
  · have hm := h.m.1
    refine ⟨hm.1, ⟨fun i hi => (er _ (by omega) _).trans (hm.nc hi), fun i hi => (er _ (by omega) _).trans (hm.ns hi)⟩, fun x hx k hk => ?_, ?_, ?_, ?_, fun s h5 h1 => ?_, fun c hc => ?_⟩
    · have := (by decide : ∀ x, x ∈ lks → x.1 + x.2.2.1 ≤ 30) x hx
      rw [er _ (by omega)]; exact hm.2.2.1 x hx k hk
    · rw [er 5 (by decide)]; exact hm.d
    · rw [er 5 (by decide)]; exact hm.w
    · rw [er 5 (by decide)]; exact hm.wk
    · rw [er _ (by omega), er _ (by omega)]; exact hm.st s h5 h1
    · obtain ⟨f, e1, hF⟩ := hm.fm hc
      exact ⟨f, e1, hF.row (hd c hc) hr e⟩
  · obtain ⟨sp, e1, h1, h2, h4, h5, h6, h7, h8, h9, h10⟩ := h.st hk
    have hs : sp ≠ r := by
      rintro rfl
      rcases hr.2 with q | q
      · have := hr.1; unfold Io at h1; omega
      · omega
    refine ⟨sp, e1, h1, h2, h4, (e sp hs 0).trans h5, (e sp hs 1).trans h6, (e sp hs 2).trans h7, (e sp hs 3).trans h8, (e sp hs 5).trans h9, fun z => ?_⟩
    obtain ⟨f, f1, f2⟩ := h10 z
    exact ⟨f, f1, f2.row (h3 k) hr e⟩
theorem CW.grow2 {n : Nat} {S : zS2} {μ μ' : zMem} {σ σ' : zS2} {π π' : zP2} (h : CW n S μ σ π) (hg : zgr μ μ') (e : ∀ b, b < zN μ → ∀ j, σ' b j = σ b j ∧ π' b j = π b j) : CW n S μ' σ' π' := by
  have hn := h.nn
  have im : ∀ t, ta t → ∀ b, (t ≤ b ∧ b < t + 30) ∨ (Im b ∧ b < zN μ) → b < zN μ := fun t ht b hb => by unfold Im at hb; unfold ta at ht; omega
  refine h.mv hg (fun b hb j => (e b (by omega) j).1) (fun b hb j => (e b (by omega) j).2) ⟨h.m.1.fr hg (fun b hb j => (e b (im 5 ta5 b hb) j).1) (fun b hb j => (e b (im 5 ta5 b hb) j).2), h.m.2.mv (fun j => (e _ (by omega) j).2) (fun c _ => rfl)⟩ ⟨h.t35.1.mv hg (fun b j h1 h2 _ => (e b (by omega) j).2), ⟨fun i hi => by rw [(e _ (by omega) _).1]; exact h.t35.2.1.1 i hi, fun i hi => by rw [(e _ (by omega) _).1]; exact h.t35.2.1.2 i hi⟩⟩ (fun _ _ _ _ => rfl) (fun _ _ _ _ => rfl) rfl (fun _ => rfl)
/-- the class's world, its state and what stands of it -/
def PW (n L : Nat) (μ : zMem) (σ : zS2) (π : zP2) (S : zS2) : Prop := CV n S ∧ TX L S ∧ (∀ k, stN S k ≤ 30) ∧ CW n S μ σ π
section ZPW
variable {n L : Nat} {μ μ' : zMem} {σ σ' : zS2} {π π' : zP2} {S : zS2}
theorem PW.cv (h : PW n L μ σ π S) : CV n S := h.1
theorem PW.tx (h : PW n L μ σ π S) : TX L S := h.2.1
theorem PW.s30 (h : PW n L μ σ π S) : ∀ k, stN S k ≤ 30 := h.2.2.1
theorem PW.cw (h : PW n L μ σ π S) : CW n S μ σ π := h.2.2.2
theorem PW.ri (h : PW n L μ σ π S) : RI S := h.1.1.ri
theorem PW.xi (h : PW n L μ σ π S) : XI S := h.1.kq.1.2.1
theorem PW.n40 (h : PW n L μ σ π S) : n ≤ 40 := h.1.1.1
theorem PW.row (h : PW n L μ σ π S) {r : Nat} (hr : lwR μ r) (e : ∀ x, x ≠ r → ∀ j, σ' x j = σ x j) : PW n L μ σ' π S := ⟨h.1, h.2.1, h.2.2.1, h.cw.row (fun c hc => (h.ri.1 c hc).1.1) h.s30 hr e⟩
theorem PW.grow (h : PW n L μ σ π S) (hg : zgr μ μ') (e : ∀ b, b < zN μ → ∀ j, σ' b j = σ b j ∧ π' b j = π b j) : PW n L μ' σ' π' S := ⟨h.1, h.2.1, h.2.2.1, h.cw.grow2 hg e⟩
theorem PW.to (h : PW n L μ σ π S) (hc : CW n S μ' σ' π') : PW n L μ' σ' π' S := ⟨h.1, h.2.1, h.2.2.1, hc⟩
end ZPW
