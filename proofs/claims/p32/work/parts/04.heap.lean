/-! ===== fields, arrays, making ===== -/
def zRX : Nat → String := fun c => match c with
  | 0 => RX0
  | 1 => RX1
  | 2 => RX2
  | 3 => RX3
  | 4 => RX4
  | 5 => RX5
  | 6 => RX6
  | 7 => RX7
  | _ => RX8
def zTX : Nat → u_T := fun c => match c with
  | 0 => TX0
  | 1 => TX1
  | 2 => TX2
  | 3 => TX3
  | 4 => TX4
  | 5 => TX5
  | 6 => TX6
  | 7 => TX7
  | _ => TX8
theorem zcl_at (ci : Nat) (h : ci < 9) : vwCl[ci]? = some (zRX ci, zTX ci, znf ci) := by
  match ci, h with
  | 0, _ => rfl
  | 1, _ => rfl
  | 2, _ => rfl
  | 3, _ => rfl
  | 4, _ => rfl
  | 5, _ => rfl
  | 6, _ => rfl
  | 7, _ => rfl
  | 8, _ => rfl
theorem znm (ci : Nat) (h : ci < 9) : ∀ a, a < znf ci → ∀ b, b < znf ci → a ≠ b → (zTX ci a).2.1 ≠ (zTX ci b).2.1 := by
  match ci, h with
  | 0, _ => exact nmX0
  | 1, _ => exact nmX1
  | 2, _ => exact nmX2
  | 3, _ => exact nmX3
  | 4, _ => exact nmX4
  | 5, _ => exact nmX5
  | 6, _ => exact nmX6
  | 7, _ => exact nmX7
  | 8, _ => exact nmX8
theorem ztyok (ci : Nat) (h : ci < 9) : ∀ k, k < znf ci → parseFieldDescriptor (zTX ci k).2.2.1 = some (zfty ci k) := by
  match ci, h with
  | 0, _ => exact tyX0_ok
  | 1, _ => exact tyX1_ok
  | 2, _ => exact tyX2_ok
  | 3, _ => exact tyX3_ok
  | 4, _ => exact tyX4_ok
  | 5, _ => exact tyX5_ok
  | 6, _ => exact tyX6_ok
  | 7, _ => exact tyX7_ok
  | 8, _ => exact tyX8_ok
set_option maxRecDepth 20000 in
theorem zlay0 : ∀ w ∈ u_ws RX0 TX0 5, w ∈ ztb := by
  intro w hw
  have e : u_ws RX0 TX0 5 = [(Jvm.Cond.laysFinal "Daemonsheet$Cell" "Daemonsheet$Cell" "number" "I"), (Jvm.Cond.lays "Daemonsheet$Cell" "Daemonsheet$Cell" "formula" "LDaemonsheet$Formula;"), (Jvm.Cond.lays "Daemonsheet$Cell" "Daemonsheet$Cell" "value" "I"), (Jvm.Cond.lays "Daemonsheet$Cell" "Daemonsheet$Cell" "depth" "I"), (Jvm.Cond.lays "Daemonsheet$Cell" "Daemonsheet$Cell" "held" "Z")] := by rfl
  rw [e] at hw
  simp only [List.mem_cons, List.not_mem_nil, or_false] at hw
  rcases hw with rfl | rfl | rfl | rfl | rfl
  · exact ztb_in (zc1 (List.mem_of_getElem? (i := 121) rfl)) rfl
  · exact ztb_in (zc1 (List.mem_of_getElem? (i := 123) rfl)) rfl
  · exact ztb_in (zc1 (List.mem_of_getElem? (i := 125) rfl)) rfl
  · exact ztb_in (zc1 (List.mem_of_getElem? (i := 127) rfl)) rfl
  · exact ztb_in (zc1 (List.mem_of_getElem? (i := 129) rfl)) rfl

set_option maxRecDepth 20000 in
theorem zlay1 : ∀ w ∈ u_ws RX1 TX1 2, w ∈ ztb := by
  intro w hw
  have e : u_ws RX1 TX1 2 = [(Jvm.Cond.laysFinal "Daemonsheet$Formula" "Daemonsheet$Formula" "code" "[I"), (Jvm.Cond.laysFinal "Daemonsheet$Formula" "Daemonsheet$Formula" "reads" "I")] := by rfl
  rw [e] at hw
  simp only [List.mem_cons, List.not_mem_nil, or_false] at hw
  rcases hw with rfl | rfl
  · exact ztb_in (zc1 (List.mem_of_getElem? (i := 91) rfl)) rfl
  · exact ztb_in (zc1 (List.mem_of_getElem? (i := 93) rfl)) rfl

set_option maxRecDepth 20000 in
theorem zlay2 : ∀ w ∈ u_ws RX2 TX2 6, w ∈ ztb := by
  intro w hw
  have e : u_ws RX2 TX2 6 = [(Jvm.Cond.laysFinal "Daemonsheet$Parser" "Daemonsheet$Parser" "text" "LDaemonsheet$Text;"), (Jvm.Cond.laysFinal "Daemonsheet$Parser" "Daemonsheet$Parser" "code" "[I"), (Jvm.Cond.lays "Daemonsheet$Parser" "Daemonsheet$Parser" "size" "I"), (Jvm.Cond.lays "Daemonsheet$Parser" "Daemonsheet$Parser" "reads" "I"), (Jvm.Cond.lays "Daemonsheet$Parser" "Daemonsheet$Parser" "place" "I"), (Jvm.Cond.lays "Daemonsheet$Parser" "Daemonsheet$Parser" "stuck" "Z")] := by rfl
  rw [e] at hw
  simp only [List.mem_cons, List.not_mem_nil, or_false] at hw
  rcases hw with rfl | rfl | rfl | rfl | rfl | rfl
  · exact ztb_in (zc1 (List.mem_of_getElem? (i := 60) rfl)) rfl
  · exact ztb_in (zc1 (List.mem_of_getElem? (i := 62) rfl)) rfl
  · exact ztb_in (zc1 (List.mem_of_getElem? (i := 64) rfl)) rfl
  · exact ztb_in (zc1 (List.mem_of_getElem? (i := 66) rfl)) rfl
  · exact ztb_in (zc1 (List.mem_of_getElem? (i := 68) rfl)) rfl
  · exact ztb_in (zc1 (List.mem_of_getElem? (i := 70) rfl)) rfl

set_option maxRecDepth 20000 in
theorem zlay3 : ∀ w ∈ u_ws RX3 TX3 2, w ∈ ztb := by
  intro w hw
  have e : u_ws RX3 TX3 2 = [(Jvm.Cond.lays "Daemonsheet$Reading" "Daemonsheet$Reading" "value" "I"), (Jvm.Cond.lays "Daemonsheet$Reading" "Daemonsheet$Reading" "tick" "I")] := by rfl
  rw [e] at hw
  simp only [List.mem_cons, List.not_mem_nil, or_false] at hw
  rcases hw with rfl | rfl
  · exact ztb_in (zc1 (List.mem_of_getElem? (i := 141) rfl)) rfl
  · exact ztb_in (zc1 (List.mem_of_getElem? (i := 143) rfl)) rfl

set_option maxRecDepth 20000 in
theorem zlay4 : ∀ w ∈ u_ws RX4 TX4 14, w ∈ ztb := by
  intro w hw
  have e : u_ws RX4 TX4 14 = [(Jvm.Cond.laysFinal "Daemonsheet$Service" "Daemonsheet$Service" "number" "I"), (Jvm.Cond.lays "Daemonsheet$Service" "Daemonsheet$Service" "state" "I"), (Jvm.Cond.lays "Daemonsheet$Service" "Daemonsheet$Service" "control" "I"), (Jvm.Cond.lays "Daemonsheet$Service" "Daemonsheet$Service" "limit" "I"), (Jvm.Cond.lays "Daemonsheet$Service" "Daemonsheet$Service" "needs" "I"), (Jvm.Cond.lays "Daemonsheet$Service" "Daemonsheet$Service" "demand" "I"), (Jvm.Cond.lays "Daemonsheet$Service" "Daemonsheet$Service" "delay" "I"), (Jvm.Cond.lays "Daemonsheet$Service" "Daemonsheet$Service" "lie" "I"), (Jvm.Cond.lays "Daemonsheet$Service" "Daemonsheet$Service" "load" "I"), (Jvm.Cond.lays "Daemonsheet$Service" "Daemonsheet$Service" "told" "I"), (Jvm.Cond.lays "Daemonsheet$Service" "Daemonsheet$Service" "starts" "I"), (Jvm.Cond.lays "Daemonsheet$Service" "Daemonsheet$Service" "startTick" "I"), (Jvm.Cond.lays "Daemonsheet$Service" "Daemonsheet$Service" "startDelay" "I"), (Jvm.Cond.lays "Daemonsheet$Service" "Daemonsheet$Service" "changedIn" "I")] := by rfl
  rw [e] at hw
  simp only [List.mem_cons, List.not_mem_nil, or_false] at hw
  rcases hw with rfl | rfl | rfl | rfl | rfl | rfl | rfl | rfl | rfl | rfl | rfl | rfl | rfl | rfl
  · exact ztb_in (zc1 (List.mem_of_getElem? (i := 180) rfl)) rfl
  · exact ztb_in (zc1 (List.mem_of_getElem? (i := 182) rfl)) rfl
  · exact ztb_in (zc1 (List.mem_of_getElem? (i := 184) rfl)) rfl
  · exact ztb_in (zc1 (List.mem_of_getElem? (i := 186) rfl)) rfl
  · exact ztb_in (zc1 (List.mem_of_getElem? (i := 188) rfl)) rfl
  · exact ztb_in (zc1 (List.mem_of_getElem? (i := 190) rfl)) rfl
  · exact ztb_in (zc1 (List.mem_of_getElem? (i := 192) rfl)) rfl
  · exact ztb_in (zc1 (List.mem_of_getElem? (i := 194) rfl)) rfl
  · exact ztb_in (zc1 (List.mem_of_getElem? (i := 196) rfl)) rfl
  · exact ztb_in (zc1 (List.mem_of_getElem? (i := 198) rfl)) rfl
  · exact ztb_in (zc1 (List.mem_of_getElem? (i := 200) rfl)) rfl
  · exact ztb_in (zc1 (List.mem_of_getElem? (i := 202) rfl)) rfl
  · exact ztb_in (zc1 (List.mem_of_getElem? (i := 204) rfl)) rfl
  · exact ztb_in (zc1 (List.mem_of_getElem? (i := 206) rfl)) rfl

set_option maxRecDepth 20000 in
theorem zlay5 : ∀ w ∈ u_ws RX5 TX5 6, w ∈ ztb := by
  intro w hw
  have e : u_ws RX5 TX5 6 = [(Jvm.Cond.laysFinal "Daemonsheet$Step" "Daemonsheet$Step" "kind" "I"), (Jvm.Cond.laysFinal "Daemonsheet$Step" "Daemonsheet$Step" "first" "I"), (Jvm.Cond.laysFinal "Daemonsheet$Step" "Daemonsheet$Step" "second" "I"), (Jvm.Cond.laysFinal "Daemonsheet$Step" "Daemonsheet$Step" "third" "I"), (Jvm.Cond.laysFinal "Daemonsheet$Step" "Daemonsheet$Step" "formula" "LDaemonsheet$Formula;"), (Jvm.Cond.laysFinal "Daemonsheet$Step" "Daemonsheet$Step" "tick" "I")] := by rfl
  rw [e] at hw
  simp only [List.mem_cons, List.not_mem_nil, or_false] at hw
  rcases hw with rfl | rfl | rfl | rfl | rfl | rfl
  · exact ztb_in (zc2 (List.mem_of_getElem? (i := 21) rfl)) rfl
  · exact ztb_in (zc2 (List.mem_of_getElem? (i := 23) rfl)) rfl
  · exact ztb_in (zc2 (List.mem_of_getElem? (i := 25) rfl)) rfl
  · exact ztb_in (zc2 (List.mem_of_getElem? (i := 27) rfl)) rfl
  · exact ztb_in (zc2 (List.mem_of_getElem? (i := 29) rfl)) rfl
  · exact ztb_in (zc2 (List.mem_of_getElem? (i := 31) rfl)) rfl

set_option maxRecDepth 20000 in
theorem zlay6 : ∀ w ∈ u_ws RX6 TX6 9, w ∈ ztb := by
  intro w hw
  have e : u_ws RX6 TX6 9 = [(Jvm.Cond.laysFinal "Daemonsheet$Table" "Daemonsheet$Table" "zero" "LDaemonsheet$Formula;"), (Jvm.Cond.laysFinal "Daemonsheet$Table" "Daemonsheet$Table" "cells" "[LDaemonsheet$Cell;"), (Jvm.Cond.laysFinal "Daemonsheet$Table" "Daemonsheet$Table" "order" "[LDaemonsheet$Cell;"), (Jvm.Cond.laysFinal "Daemonsheet$Table" "Daemonsheet$Table" "readings" "[LDaemonsheet$Reading;"), (Jvm.Cond.laysFinal "Daemonsheet$Table" "Daemonsheet$Table" "services" "[LDaemonsheet$Service;"), (Jvm.Cond.laysFinal "Daemonsheet$Table" "Daemonsheet$Table" "row" "[I"), (Jvm.Cond.lays "Daemonsheet$Table" "Daemonsheet$Table" "dirty" "I"), (Jvm.Cond.lays "Daemonsheet$Table" "Daemonsheet$Table" "now" "I"), (Jvm.Cond.lays "Daemonsheet$Table" "Daemonsheet$Table" "work" "I")] := by rfl
  rw [e] at hw
  simp only [List.mem_cons, List.not_mem_nil, or_false] at hw
  rcases hw with rfl | rfl | rfl | rfl | rfl | rfl | rfl | rfl | rfl
  · exact ztb_in (zc1 (List.mem_of_getElem? (i := 222) rfl)) rfl
  · exact ztb_in (zc1 (List.mem_of_getElem? (i := 224) rfl)) rfl
  · exact ztb_in (zc1 (List.mem_of_getElem? (i := 226) rfl)) rfl
  · exact ztb_in (zc1 (List.mem_of_getElem? (i := 228) rfl)) rfl
  · exact ztb_in (zc1 (List.mem_of_getElem? (i := 230) rfl)) rfl
  · exact ztb_in (zc1 (List.mem_of_getElem? (i := 232) rfl)) rfl
  · exact ztb_in (zc1 (List.mem_of_getElem? (i := 234) rfl)) rfl
  · exact ztb_in (zc1 (List.mem_of_getElem? (i := 236) rfl)) rfl
  · exact ztb_in (zc1 (List.mem_of_getElem? (i := 238) rfl)) rfl

set_option maxRecDepth 20000 in
theorem zlay7 : ∀ w ∈ u_ws RX7 TX7 2, w ∈ ztb := by
  intro w hw
  have e : u_ws RX7 TX7 2 = [(Jvm.Cond.laysFinal "Daemonsheet$Text" "Daemonsheet$Text" "letters" "[C"), (Jvm.Cond.lays "Daemonsheet$Text" "Daemonsheet$Text" "length" "I")] := by rfl
  rw [e] at hw
  simp only [List.mem_cons, List.not_mem_nil, or_false] at hw
  rcases hw with rfl | rfl
  · exact ztb_in (zc1 (List.mem_of_getElem? (i := 42) rfl)) rfl
  · exact ztb_in (zc1 (List.mem_of_getElem? (i := 44) rfl)) rfl

set_option maxRecDepth 20000 in
theorem zlay8 : ∀ w ∈ u_ws RX8 TX8 7, w ∈ ztb := by
  intro w hw
  have e : u_ws RX8 TX8 7 = [(Jvm.Cond.laysFinal "Daemonsheet" "Daemonsheet" "text" "LDaemonsheet$Text;"), (Jvm.Cond.laysFinal "Daemonsheet" "Daemonsheet" "parser" "LDaemonsheet$Parser;"), (Jvm.Cond.laysFinal "Daemonsheet" "Daemonsheet" "table" "LDaemonsheet$Table;"), (Jvm.Cond.laysFinal "Daemonsheet" "Daemonsheet" "spare" "LDaemonsheet$Table;"), (Jvm.Cond.laysFinal "Daemonsheet" "Daemonsheet" "kept" "[LDaemonsheet$Step;"), (Jvm.Cond.lays "Daemonsheet" "Daemonsheet" "keptCount" "I"), (Jvm.Cond.laysFinal "Daemonsheet" "Daemonsheet" "oneTick" "LDaemonsheet$Step;")] := by rfl
  rw [e] at hw
  simp only [List.mem_cons, List.not_mem_nil, or_false] at hw
  rcases hw with rfl | rfl | rfl | rfl | rfl | rfl | rfl
  · exact ztb_in (zc2 (List.mem_of_getElem? (i := 41) rfl)) rfl
  · exact ztb_in (zc2 (List.mem_of_getElem? (i := 43) rfl)) rfl
  · exact ztb_in (zc2 (List.mem_of_getElem? (i := 45) rfl)) rfl
  · exact ztb_in (zc2 (List.mem_of_getElem? (i := 47) rfl)) rfl
  · exact ztb_in (zc2 (List.mem_of_getElem? (i := 49) rfl)) rfl
  · exact ztb_in (zc2 (List.mem_of_getElem? (i := 51) rfl)) rfl
  · exact ztb_in (zc2 (List.mem_of_getElem? (i := 53) rfl)) rfl

theorem zlays (ci : Nat) (h : ci < 9) : ∀ w ∈ u_ws (zRX ci) (zTX ci) (znf ci), w ∈ ztb := by
  match ci, h with
  | 0, _ => exact zlay0
  | 1, _ => exact zlay1
  | 2, _ => exact zlay2
  | 3, _ => exact zlay3
  | 4, _ => exact zlay4
  | 5, _ => exact zlay5
  | 6, _ => exact zlay6
  | 7, _ => exact zlay7
  | 8, _ => exact zlay8
/-- a field by the constant pool of a class -/
def zFd (own : String) (idx ci kf : Nat) : Prop := ci < 9 ∧ kf < znf ci ∧ (zTX ci kf).1 = zRX ci ∧ (Cond.fieldLink own idx (zRX ci) (zTX ci kf).2.1 (zTX ci kf).2.2.1 ∈ ztb ∨ ∃ host, Cond.fieldLinkNest own idx (zRX ci) (zTX ci kf).2.1 (zTX ci kf).2.2.1 host ∈ lw_tbl)
section ZH
variable {τ : zT} {M : zM} {kk mc ms : Nat} {F : State → Prop} {pc : Nat} {L : List (Option Value)} {st : List Value} {μ : zMem} {c k : Nat}
theorem zCx.K (hT : zCx τ M kk mc ms) : va_K τ.2.2.2.2.2.2.2.2.2.2.1.2.1 vwCl (ztys τ.2.2.2.2.2.2.2.2.2.2.1.2.2) τ.2.2.2.2.1 := by
  obtain ⟨_, _, _, _, _, _, _, _, h, hW, _⟩ := hT
  exact va_K.moved hW.alike h.2.1
theorem zCx.own (hT : zCx τ M kk mc ms) : τ.2.2.2.2.1.vm.findClass M.1.cls = some τ.2.2.2.2.2.1.cls := hT.2.2.2.2.1
theorem zCx.ws (hT : zCx τ M kk mc ms) : ∀ w ∈ ztb, w.before τ.2.2.2.2.2.2.1 τ.2.2.2.2.1 = true := hT.2.2.2.2.2.1
theorem zCx.nestF (hT : zCx τ M kk mc ms) {a : String} {i : Nat} {b n d h : String} (hw : Cond.fieldLinkNest a i b n d h ∈ lw_tbl) : (Cond.fieldLinkNest a i b n d h).before τ.2.2.2.2.2.2.1 τ.2.2.2.2.1 = true := by
  obtain ⟨_, _, _, _, _, _, _, _, hs, hW, _⟩ := hT
  exact va_Nw.use rfl (va_Nw.warmF hW (hs.1 _ hw rfl))
theorem zCx.nestM (hT : zCx τ M kk mc ms) {a : String} {i : Nat} {x : MethodName} {h : String} (hw : Cond.methodLinkNest a i x h ∈ lw_tbl) : va_Nw (.methodLinkNest a i x h) τ.2.2.2.2.1 := by
  obtain ⟨_, _, _, _, _, _, _, _, hs, hW, _⟩ := hT
  exact va_Nw.warmM hW (hs.1 _ hw rfl)
theorem zCx.A (hT : zCx τ M kk mc ms) : ∀ q, τ.2.2.2.2.1.heap.size ≤ q → zA τ.2.2.2.2.2.2.2.2.2.2.1 q := by
  obtain ⟨_, _, _, _, _, _, _, _, _, _, hB, _⟩ := hT
  exact fun q h => Nat.le_trans hB.1 h
theorem zfs_at {ad : Nat → Nat} {a ci kf : Nat} (hk : kf < znf ci) : ((List.range (znf ci)).map (fun j => zfv ad (zfty ci j) (zI μ a j) (zP μ a j)))[kf]? = some (zfv ad (zfty ci kf) (zI μ a kf) (zP μ a kf)) := by simp [hk]
theorem J_get (hT : zCx τ M kk mc ms) {a ci kf idx : Nat} (hf : zFd M.1.cls idx ci kf) (hd : decode M.2.1 pc = .ok (.getfield idx, 3)) (hk : zK μ a = ci + 8) {v : Value} (hv : ∀ ad, zfv ad (zfty ci kf) (zI μ a kf) (zP μ a kf) = ztv ad v) (hvo : zOK μ → a < zN μ → zok (zN μ) v)
    (h : zJ τ F (pc + 3) L (v :: st) μ c k) : zJ τ F pc L (.ref a :: st) μ c k := by
  intro ad H locs ls hw hL hst
  obtain ⟨hc, hkf, h1, hl⟩ := hf
  have ha : a < zN μ := zok_lt (zoks_hd hst)
  have he := zws_at τ.2.2.2.2.2.2.2.2.2.2.1.2.2 ad μ ha
  rw [zent_o hk] at he
  have hP := hw.1.1
  have h2 := h ad H locs ls hw hL (zoks_cons (hvo hw.1.2.2 ha) (zoks_tl hst))
  rcases hl with hl | ⟨host, hl⟩
  · exact va_get hT.1 hT.2.1 hT.ws (zlays ci hc) hT.own hT.K hP a he (zcl_at ci hc) kf hkf (hT.ws _ hl) (fun x hx => by rw [← h1]; exact hx) ((zfs_at hkf).trans (congrArg some (hv ad))) hd h2
  · exact va_getN hT.1 hT.2.1 hT.ws (zlays ci hc) hT.own hT.K hP a he (zcl_at ci hc) kf hkf (hT.nestF hl) (fun x hx => by rw [← h1]; exact hx) ((zfs_at hkf).trans (congrArg some (hv ad))) hd h2
theorem J_getI (hT : zCx τ M kk mc ms) {a ci kf idx : Nat} (hf : zFd M.1.cls idx ci kf) (hr : zrt (zfty ci kf) = false) (hd : decode M.2.1 pc = .ok (.getfield idx, 3)) (hk : zK μ a = ci + 8)
    (h : zJ τ F (pc + 3) L (.int (zI μ a kf) :: st) μ c k) : zJ τ F pc L (.ref a :: st) μ c k :=
  J_get hT hf hd hk (fun ad => by simp [zfv, hr, ztv_int]) (fun _ _ => zok_int _ _) h
theorem J_getP (hT : zCx τ M kk mc ms) {a ci kf idx r : Nat} (hf : zFd M.1.cls idx ci kf) (hr : zrt (zfty ci kf) = true) (hd : decode M.2.1 pc = .ok (.getfield idx, 3)) (hk : zK μ a = ci + 8) (hp : zP μ a kf = some r)
    (h : zJ τ F (pc + 3) L (.ref r :: st) μ c k) : zJ τ F pc L (.ref a :: st) μ c k :=
  J_get hT hf hd hk (fun ad => by simp [zfv, hr, hp, va_rf, ztv_ref]) (fun ho ha => zok_ref (ho a kf r ha hp)) h
theorem J_getN (hT : zCx τ M kk mc ms) {a ci kf idx : Nat} (hf : zFd M.1.cls idx ci kf) (hr : zrt (zfty ci kf) = true) (hd : decode M.2.1 pc = .ok (.getfield idx, 3)) (hk : zK μ a = ci + 8) (hp : zP μ a kf = none)
    (h : zJ τ F (pc + 3) L (.null :: st) μ c k) : zJ τ F pc L (.ref a :: st) μ c k :=
  J_get hT hf hd hk (fun ad => by simp [zfv, hr, hp, va_rf, ztv_null]) (fun ho ha => zok_null _) h
theorem zHS_set {ad : Nat → Nat} {μ' : zMem} {H1 : Heap} {locs locs1 : List Loc} {H : Heap} {W1 : va_W} (hw : zHS τ ad μ H locs) (hn : zN μ' = zN μ) (hok : zOK μ') (e : W1 = zws τ.2.2.2.2.2.2.2.2.2.2.1.2.2 ad μ')
    (h1 : va_P τ.2.2.2.2.2.2.2.2.2.2.1.2.1 vwCl W1 H1) (h2 : va_D (zA τ.2.2.2.2.2.2.2.2.2.2.1) W1) (h3 : va_S (zA τ.2.2.2.2.2.2.2.2.2.2.1) τ.2.2.2.2.1.heap H1 locs1) : zHS τ ad μ' H1 locs1 := by
  subst e
  exact ⟨⟨h1, h2, hok⟩, h3, hw.2.2.1, by rw [hn]; exact hw.2.2.2⟩
theorem J_put (hT : zCx τ M kk mc ms) {a ci kf idx : Nat} (hf : zFd M.1.cls idx ci kf) (hfin : (zTX ci kf).2.2.2 = false ∨ (M.1.name = "<init>" ∧ zRX ci = M.1.cls ∧ Cond.fieldLink M.1.cls idx (zRX ci) (zTX ci kf).2.1 (zTX ci kf).2.2.1 ∈ ztb)) (hd : decode M.2.1 pc = .ok (.putfield idx, 3)) (hk : zK μ a = ci + 8) {v : Value} {μ' : zMem} (hn : zN μ' = zN μ)
    (hnar : ∀ ad, narrow (zfty ci kf) (ztv ad v) = ztv ad v) (hfit : ∀ ad, fits (zfty ci kf) (ztv ad v) = true)
    (he : ∀ cA ad, zent cA ad μ' a = .inr (ci, ((List.range (znf ci)).map (fun j => zfv ad (zfty ci j) (zI μ a j) (zP μ a j))).set kf (ztv ad v))) (ho : ∀ cA ad b, b ≠ a → zent cA ad μ' b = zent cA ad μ b) (hok : zOK μ → a < zN μ → zok (zN μ) v → zOK μ')
    (h : zJ τ F (pc + 3) L st μ' c k) : zJ τ F pc L (v :: .ref a :: st) μ c k := by
  intro ad H locs ls hw hL hst
  obtain ⟨hc, hkf, h1, hl⟩ := hf
  have ha : a < zN μ := zok_lt (zoks_hd (zoks_tl hst))
  have hea := zws_at τ.2.2.2.2.2.2.2.2.2.2.1.2.2 ad μ ha
  rw [zent_o hk] at hea
  have hP := hw.1.1
  have hst' : zoks (zN μ') st := by rw [hn]; exact zoks_tl (zoks_tl hst)
  have hL' : zLo ad (zN μ') L ls := by rw [hn]; exact hL
  have hset := zws_set (cA := τ.2.2.2.2.2.2.2.2.2.2.1.2.2) (ad := ad) (a := a) hn (he _ ad) (fun b hb => ho _ ad b hb)
  have hlen : kf < ((List.range (znf ci)).map (fun j => zfv ad (zfty ci j) (zI μ a j) (zP μ a j))).length := by simp [hkf]
  rcases hfin with hfin | ⟨hi, hdc, hl⟩
  · rcases hl with hl | ⟨host, hl⟩
    · exact va_put hT.1 hT.2.1 hT.ws (zlays ci hc) (zfty ci) (ztyok ci hc) (znm ci hc) hT.own hT.K hP hw.1.2.1 hw.2.1 a hea (zcl_at ci hc) kf hkf (hT.ws _ hl) (fun x hx => by rw [← h1]; exact hx) hfin (ztyok ci hc kf hkf) (hnar ad) (hfit ad) hlen hd (fun H1 locs1 q1 q2 q3 => h ad H1 locs1 ls (zHS_set hw hn (hok hw.1.2.2 ha (zoks_hd hst)) hset q1 q2 q3) hL' hst')
    · exact va_putN hT.1 hT.2.1 hT.ws (zlays ci hc) (zfty ci) (ztyok ci hc) (znm ci hc) hT.own hT.K hP hw.1.2.1 hw.2.1 a hea (zcl_at ci hc) kf hkf (hT.nestF hl) (fun x hx => by rw [← h1]; exact hx) hfin (ztyok ci hc kf hkf) (hnar ad) (hfit ad) hlen hd (fun H1 locs1 q1 q2 q3 => h ad H1 locs1 ls (zHS_set hw hn (hok hw.1.2.2 ha (zoks_hd hst)) hset q1 q2 q3) hL' hst')
  · cases hq : (zTX ci kf).2.2.2 with
    | false => exact va_put hT.1 hT.2.1 hT.ws (zlays ci hc) (zfty ci) (ztyok ci hc) (znm ci hc) hT.own hT.K hP hw.1.2.1 hw.2.1 a hea (zcl_at ci hc) kf hkf (hT.ws _ hl) (fun x hx => by rw [← h1]; exact hx) hq (ztyok ci hc kf hkf) (hnar ad) (hfit ad) hlen hd (fun H1 locs1 q1 q2 q3 => h ad H1 locs1 ls (zHS_set hw hn (hok hw.1.2.2 ha (zoks_hd hst)) hset q1 q2 q3) hL' hst')
    | true => exact va_putF hT.1 hT.2.1 hT.ws (zlays ci hc) (zfty ci) (ztyok ci hc) (znm ci hc) hT.own hT.K hP hw.1.2.1 hw.2.1 a hea (zcl_at ci hc) kf hkf (hT.ws _ hl) (fun x hx => by rw [← h1]; exact hx) hq (hT.2.2.2.2.2.2.2.1.trans hi) (h1.trans hdc) (ztyok ci hc kf hkf) (hnar ad) (hfit ad) hlen hd (fun H1 locs1 q1 q2 q3 => h ad H1 locs1 ls (zHS_set hw hn (hok hw.1.2.2 ha (zoks_hd hst)) hset q1 q2 q3) hL' hst')
theorem zOK_sI {a i : Nat} {v : Int32} (h : zOK μ) : zOK (zsI μ a i v) := h
theorem zOK_sG {a i : Nat} {v : Int64} (h : zOK μ) : zOK (zsG μ a i v) := h
theorem zOK_sP {a i : Nat} {v : Option Nat} (h : zOK μ) (hv : ∀ r, v = some r → r < zN μ) : zOK (zsP μ a i v) := by
  intro b j r hb hp
  rw [zP_sP] at hp
  split at hp
  · exact hv r hp
  · exact h b j r hb hp
theorem zent_o_sI {cA : Nat → ClassId} {ad : Nat → Nat} {a ci kf : Nat} {v : Int32} (hk : zK μ a = ci + 8) (hr : zrt (zfty ci kf) = false) : zent cA ad (zsI μ a kf v) a = .inr (ci, ((List.range (znf ci)).map (fun j => zfv ad (zfty ci j) (zI μ a j) (zP μ a j))).set kf (.int v)) := by
  rw [zent_o (μ := zsI μ a kf v) hk, zfs_set_i hr]
theorem zent_o_sP {cA : Nat → ClassId} {ad : Nat → Nat} {a ci kf : Nat} {v : Option Nat} (hk : zK μ a = ci + 8) (hr : zrt (zfty ci kf) = true) : zent cA ad (zsP μ a kf v) a = .inr (ci, ((List.range (znf ci)).map (fun j => zfv ad (zfty ci j) (zI μ a j) (zP μ a j))).set kf (va_rf (v.map ad))) := by
  rw [zent_o (μ := zsP μ a kf v) hk, zfs_set_p hr]
theorem J_putI (hT : zCx τ M kk mc ms) {a ci kf idx : Nat} {v : Int32} (hf : zFd M.1.cls idx ci kf) (hfin : (zTX ci kf).2.2.2 = false ∨ (M.1.name = "<init>" ∧ zRX ci = M.1.cls ∧ Cond.fieldLink M.1.cls idx (zRX ci) (zTX ci kf).2.1 (zTX ci kf).2.2.1 ∈ ztb)) (hr : zfty ci kf = .int) (hd : decode M.2.1 pc = .ok (.putfield idx, 3)) (hk : zK μ a = ci + 8)
    (h : zJ τ F (pc + 3) L st (zsI μ a kf v) c k) : zJ τ F pc L (.int v :: .ref a :: st) μ c k :=
  J_put (μ' := zsI μ a kf v) hT hf hfin hd hk rfl (fun _ => by rw [hr]; rfl) (fun _ => by rw [hr]; rfl) (fun cA ad => zent_o_sI hk (by rw [hr]; rfl)) (fun cA ad b hb => zent_sI_ne cA ad μ a kf v b hb) (fun ho _ _ => zOK_sI ho) h
theorem J_putZ (hT : zCx τ M kk mc ms) {a ci kf idx : Nat} {v : Int32} (hf : zFd M.1.cls idx ci kf) (hfin : (zTX ci kf).2.2.2 = false ∨ (M.1.name = "<init>" ∧ zRX ci = M.1.cls ∧ Cond.fieldLink M.1.cls idx (zRX ci) (zTX ci kf).2.1 (zTX ci kf).2.2.1 ∈ ztb)) (hr : zfty ci kf = .boolean) (hz : v = 0 ∨ v = 1) (hd : decode M.2.1 pc = .ok (.putfield idx, 3)) (hk : zK μ a = ci + 8)
    (h : zJ τ F (pc + 3) L st (zsI μ a kf v) c k) : zJ τ F pc L (.int v :: .ref a :: st) μ c k :=
  J_put (μ' := zsI μ a kf v) hT hf hfin hd hk rfl (fun _ => by rw [hr]; rcases hz with rfl | rfl <;> rfl) (fun _ => by rw [hr]; rcases hz with rfl | rfl <;> rfl) (fun cA ad => zent_o_sI hk (by rw [hr]; rfl)) (fun cA ad b hb => zent_sI_ne cA ad μ a kf v b hb) (fun ho _ _ => zOK_sI ho) h
theorem J_putP (hT : zCx τ M kk mc ms) {a ci kf idx r : Nat} (hf : zFd M.1.cls idx ci kf) (hfin : (zTX ci kf).2.2.2 = false ∨ (M.1.name = "<init>" ∧ zRX ci = M.1.cls ∧ Cond.fieldLink M.1.cls idx (zRX ci) (zTX ci kf).2.1 (zTX ci kf).2.2.1 ∈ ztb)) (hr : zrt (zfty ci kf) = true) (hd : decode M.2.1 pc = .ok (.putfield idx, 3)) (hk : zK μ a = ci + 8)
    (h : zJ τ F (pc + 3) L st (zsP μ a kf (some r)) c k) : zJ τ F pc L (.ref r :: .ref a :: st) μ c k :=
  J_put (μ' := zsP μ a kf (some r)) hT hf hfin hd hk rfl (fun _ => by cases hq : zfty ci kf <;> first | rfl | (rw [hq] at hr; cases hr)) (fun _ => by cases hq : zfty ci kf <;> first | rfl | (rw [hq] at hr; cases hr)) (fun cA ad => zent_o_sP hk hr) (fun cA ad b hb => zent_sP_ne cA ad μ a kf (some r) b hb) (fun ho _ hv => zOK_sP ho (fun r' e => by cases e; exact zok_lt hv)) h
theorem J_putN (hT : zCx τ M kk mc ms) {a ci kf idx : Nat} (hf : zFd M.1.cls idx ci kf) (hfin : (zTX ci kf).2.2.2 = false ∨ (M.1.name = "<init>" ∧ zRX ci = M.1.cls ∧ Cond.fieldLink M.1.cls idx (zRX ci) (zTX ci kf).2.1 (zTX ci kf).2.2.1 ∈ ztb)) (hr : zrt (zfty ci kf) = true) (hd : decode M.2.1 pc = .ok (.putfield idx, 3)) (hk : zK μ a = ci + 8)
    (h : zJ τ F (pc + 3) L st (zsP μ a kf none) c k) : zJ τ F pc L (.null :: .ref a :: st) μ c k :=
  J_put (μ' := zsP μ a kf none) hT hf hfin hd hk rfl (fun _ => by cases hq : zfty ci kf <;> first | rfl | (rw [hq] at hr; cases hr)) (fun _ => by cases hq : zfty ci kf <;> first | rfl | (rw [hq] at hr; cases hr)) (fun cA ad => zent_o_sP hk hr) (fun cA ad b hb => zent_sP_ne cA ad μ a kf none b hb) (fun ho _ hv => zOK_sP ho (fun r' e => by cases e)) h
end ZH
