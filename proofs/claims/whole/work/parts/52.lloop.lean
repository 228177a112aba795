/-! THE CLAIM OUT OF ONE WALK OF THE LAW'S BODY. Your part is whole_start (and what it stands on); all else here is the same for every law, but numbers. -/
def R_law : String := "PackagePickLaw"
def lw_P (b : Addr) (xs : List Int32) (args : Array Value) (s : State) : Prop := args = #[.ref b] ∧ s.IntsAt b xs ∧ xs.length ≤ 3072 ∧ (Jvm.Cond.and given_1 narrow_1).before args s = true
def lw_Q (_ : Array Value) (s : State) (o : Outcome) (t : State) : Prop := o = .returned (some (.int 1)) ∧ Framed s o t [] 634904 7191392
def lw_Z (below : List Frame) (a : Array Value) (s : State) : State → Prop := fun t => ∃ o, t.status = .running ∧ Ended t below o ∧ lw_Q a s o t
/-- the law's own end, with 1 on the stack, nothing written that was there before, its room as the claim has it -/
theorem lw_ret {p : Program} {l : Launch} {e : Env} {s : State} {m : MethodId} {below : List Frame} {meth : Method} {c : Code} {b : Nat} (hx : p.tables.exec = Jvm.exec) (hb : c.code = code) (hr : meth.sig.returnType = ret) (hlocks : meth.locks = false) {pc : Nat} {H : Heap} {ls : Array Slot} (hdg : decode code pc = .ok (.ireturn, 1)) : W p l e room_1 s m #[Value.ref b] below meth c H [] 634904 7191392 (lw_Z below #[Value.ref b] s) (F0 m pc ls [.int 1]) := by
  intro T hT X
  obtain ⟨fs, hret, hrun, hended, hW, hframe⟩ := X.leave (v := some (.int 1)) (hlocks := hlocks) (fun h => by rw [hr] at h; cases h)
  have hmeth' : T.vm.method? m = some meth := X.method'
  refine ⟨T.setFrames fs, ?_, .returned (some (.int 1)), hrun, hended, rfl, ⟨_, rfl⟩, hW, hframe⟩
  jvm_step X.here [X.here.top, hx, hb, hdg, hmeth', hr, ret, narrow_b1]
  (try refine ⟨rfl, ?_⟩); (try refine ⟨rfl, ?_⟩)
  first | (intro acts; rw [hret _ acts rfl rfl rfl]) | rw [hret _ _ rfl rfl rfl]
  exact Steps.refl _
/-- what holds at the law's entry: the machine, the code, the tables' words (any of lw_tbl by 'hts w (by decide +kernel)'), the script of L ints xs at the cell b, what the Statement gives of the start (any of its parts by flat_of_before) -/
def lw_At (p : Program) (s : State) (m : MethodId) (meth : Method) (c : Code) (b L : Nat) (xs : Nat → Int32) : Prop :=
  p.tables.exec = Jvm.exec ∧ c.code = code ∧ meth.sig.returnType = ret ∧ c.maxLocals = 7 ∧ s.vm.findClass R_law = some m.cls ∧ (∀ w ∈ lw_tbl, w.before #[Value.ref b] s = true) ∧ va_X b L xs s s.heap ∧ b < s.heap.size ∧ meth.locks = false ∧ (Jvm.Cond.and given_1 narrow_1).before #[Value.ref b] s = true
def Sim_version (R : PS → PS → Prop) : Prop := ∀ (a1 a2 : Int32) (u v : PS), R u v → ∃ (r : Int32) (u1 v1 : PS), f_X_version a1 a2 u = (r, u1) ∧ f_M_version a1 a2 v = some (r, v1) ∧ R u1 v1
def Sim_need (R : PS → PS → Prop) : Prop := ∀ (a1 a2 a3 a4 a5 : Int32) (u v : PS), R u v → ∃ (r : Int32) (u1 v1 : PS), f_X_need a1 a2 a3 a4 a5 u = some (r, u1) ∧ f_M_need a1 a2 a3 a4 a5 v = some (r, v1) ∧ R u1 v1
def Sim_drop (R : PS → PS → Prop) : Prop := ∀ (a1 a2 : Int32) (u v : PS), R u v → ∃ (r : Int32) (u1 v1 : PS), f_X_drop a1 a2 u = some (r, u1) ∧ f_M_drop a1 a2 v = some (r, v1) ∧ R u1 v1
def Sim_ban (R : PS → PS → Prop) : Prop := ∀ (a1 a2 a3 a4 : Int32) (u v : PS), R u v → ∃ (r : Int32) (u1 v1 : PS), f_X_ban a1 a2 a3 a4 u = some (r, u1) ∧ f_M_ban a1 a2 a3 a4 v = some (r, v1) ∧ R u1 v1
def Sim_ask (R : PS → PS → Prop) : Prop := ∀ (a1 a2 a3 : Int32) (u v : PS), R u v → ∃ (r : Int32) (u1 v1 : PS), f_X_ask a1 a2 a3 u = some (r, u1) ∧ f_M_ask a1 a2 a3 v = some (r, v1) ∧ R u1 v1
def Sim_take (R : PS → PS → Prop) : Prop := ∀ (a1 : Int32) (u v : PS), R u v → ∃ (r : Int32) (u1 v1 : PS), f_X_take a1 u = some (r, u1) ∧ f_M_take a1 v = some (r, v1) ∧ R u1 v1
def Sim_keep (R : PS → PS → Prop) : Prop := ∀ (u v : PS), R u v → ∃ (r : Int32) (u1 v1 : PS), f_X_keep u = (r, u1) ∧ f_M_keep v = some (r, v1) ∧ R u1 v1
def Sim_chosen (R : PS → PS → Prop) : Prop := ∀ (a1 : Int32) (u v : PS), R u v → ∃ (r : Int32) (v1 : PS), f_X_chosen a1 u = some r ∧ f_M_chosen a1 v = some (r, v1) ∧ R u v1
def Sim_many (R : PS → PS → Prop) : Prop := ∀ (u v : PS), R u v → ∃ (r : Int32) (u1 v1 : PS), f_X_many u = some (r, u1) ∧ f_M_many v = some (r, v1) ∧ R u1 v1
def Sim_can (R : PS → PS → Prop) : Prop := ∀ (a1 : Int32) (u v : PS), R u v → ∃ (r : Int32) (u1 v1 : PS), f_X_can a1 u = some (r, u1) ∧ f_M_can a1 v = some (r, v1) ∧ R u1 v1
def Sim_count (R : PS → PS → Prop) : Prop := ∀ (a1 : Int32) (u v : PS), R u v → ∃ (r : Int32) (v1 : PS), f_X_count a1 u = some r ∧ f_M_count a1 v = some (r, v1) ∧ R u v1
def Sim_solve (R : PS → PS → Prop) : Prop := ∀ (a1 : Int32) (u v : PS), R u v → (∃ (r : Int32) (u1 v1 : PS), f_X_solve a1 u = some (r, u1) ∧ f_M_solve a1 v = some (r, v1) ∧ f_M_thrown v1 = 0 ∧ R u1 v1) ∨ (∃ (b : Int32) (u1 v1 : PS), f_X_solve_t a1 u = some (1, u1) ∧ f_M_solve a1 v = some (b, v1) ∧ f_M_thrown v1 = 1 ∧ R u1 v1) ∨ (∃ (b : Int32) (u1 v1 : PS), f_X_solve_t a1 u = some (2, u1) ∧ f_M_solve a1 v = some (b, v1) ∧ f_M_thrown v1 = 2 ∧ R u1 v1)
def Sim_core (R : PS → PS → Prop) : Prop := ∀ (a1 : Int32) (u v : PS), R u v → (∃ (r : Int32) (v1 : PS), f_X_core a1 u = some r ∧ f_M_core a1 v = some (r, v1) ∧ f_M_thrown v1 = 0 ∧ R u v1) ∨ (∃ (b : Int32) (u1 v1 : PS), f_X_core_t a1 u = some (3, u1) ∧ f_M_core a1 v = some (b, v1) ∧ f_M_thrown v1 = 1 ∧ R u1 v1)
theorem sw_out_0_12 {x : Int32} (h0 : ¬ x = 0) (h1 : ¬ x = 1) (h2 : ¬ x = 2) (h3 : ¬ x = 3) (h4 : ¬ x = 4) (h5 : ¬ x = 5) (h6 : ¬ x = 6) (h7 : ¬ x = 7) (h8 : ¬ x = 8) (h9 : ¬ x = 9) (h10 : ¬ x = 10) (h11 : ¬ x = 11) (h12 : ¬ x = 12) : x.toInt < 0 ∨ 12 < x.toInt := by
  rw [← Int32.toInt_inj] at h0 h1 h2 h3 h4 h5 h6 h7 h8 h9 h10 h11 h12
  simp only [show (0 : Int32).toInt = 0 from rfl, show (1 : Int32).toInt = 1 from rfl, show (2 : Int32).toInt = 2 from rfl, show (3 : Int32).toInt = 3 from rfl, show (4 : Int32).toInt = 4 from rfl, show (5 : Int32).toInt = 5 from rfl, show (6 : Int32).toInt = 6 from rfl, show (7 : Int32).toInt = 7 from rfl, show (8 : Int32).toInt = 8 from rfl, show (9 : Int32).toInt = 9 from rfl, show (10 : Int32).toInt = 10 from rfl, show (11 : Int32).toInt = 11 from rfl, show (12 : Int32).toInt = 12 from rfl] at h0 h1 h2 h3 h4 h5 h6 h7 h8 h9 h10 h11 h12
  omega
theorem lw_inc {k : Nat} : Int32.ofNat (6 * k) + Int32.ofInt 6 = Int32.ofNat (6 * (k + 1)) := by
  rw [show 6 * (k + 1) = 6 * k + 6 by omega, Int32.ofNat_add]; rfl
theorem lw_cmp {k L : Nat} (hk : k ≤ 512) (hL : L ≤ 3072) : (Int32.ofNat L - 6 < Int32.ofNat (6 * k)) ↔ L < 6 * k + 6 := by
  have e1 : (Int32.ofNat (6 * k)).toInt = ((6 * k : Nat) : Int) := Int32.toInt_ofNat_of_lt (by omega)
  have e2 : (Int32.ofNat L).toInt = (L : Int) := Int32.toInt_ofNat_of_lt (by omega)
  rw [Int32.lt_iff_toInt_lt, e1, Int32.toInt_sub, e2, show (6 : Int32).toInt = 6 from rfl, Int.bmod_eq_of_le (by omega) (by omega)]
  omega
theorem law_next {γ : CX} {cI cZ cJ : ClassId} {hX hM : Nat → Nat} {q b L : Nat} {xs : Nat → Int32} (C : Cx γ code 7 ret "PackagePickLaw" room_1 (tyL cI cZ cJ)) (LC : LawC γ b L xs) {k cs sl : Nat} {z : PS × PS × (Nat → Int64)} (h1 : cs ≤ 27 + (k + 1)) (h2 : sl ≤ 645 + 6 * (k + 1)) (kk : AtG γ (WL cI cZ cJ hX hM q) 7 (27 + (k + 1)) (645 + 6 * (k + 1)) 23 (lv0 b (hX 0) (hM 0) q (k + 1)) [] z) : AtG γ (WL cI cZ cJ hX hM q) 7 cs sl 603 (lv0 b (hX 0) (hM 0) q k) [] z := by
  refine x_wide h1 h2 ?_
  refine x_iinc (v := Int32.ofNat (6 * (k + 1))) (lv' := [(4, .int (Int32.ofNat (6 * (k + 1)))), (0, .ref b), (1, .ref (hX 0)), (2, .ref (hM 0)), (3, .ref q)]) C d_L_law_603 (k := 4) rfl lw_inc (by decide) rfl ?_
  refine x_goto (tgt := 23) C d_L_law_606 (by decide) ?_
  exact x_sub [1, 2, 3, 4, 0] rfl kk
theorem lw_exit {γ : CX} {cI cZ cJ : ClassId} {hX hM : Nat → Nat} {q b L : Nat} {xs : Nat → Int32} (C : Cx γ code 7 ret "PackagePickLaw" room_1 (tyL cI cZ cJ)) (LC : LawC γ b L xs) (hL : L ≤ 3072) (hQ : γQ γ = lw_Z (γb γ) (γa γ) (γs γ)) (hal : γa γ = #[.ref b]) (k : Nat) (hk : k ≤ 512) (hlt : L < 6 * k + 6) (z : PS × PS × (Nat → Int64)) : AtG γ (WL cI cZ cJ hX hM q) 7 (27 + k) (645 + 6 * k) 23 (lv0 b (hX 0) (hM 0) q k) [] z := by
  refine x_iload C d_L_law_23 (k := 4) rfl ?_
  refine x_aload_n C d_L_law_25 rfl (k := 0) rfl ?_
  refine x_slen C LC.1 LC.2.1 LC.nb d_L_law_26 ?_
  refine x_bipush (v := 6) C d_L_law_27 (by decide) ?_
  refine x_isub C d_L_law_29 ?_
  refine x_icmp_gt (tgt := 609) C d_L_law_30 (by decide) (fun _ => ?_) (fun hc => absurd ((lw_cmp hk hL).mpr hlt) hc)
  refine x_iconst (v := 1) C d_L_law_609 (by decide) ?_
  refine x_wide (cs1 := 634904) (sl1 := 7191392) (by omega) (by omega) ?_
  intro H locs ls hP hD hS hl
  refine va_forget (fun x hx => LC.2.2.1 _ (hS.2.2 x hx)) ?_
  rw [hQ, C.hR]
  have key := lw_ret (p := γp γ) (l := γl γ) (e := γe γ) (s := γs γ) (m := γm γ) (below := γb γ) (b := b) (H := H) (ls := ls) C.hx C.hb C.hr C.hlocks d_L_law_610
  rw [← hal] at key
  exact key
set_option maxHeartbeats 2000000 in
theorem law_loop {γ : CX} {cI cZ cJ : ClassId} {hX hM : Nat → Nat} {q b L : Nat} {xs : Nat → Int32} (C : Cx γ code 7 ret "PackagePickLaw" room_1 (tyL cI cZ cJ)) (LC : LawC γ b L xs) {R : PS → PS → Prop} (hversion : Sim_version R) (hneed : Sim_need R) (hdrop : Sim_drop R) (hban : Sim_ban R) (hask : Sim_ask R) (htake : Sim_take R) (hkeep : Sim_keep R) (hchosen : Sim_chosen R) (hmany : Sim_many R) (hcan : Sim_can R) (hcount : Sim_count R) (hsolve : Sim_solve R) (hcore : Sim_core R) (hL : L ≤ 3072) (hQ : γQ γ = lw_Z (γb γ) (γa γ) (γs γ)) (hal : γa γ = #[.ref b]) : ∀ (n k : Nat) (u v : PS) (f : Nat → Int64), L / 6 - k = n → k ≤ 512 → R u v → AtG γ (WL cI cZ cJ hX hM q) 7 (27 + k) (645 + 6 * k) 23 (lv0 b (hX 0) (hM 0) q k) [] (u, v, f) := by
  intro n
  induction n with
  | zero => intro k u v f hn hk hR; exact lw_exit C LC hL hQ hal k hk (by omega) _
  | succ n ih =>
    intro k u v f hn hk hR
    by_cases hlt : L < 6 * k + 6
    · exact lw_exit C LC hL hQ hal k hk hlt _
    have hkL : 6 * k + 6 ≤ L ∧ L ≤ 3072 := ⟨by omega, hL⟩
    have hroom : 27 + k + 1 ≤ 634904 ∧ 645 + 6 * k + 6 ≤ 7191392 := by omega
    have nx : ∀ (cs sl : Nat) (u v : PS) (f : Nat → Int64), R u v → cs ≤ 27 + (k + 1) → sl ≤ 645 + 6 * (k + 1) → AtG γ (WL cI cZ cJ hX hM q) 7 cs sl 603 (lv0 b (hX 0) (hM 0) q k) [] (u, v, f) := fun cs sl u v f hR h1 h2 => law_next C LC h1 h2 (ih (k + 1) u v f (by omega) (by omega) hR)
    refine x_iload C d_L_law_23 (k := 4) rfl ?_
    refine x_aload_n C d_L_law_25 rfl (k := 0) rfl ?_
    refine x_slen C LC.1 LC.2.1 LC.nb d_L_law_26 ?_
    refine x_bipush (v := 6) C d_L_law_27 (by decide) ?_
    refine x_isub C d_L_law_29 ?_
    refine x_icmp_gt (tgt := 609) C d_L_law_30 (by decide) (fun hc => absurd ((lw_cmp (by omega) hL).mp hc) hlt) (fun _ => ?_)
    refine x_aload_n C d_L_law_33 rfl (k := 0) rfl ?_
    refine x_iload C d_L_law_34 (k := 4) rfl ?_
    refine x_sld (v := xs (Int32.ofNat (6 * k)).toNatClampNeg) C LC.1 LC.2.1 LC.nb (ix_in0 hkL) rfl d_L_law_36 ?_
    refine x_bipush (v := 15) C d_L_law_37 (by decide) ?_
    refine x_iand C d_L_law_39 ?_
    generalize (xs (Int32.ofNat (6 * k)).toNatClampNeg &&& (15 : Int32)) = x
    by_cases hc0 : x = 0
    · refine x_tsw (tgt := 108) C d_L_law_40 hc0 rfl (by decide) ?_
      obtain ⟨r, u1, v1, hx, hm, hR1⟩ := hversion (pr xs k 1) (pr xs k 2) u v hR
      have cx := c_X_version (l := γl γ) (D := γD γ) (cI := cI) (h := hX) (pr xs k 1) (pr xs k 2) u
      rw [hx] at cx
      exact la_version (cs := 27 + k) (sl := 645 + 6 * k) (r := r) (u1 := u1) (v1 := v1) C LC hkL hroom cx (c_M_version (pr xs k 1) (pr xs k 2) v hm) (nx (27 + k) (645 + 6 * k) u1 v1 f hR1 (by omega) (by omega))
    by_cases hc1 : x = 1
    · refine x_tsw (tgt := 145) C d_L_law_40 hc1 rfl (by decide) ?_
      obtain ⟨r, u1, v1, hx, hm, hR1⟩ := hneed (pr xs k 1) (pr xs k 2) (pr xs k 3) (pr xs k 4) (pr xs k 5) u v hR
      exact la_need (cs := 27 + k) (sl := 645 + 6 * k) (r := r) (u1 := u1) (v1 := v1) C LC hkL hroom (c_X_need (pr xs k 1) (pr xs k 2) (pr xs k 3) (pr xs k 4) (pr xs k 5) u hx) (c_M_need (pr xs k 1) (pr xs k 2) (pr xs k 3) (pr xs k 4) (pr xs k 5) v hm) (nx (27 + k) (645 + 6 * k) u1 v1 f hR1 (by omega) (by omega))
    by_cases hc2 : x = 2
    · refine x_tsw (tgt := 218) C d_L_law_40 hc2 rfl (by decide) ?_
      obtain ⟨r, u1, v1, hx, hm, hR1⟩ := hdrop (pr xs k 1) (pr xs k 2) u v hR
      exact la_drop (cs := 27 + k) (sl := 645 + 6 * k) (r := r) (u1 := u1) (v1 := v1) C LC hkL hroom (c_X_drop (pr xs k 1) (pr xs k 2) u hx) (c_M_drop (pr xs k 1) (pr xs k 2) v hm) (nx (27 + k) (645 + 6 * k) u1 v1 f hR1 (by omega) (by omega))
    by_cases hc3 : x = 3
    · refine x_tsw (tgt := 255) C d_L_law_40 hc3 rfl (by decide) ?_
      obtain ⟨r, u1, v1, hx, hm, hR1⟩ := hban (pr xs k 1) (pr xs k 2) (pr xs k 3) (pr xs k 4) u v hR
      exact la_ban (cs := 27 + k) (sl := 645 + 6 * k) (r := r) (u1 := u1) (v1 := v1) C LC hkL hroom (c_X_ban (pr xs k 1) (pr xs k 2) (pr xs k 3) (pr xs k 4) u hx) (c_M_ban (pr xs k 1) (pr xs k 2) (pr xs k 3) (pr xs k 4) v hm) (nx (27 + k) (645 + 6 * k) u1 v1 f hR1 (by omega) (by omega))
    by_cases hc4 : x = 4
    · refine x_tsw (tgt := 316) C d_L_law_40 hc4 rfl (by decide) ?_
      obtain ⟨r, u1, v1, hx, hm, hR1⟩ := hask (pr xs k 1) (pr xs k 2) (pr xs k 3) u v hR
      exact la_ask (cs := 27 + k) (sl := 645 + 6 * k) (r := r) (u1 := u1) (v1 := v1) C LC hkL hroom (c_X_ask (pr xs k 1) (pr xs k 2) (pr xs k 3) u hx) (c_M_ask (pr xs k 1) (pr xs k 2) (pr xs k 3) v hm) (nx (27 + k) (645 + 6 * k) u1 v1 f hR1 (by omega) (by omega))
    by_cases hc5 : x = 5
    · refine x_tsw (tgt := 365) C d_L_law_40 hc5 rfl (by decide) ?_
      obtain ⟨r, u1, v1, hx, hm, hR1⟩ := htake (pr xs k 1) u v hR
      exact la_take (cs := 27 + k) (sl := 645 + 6 * k) (r := r) (u1 := u1) (v1 := v1) C LC hkL hroom (c_X_take (pr xs k 1) u hx) (c_M_take (pr xs k 1) v hm) (nx (27 + k) (645 + 6 * k) u1 v1 f hR1 (by omega) (by omega))
    by_cases hc6 : x = 6
    · refine x_tsw (tgt := 390) C d_L_law_40 hc6 rfl (by decide) ?_
      rcases hsolve (pr xs k 1) u v hR with ⟨r, u1, v1, hx, hm, ht, hR1⟩ | ⟨r, u1, v1, hx, hm, ht, hR1⟩ | ⟨r, u1, v1, hx, hm, ht, hR1⟩
      · have ct := c_M_thrown (l := γl γ) (D := γD γ) (cI := cI) (cZ := cZ) (h := hM) v1; rw [ht] at ct
        exact la_solve (cs := 27 + k) (sl := 645 + 6 * k) (mc := 0) (ms := 0) (kc := 0) (r := r) (u1 := u1) (v1 := v1) (f1 := vp_updL f 0 r.toInt64) ⟨by omega, by omega⟩ C LC hkL hroom (c_L_solve _ u f hx) (c_M_solve _ v hm) ct (fun _ => rfl) (nx (27 + k + 0) (645 + 6 * k + 0) u1 v1 _ hR1 (by omega) (by omega))
      · have ct := c_M_thrown (l := γl γ) (D := γD γ) (cI := cI) (cZ := cZ) (h := hM) v1; rw [ht] at ct
        exact la_solve (cs := 27 + k) (sl := 645 + 6 * k) (mc := 1) (ms := 6) (kc := 1) (r := r) (u1 := u1) (v1 := v1) (f1 := f) ⟨by omega, by omega⟩ C LC hkL hroom (c_L_solve_1 LC.2.2.2.2.2 _ u f hx) (c_M_solve _ v hm) ct (fun h => absurd h (by decide)) (nx (27 + k + 1) (645 + 6 * k + 6) u1 v1 _ hR1 (by omega) (by omega))
      · have ct := c_M_thrown (l := γl γ) (D := γD γ) (cI := cI) (cZ := cZ) (h := hM) v1; rw [ht] at ct
        exact la_solve (cs := 27 + k) (sl := 645 + 6 * k) (mc := 1) (ms := 6) (kc := 2) (r := r) (u1 := u1) (v1 := v1) (f1 := f) ⟨by omega, by omega⟩ C LC hkL hroom (c_L_solve_2 LC.2.2.2.2.2 _ u f hx) (c_M_solve _ v hm) ct (fun h => absurd h (by decide)) (nx (27 + k + 1) (645 + 6 * k + 6) u1 v1 _ hR1 (by omega) (by omega))
    by_cases hc7 : x = 7
    · refine x_tsw (tgt := 446) C d_L_law_40 hc7 rfl (by decide) ?_
      obtain ⟨r, u1, v1, hx, hm, hR1⟩ := hkeep  u v hR
      have cx := c_X_keep (l := γl γ) (D := γD γ) (cI := cI) (h := hX)  u
      rw [hx] at cx
      exact la_keep (cs := 27 + k) (sl := 645 + 6 * k) (r := r) (u1 := u1) (v1 := v1) C LC hkL hroom cx (c_M_keep  v hm) (nx (27 + k) (645 + 6 * k) u1 v1 f hR1 (by omega) (by omega))
    by_cases hc8 : x = 8
    · refine x_tsw (tgt := 459) C d_L_law_40 hc8 rfl (by decide) ?_
      obtain ⟨r, v1, hx, hm, hR1⟩ := hchosen (pr xs k 1) u v hR
      exact la_chosen (cs := 27 + k) (sl := 645 + 6 * k) (r := r) (u1 := u) (v1 := v1) C LC hkL hroom (c_X_chosen (pr xs k 1) u hx) (c_M_chosen (pr xs k 1) v hm) (nx (27 + k) (645 + 6 * k) u v1 f hR1 (by omega) (by omega))
    by_cases hc9 : x = 9
    · refine x_tsw (tgt := 484) C d_L_law_40 hc9 rfl (by decide) ?_
      obtain ⟨r, u1, v1, hx, hm, hR1⟩ := hmany  u v hR
      exact la_many (cs := 27 + k) (sl := 645 + 6 * k) (r := r) (u1 := u1) (v1 := v1) C LC hkL hroom (c_X_many  u hx) (c_M_many  v hm) (nx (27 + k) (645 + 6 * k) u1 v1 f hR1 (by omega) (by omega))
    by_cases hc10 : x = 10
    · refine x_tsw (tgt := 497) C d_L_law_40 hc10 rfl (by decide) ?_
      obtain ⟨r, u1, v1, hx, hm, hR1⟩ := hcan (pr xs k 1) u v hR
      exact la_can (cs := 27 + k) (sl := 645 + 6 * k) (r := r) (u1 := u1) (v1 := v1) C LC hkL hroom (c_X_can (pr xs k 1) u hx) (c_M_can (pr xs k 1) v hm) (nx (27 + k) (645 + 6 * k) u1 v1 f hR1 (by omega) (by omega))
    by_cases hc11 : x = 11
    · refine x_tsw (tgt := 522) C d_L_law_40 hc11 rfl (by decide) ?_
      rcases hcore (pr xs k 1) u v hR with ⟨r, v1, hx, hm, ht, hR1⟩ | ⟨r, u1, v1, hx, hm, ht, hR1⟩
      · have ct := c_M_thrown (l := γl γ) (D := γD γ) (cI := cI) (cZ := cZ) (h := hM) v1; rw [ht] at ct
        exact la_core (cs := 27 + k) (sl := 645 + 6 * k) (mc := 0) (ms := 0) (kc := 0) (r := r) (u1 := u) (v1 := v1) (f1 := vp_updL f 0 r.toInt64) ⟨by omega, by omega⟩ C LC hkL hroom (c_L_core _ u f hx) (c_M_core _ v hm) ct (fun _ => rfl) (nx (27 + k + 0) (645 + 6 * k + 0) u v1 _ hR1 (by omega) (by omega))
      · have ct := c_M_thrown (l := γl γ) (D := γD γ) (cI := cI) (cZ := cZ) (h := hM) v1; rw [ht] at ct
        exact la_core (cs := 27 + k) (sl := 645 + 6 * k) (mc := 1) (ms := 6) (kc := 1) (r := r) (u1 := u1) (v1 := v1) (f1 := f) ⟨by omega, by omega⟩ C LC hkL hroom (c_L_core_1 LC.2.2.2.2.2 _ u f hx) (c_M_core _ v hm) ct (fun h => absurd h (by decide)) (nx (27 + k + 1) (645 + 6 * k + 6) u1 v1 _ hR1 (by omega) (by omega))
    by_cases hc12 : x = 12
    · refine x_tsw (tgt := 578) C d_L_law_40 hc12 rfl (by decide) ?_
      obtain ⟨r, v1, hx, hm, hR1⟩ := hcount (pr xs k 1) u v hR
      exact la_count (cs := 27 + k) (sl := 645 + 6 * k) (r := r) (u1 := u) (v1 := v1) C LC hkL hroom (c_X_count (pr xs k 1) u hx) (c_M_count (pr xs k 1) v hm) (nx (27 + k) (645 + 6 * k) u v1 f hR1 (by omega) (by omega))
    refine x_tswo (tgt := 603) C d_L_law_40 (sw_out_0_12 hc0 hc1 hc2 hc3 hc4 hc5 hc6 hc7 hc8 hc9 hc10 hc11 hc12) (by decide) ?_
    exact nx _ _ u v f hR (by omega) (by omega)
