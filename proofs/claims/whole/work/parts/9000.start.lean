/-- the components at the start -/
theorem ac_of {args : Array Value} {s : State} {ty : FieldType} (h : (Cond.arrayClass ty).before args s = true) (hty : ∀ C, ty ≠ .object C) : ∃ cA : ClassId, ArrOfT s cA ty ∧ va_RA s cA ty := by
  obtain ⟨cA, kA, comp, h1, h2, h3⟩ := Cond.arrayClass_spec h
  refine ⟨cA, fun n z => ⟨fun k h => (by cases h), kA, h2, comp, h3⟩, ?_⟩
  cases ty with
  | object C => exact absurd rfl (hty C)
  | _ => exact h1
set_option maxHeartbeats 40000000 in
set_option maxRecDepth 100000 in
theorem whole_start_open {p : Program} {e : Env} {s : State} {m : MethodId} {below : List Frame} {meth : Method} {c : Code} (l : Launch) {b L : Nat} {xs : Nat → Int32} (N : Nat) (Rel : RelT) (S_feed : Sp_feed N Rel) (S_cut : Sp_cut N Rel) (S_read : Sp_read N Rel) (S_place : Sp_place N Rel) (S_count : Sp_count N Rel) (S_atom : Sp_atom N Rel) (S_rank : Sp_rank N Rel) (S_goes : Sp_goes N Rel) (S_at : Sp_at N Rel) (S_ask : Sp_ask N Rel) (S_isUnder : Sp_isUnder N Rel) (S_next : Sp_next N Rel) (S_world : Sp_world N Rel) (S_thing : Sp_thing N Rel) (S_edge : Sp_edge N Rel) (S_bones : Sp_bones N Rel) (S_same : Sp_same N Rel) (S_print : Sp_print N Rel) (S_out : Sp_out N Rel) (S_back : Sp_back N Rel) (hI : Rel z0_iX z0_iR z0_iT z0_wT z0_tx z0_iB z0_lB z0_aB z0_iC z0_aC z0_iD z0_lD z0_aD z0_iE z0_aE z0_iK z0_lK z0_aK z0_iW z0_aW z0_iP z0_aP z0_iM z0_aM) (hL : L ≤ 3072) (C0 : lw_At p s m meth c b L xs) : W p l e room_1 s m #[Value.ref b] below meth c s.heap [] 0 0 (lw_Z below #[Value.ref b] s) (entryFrame m ([Value.ref b] : List Value).toArray 4) := by
  obtain ⟨hx, hb, hr, hml, hown, hts, hX, hbl, hlocks, hgv⟩ := id C0
  have hA : ∀ q : Nat, s.heap.size ≤ q → (fun q : Nat => s.heap.size ≤ q) q := fun _ h => h
  obtain ⟨c0, iS0, hKn0⟩ := u_known (C := RX0) (T := TX0) (N := 15) (n := 15) hts (fun w h => bg_tbl (i_X0 w h)) (hts _ (bg_tbl m_mk_X0))
  obtain ⟨c1, iS1, hKn1⟩ := u_known (C := RX1) (T := TX1) (N := 10) (n := 10) hts (fun w h => bg_tbl (i_X1 w h)) (hts _ (bg_tbl m_mk_X1))
  obtain ⟨c2, iS2, hKn2⟩ := u_known (C := RX2) (T := TX2) (N := 15) (n := 15) hts (fun w h => bg_tbl (i_X2 w h)) (hts _ (bg_tbl m_mk_X2))
  obtain ⟨c3, iS3, hKn3⟩ := u_known (C := RX3) (T := TX3) (N := 5) (n := 5) hts (fun w h => bg_tbl (i_X3 w h)) (hts _ (bg_tbl m_mk_X3))
  obtain ⟨c4, iS4, hKn4⟩ := u_known (C := RX4) (T := TX4) (N := 5) (n := 5) hts (fun w h => bg_tbl (i_X4 w h)) (hts _ (bg_tbl m_mk_X4))
  obtain ⟨c5, iS5, hKn5⟩ := u_known (C := RX5) (T := TX5) (N := 6) (n := 6) hts (fun w h => bg_tbl (i_X5 w h)) (hts _ (bg_tbl m_mk_X5))
  obtain ⟨c6, iS6, hKn6⟩ := u_known (C := RX6) (T := TX6) (N := 5) (n := 5) hts (fun w h => bg_tbl (i_X6 w h)) (hts _ (bg_tbl m_mk_X6))
  obtain ⟨c7, iS7, hKn7⟩ := u_known (C := RX7) (T := TX7) (N := 9) (n := 9) hts (fun w h => bg_tbl (i_X7 w h)) (hts _ (bg_tbl m_mk_X7))
  obtain ⟨c8, iS8, hKn8⟩ := u_known (C := RX8) (T := TX8) (N := 78) (n := 78) hts (fun w h => bg_tbl (i_X8 w h)) (hts _ (bg_tbl m_mk_X8))
  obtain ⟨dC, dI, hKc⟩ : ∃ (dC : Nat → ClassId) (dI : Nat → Nat → Nat), ∀ (k : Nat) (q : vw_C), vwCl[k]? = some q → u_Kn s q.1 q.2.1 q.2.2 (dC k) (dI k) := by
    refine ⟨fun k => if k = 0 then c0 else if k = 1 then c1 else if k = 2 then c2 else if k = 3 then c3 else if k = 4 then c4 else if k = 5 then c5 else if k = 6 then c6 else if k = 7 then c7 else c8, fun k => if k = 0 then iS0 else if k = 1 then iS1 else if k = 2 then iS2 else if k = 3 then iS3 else if k = 4 then iS4 else if k = 5 then iS5 else if k = 6 then iS6 else if k = 7 then iS7 else iS8, ?_⟩
    intro k q hq
    match k, hq with
    | 0, hq => cases hq; exact hKn0
    | 1, hq => cases hq; exact hKn1
    | 2, hq => cases hq; exact hKn2
    | 3, hq => cases hq; exact hKn3
    | 4, hq => cases hq; exact hKn4
    | 5, hq => cases hq; exact hKn5
    | 6, hq => cases hq; exact hKn6
    | 7, hq => cases hq; exact hKn7
    | 8, hq => cases hq; exact hKn8
    | k + 9, hq => simp [vwCl] at hq
  obtain ⟨y0, hy0⟩ := ac_of (hts _ (bg_tbl m_ac_int)) (fun _ h => by cases h)
  obtain ⟨y1, hy1⟩ := ac_of (hts _ (bg_tbl m_ac_byte)) (fun _ h => by cases h)
  obtain ⟨y2, hy2⟩ := ac_of (hts _ (bg_tbl m_ac_long)) (fun _ h => by cases h)
  obtain ⟨y3, hy3⟩ := ac_of (hts _ (bg_tbl m_ac_short)) (fun _ h => by cases h)
  obtain ⟨y4, hy4⟩ := ac_of (hts _ (bg_tbl m_ac_boolean)) (fun _ h => by cases h)
  obtain ⟨y5, hy5⟩ := ac_of (hts _ (bg_tbl m_ac_char)) (fun _ h => by cases h)
  obtain ⟨cy, hcy⟩ : ∃ cy : Nat → ClassId, ∀ (k : Nat) (q : ClassId × FieldType), (tyW cy)[k]? = some q → ArrOfT s q.1 q.2 ∧ va_RA s q.1 q.2 := by
    refine ⟨fun k => if k = 0 then y0 else if k = 1 then y1 else if k = 2 then y2 else if k = 3 then y3 else if k = 4 then y4 else y5, ?_⟩
    intro k q hq
    match k, hq with
    | 0, hq => cases hq; exact hy0
    | 1, hq => cases hq; exact hy1
    | 2, hq => cases hq; exact hy2
    | 3, hq => cases hq; exact hy3
    | 4, hq => cases hq; exact hy4
    | 5, hq => cases hq; exact hy5
    | k + 6, hq => simp [tyW] at hq
  have hK : va_K (dC, dI) vwCl (tyW cy) s := ⟨hKc, hcy⟩
  have hN : NW s := ⟨va_Nw.of rfl (hts _ (List.mem_append_right _ (List.mem_append_left _ (List.mem_of_getElem? (i := 190) (by decide +kernel))))), va_Nw.of rfl (hts _ (List.mem_append_right _ (List.mem_append_left _ (List.mem_of_getElem? (i := 29) (by decide +kernel))))), va_Nw.of rfl (hts _ (List.mem_append_right _ (List.mem_append_left _ (List.mem_of_getElem? (i := 23) (by decide +kernel))))), va_Nw.of rfl (hts _ (List.mem_append_right _ (List.mem_append_right _ (List.mem_append_left _ (List.mem_of_getElem? (i := 2) (by decide +kernel))))))⟩
  have hS : va_S (fun q : Nat => s.heap.size ≤ q) s.heap s.heap [] := va_S.rf
  have hP : va_P (dC, dI) vwCl [] s.heap := fun k q h => by simp at h
  have hD : va_D (fun q : Nat => s.heap.size ≤ q) [] := ⟨fun i j p q h => by simp at h, fun k q h => by simp at h⟩
  have hl := lv_entry ([.ref b]) (n := 4) (Nat.le_of_ble_eq_true rfl)
  rw [lg_entry_eq]
  generalize (lg_sl ([.ref b]) ++ List.replicate (4 - (lg_sl ([.ref b])).length) Slot.unset).toArray = ls at hl ⊢
  have hl : lv_has ls 4 [(0, .ref b)] := hl
  refine va_new (ci := 7) (fs := [.null, .int 0, .null, .null, .null, .int 0, .null, .null, .null]) (C := RX7) (T := TX7) (N := 9) hx hb hts (fun w h => bg_tbl (i_X7 w h)) tyX7 tyX7_ok hown (hts _ (bg_tbl m_cl_L_7)) (hts _ (bg_tbl m_mk_X7)) (hts _ (bg_tbl m_in_X7)) hK hP hD hS hA rfl dv_X7 (Nat.le_of_ble_eq_true rfl) (Nat.le_of_ble_eq_true rfl) dL_law_0 (fun qX H hP hD hS => ?_)
  refine lv_dup hx hb dL_law_3 rfl ?_
  refine newI (host := "") (cc := code) (own := RL) (wr := []) (As := []) (rest := [.ref qX]) ⟨hx, hb, hml, hown, hts⟩ (c_X_init l dC dI cy qX H.size) (cwI 0 hts (goodIL m_cd_X7_init) rfl rfl rfl (hts _ (bg_tbl m_in_X7)) (hts _ (bg_tbl m_ml_L_9)) (hts _ (bg_tbl m_im_X7_init)) rfl (by decide +kernel) ⟨Nat.le_of_ble_eq_true rfl, Nat.le_of_ble_eq_true rfl⟩) hN hK hP hD hS hA [0] [] rfl rfl rfl rfl (by decide) rfl hl.1 rfl (Nat.le_of_ble_eq_true rfl) dL_law_4 ⟨Nat.le_of_ble_eq_true rfl, Nat.le_of_ble_eq_true rfl⟩ (fun uX H locs hw hP hD hS => ?_)
  obtain ⟨adx, hadx⟩ : ∃ f : Nat → Nat, f = fun i => ([qX, uX 33, uX 34, uX 0, uX 1, uX 11, uX 12, uX 13, uX 14, uX 15, uX 16, uX 2, uX 3, uX 4, uX 5, uX 6, uX 7, uX 8, uX 9, uX 10, uX 17, uX 27, uX 28, uX 29, uX 30, uX 31, uX 32, uX 18, uX 19, uX 20, uX 21, uX 22, uX 23, uX 24, uX 25, uX 26, uX 35, uX 36, uX 37, uX 38, uX 39, uX 40, uX 41, uX 42, uX 43, uX 44, uX 45, uX 46, uX 47, uX 48, uX 49, uX 50, uX 51, uX 52] : List Nat).getD i 0 := ⟨_, rfl⟩
  have hP : va_P (dC, dI) vwCl (zzX adx cy (adx 20) (adx 27) (adx 4) (adx 11) (adx 4) (adx 4) (adx 20) z0_iX z0_iR z0_iT z0_wT z0_tx z0_iB z0_lB z0_aB z0_iC z0_aC z0_iD z0_lD z0_aD z0_iE z0_aE z0_iK z0_lK z0_aK z0_iW z0_aW z0_iP z0_aP) H := by subst hadx; exact hP.sub [0, 32, 34, 1, 36, 11, 12, 13, 14, 15, 16, 2, 3, 4, 5, 6, 7, 8, 9, 10, 33, 26, 27, 28, 29, 30, 31, 17, 18, 19, 20, 21, 22, 23, 24, 25, 35, 37, 38, 39, 40, 41, 42, 43, 44, 45, 46, 47, 48, 49, 50, 51, 52, 53] rfl
  have hD : va_D (fun q : Nat => s.heap.size ≤ q) (zzX adx cy (adx 20) (adx 27) (adx 4) (adx 11) (adx 4) (adx 4) (adx 20) z0_iX z0_iR z0_iT z0_wT z0_tx z0_iB z0_lB z0_aB z0_iC z0_aC z0_iD z0_lD z0_aD z0_iE z0_aE z0_iK z0_lK z0_aK z0_iW z0_aW z0_iP z0_aP) := by subst hadx; exact hD.sub [0, 32, 34, 1, 36, 11, 12, 13, 14, 15, 16, 2, 3, 4, 5, 6, 7, 8, 9, 10, 33, 26, 27, 28, 29, 30, 31, 17, 18, 19, 20, 21, 22, 23, 24, 25, 35, 37, 38, 39, 40, 41, 42, 43, 44, 45, 46, 47, 48, 49, 50, 51, 52, 53] (by decide) rfl
  have hqx : qX = adx 0 := by subst hadx; rfl
  refine lv_astore_n (lv' := [(1, .ref qX), (0, .ref b)]) hx hb dL_law_7 rfl hl (by decide) rfl (fun ls hl => ?_)
  refine va_new (ci := 8) (fs := [.null, .int 0, .int 0, .int 0, .int 0, .int 0, .int 0, .null, .null, .null, .null, .null, .null, .null, .int 0, .null, .null, .null, .int 0, .null, .int 0, .null, .int 0, .null, .null, .int 0, .null, .null, .int 0, .null, .null, .null, .null, .null, .null, .null, .int 0, .int 0, .int 0, .int 0, .int 0, .int 0, .int 0, .int 0, .int 0, .int 0, .int 0, .int 0, .int 0, .int 0, .null, .null, .null, .null, .int 0, .int 0, .int 0, .null, .null, .null, .null, .null, .null, .null, .int 0, .int 0, .int 0, .null, .int 0, .null, .null, .null, .null, .int 0, .null, .null, .null, .int 0]) (C := RX8) (T := TX8) (N := 78) hx hb hts (fun w h => bg_tbl (i_X8 w h)) tyX8 tyX8_ok hown (hts _ (bg_tbl m_cl_L_10)) (hts _ (bg_tbl m_mk_X8)) (hts _ (bg_tbl m_in_X8)) hK hP hD hS hA rfl dv_X8 (Nat.le_of_ble_eq_true rfl) (Nat.le_of_ble_eq_true rfl) dL_law_8 (fun qM H hP hD hS => ?_)
  refine lv_dup hx hb dL_law_11 rfl ?_
  refine newI (host := "") (cc := code) (own := RL) (wr := (zzX adx cy (adx 20) (adx 27) (adx 4) (adx 11) (adx 4) (adx 4) (adx 20) z0_iX z0_iR z0_iT z0_wT z0_tx z0_iB z0_lB z0_aB z0_iC z0_aC z0_iD z0_lD z0_aD z0_iE z0_aE z0_iK z0_lK z0_aK z0_iW z0_aW z0_iP z0_aP)) (As := []) (rest := [.ref qM]) ⟨hx, hb, hml, hown, hts⟩ (c_M_init l dC dI cy qM H.size) (cwI 0 hts (goodIL m_cd_X8_init) rfl rfl rfl (hts _ (bg_tbl m_in_X8)) (hts _ (bg_tbl m_ml_L_12)) (hts _ (bg_tbl m_im_X8_init)) rfl (by decide +kernel) ⟨Nat.le_of_ble_eq_true rfl, Nat.le_of_ble_eq_true rfl⟩) hN hK hP hD hS hA [54] [0, 1, 2, 3, 4, 5, 6, 7, 8, 9, 10, 11, 12, 13, 14, 15, 16, 17, 18, 19, 20, 21, 22, 23, 24, 25, 26, 27, 28, 29, 30, 31, 32, 33, 34, 35, 36, 37, 38, 39, 40, 41, 42, 43, 44, 45, 46, 47, 48, 49, 50, 51, 52, 53] rfl rfl rfl rfl (by decide) rfl hl.1 rfl (Nat.le_of_ble_eq_true rfl) dL_law_12 ⟨Nat.le_of_ble_eq_true rfl, Nat.le_of_ble_eq_true rfl⟩ (fun uM H locs hw hP hD hS => ?_)
  obtain ⟨adm, hadm⟩ : ∃ f : Nat → Nat, f = fun i => ([qM, uM 0, uM 1, uM 2, uM 3, uM 4, uM 5, uM 6, uM 7, uM 8, uM 9, uM 10, uM 11, uM 12, uM 13, uM 14, uM 15, uM 16, uM 17, uM 18, uM 19, uM 20, uM 21, uM 22, uM 23, uM 24, uM 25, uM 26, uM 27, uM 28, uM 29, uM 30, uM 31, uM 32, uM 33, uM 34, uM 35, uM 36, uM 37, uM 38, uM 39, uM 40, uM 41, uM 42] : List Nat).getD i 0 := ⟨_, rfl⟩
  have hP : va_P (dC, dI) vwCl ((zzX adx cy (adx 20) (adx 27) (adx 4) (adx 11) (adx 4) (adx 4) (adx 20) z0_iX z0_iR z0_iT z0_wT z0_tx z0_iB z0_lB z0_aB z0_iC z0_aC z0_iD z0_lD z0_aD z0_iE z0_aE z0_iK z0_lK z0_aK z0_iW z0_aW z0_iP z0_aP) ++ (zzM adm cy z0_iM z0_aM)) H := by subst hadm; exact hP.sub [0, 1, 2, 3, 4, 5, 6, 7, 8, 9, 10, 11, 12, 13, 14, 15, 16, 17, 18, 19, 20, 21, 22, 23, 24, 25, 26, 27, 28, 29, 30, 31, 32, 33, 34, 35, 36, 37, 38, 39, 40, 41, 42, 43, 44, 45, 46, 47, 48, 49, 50, 51, 52, 53, 54, 55, 56, 57, 58, 59, 60, 61, 62, 63, 64, 65, 66, 67, 68, 69, 70, 71, 72, 73, 74, 75, 76, 77, 78, 79, 80, 81, 82, 83, 84, 85, 86, 87, 88, 89, 90, 91, 92, 93, 94, 95, 96, 97] rfl
  have hD : va_D (fun q : Nat => s.heap.size ≤ q) ((zzX adx cy (adx 20) (adx 27) (adx 4) (adx 11) (adx 4) (adx 4) (adx 20) z0_iX z0_iR z0_iT z0_wT z0_tx z0_iB z0_lB z0_aB z0_iC z0_aC z0_iD z0_lD z0_aD z0_iE z0_aE z0_iK z0_lK z0_aK z0_iW z0_aW z0_iP z0_aP) ++ (zzM adm cy z0_iM z0_aM)) := by subst hadm; exact hD.sub [0, 1, 2, 3, 4, 5, 6, 7, 8, 9, 10, 11, 12, 13, 14, 15, 16, 17, 18, 19, 20, 21, 22, 23, 24, 25, 26, 27, 28, 29, 30, 31, 32, 33, 34, 35, 36, 37, 38, 39, 40, 41, 42, 43, 44, 45, 46, 47, 48, 49, 50, 51, 52, 53, 54, 55, 56, 57, 58, 59, 60, 61, 62, 63, 64, 65, 66, 67, 68, 69, 70, 71, 72, 73, 74, 75, 76, 77, 78, 79, 80, 81, 82, 83, 84, 85, 86, 87, 88, 89, 90, 91, 92, 93, 94, 95, 96, 97] (by decide) rfl
  have hqm : qM = adm 0 := by subst hadm; rfl
  refine lv_astore_n (lv' := [(2, .ref qM), (1, .ref qX), (0, .ref b)]) hx hb dL_law_15 rfl hl (by decide) rfl (fun ls hl => ?_)
  refine lv_iconst (v := 0) hx hb dL_law_16 (by decide) ?_
  refine lv_istore_n (lv' := [(3, .int 0), (2, .ref qM), (1, .ref qX), (0, .ref b)]) hx hb dL_law_17 rfl hl (by decide) rfl (fun ls hl => ?_)
  rw [hqx, hqm] at hl
  refine W.widen (k := 600000) (n := 7302250) (Nat.le_of_ble_eq_true rfl) (Nat.le_of_ble_eq_true rfl) ?_
  exact law_loop_open N Rel S_feed S_cut S_read S_place S_count S_atom S_rank S_goes S_at S_ask S_isUnder S_next S_world S_thing S_edge S_bones S_same S_print S_out S_back hL C0 hN hK (L + 1) 0 0 (Nat.zero_le L) (by omega) nI_0.symm adx adm (adx 20) (adx 27) (adx 4) z0_iX z0_iR z0_iT z0_wT z0_tx z0_iB z0_lB z0_aB z0_iC z0_aC z0_iD z0_lD z0_aD z0_iE z0_aE z0_iK z0_lK z0_aK z0_iW z0_aW z0_iP z0_aP z0_iM z0_aM hI H locs hP hD hS ls (lv_sub hl [3, 2, 1, 0] rfl)
