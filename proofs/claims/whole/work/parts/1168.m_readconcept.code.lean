def f_M_readConcept_61 (N : Nat) (iM : Nat → Int32) (aM : Nat → Nat → Int32) (x_iM : Nat → Int32) (x_aM : Nat → Nat → Int32) : Option (Int32 × (Nat → Int32) × (Nat → Nat → Int32)) := some ((x_iM 55), x_iM, x_aM)
def f_M_readConcept_28 (N : Nat) (iM : Nat → Int32) (aM : Nat → Nat → Int32)  : Nat → Int32 → (Nat → Int32) → (Nat → Nat → Int32) → Option (Int32 × (Nat → Int32) × (Nat → Nat → Int32))
  | 0, _, _, _ => none
  | n + 1, v1, x_iM, x_aM => if v1 = 0 then (f_M_readConcept_61 N iM aM x_iM x_aM) else ((f_M_fine ((x_iM 46))).bind fun q33 => (if q33 = 0 then (f_M_readConcept_61 N iM aM x_iM x_aM) else (if (x_iM 56) = 0 then ((f_M_readBehind N x_iM x_aM).bind fun q54 => (f_M_readConcept_28 N iM aM n q54.1 q54.2.1 q54.2.2)) else ((f_M_readOne N x_iM x_aM).bind fun q47 => (f_M_readConcept_28 N iM aM n v1 q47.1 q47.2)))))
def f_M_readConcept (N : Nat) (iM : Nat → Int32) (aM : Nat → Nat → Int32) : Option (Int32 × (Nat → Int32) × (Nat → Nat → Int32)) := (f_M_wait ((0 : Int32)) ((-1 : Int32)) ((0 : Int32)) ((aM 52)) ((aM 53))).bind fun q8 => (f_M_readConcept_28 N iM aM N ((1 : Int32)) ((us iM [(49, (0 : Int32)), (54, q8.1), (55, (-1 : Int32)), (56, (1 : Int32))])) ((us aM [(52, q8.2.1), (53, q8.2.2)])))
set_option maxHeartbeats 8000000 in
set_option maxRecDepth 100000 in
theorem c_M_readConcept (l : Launch) (dC : Nat → ClassId) (dI : Nat → Nat → Nat) (cy : Nat → ClassId) (ad : Nat → Nat) (sz : Nat) (N : Nat) (iM : Nat → Int32) (aM : Nat → Nat → Int32) (q : Int32 × (Nat → Int32) × (Nat → Nat → Int32)) (h : f_M_readConcept N iM aM = some q) : Met l yX8_readConcept wsX8_readConcept ({ frames := 5, cells := 0, slots := 0, locals := 115 } : Room) (cP (dC, dI) cy [.ref (ad 0)] (zzM ad cy iM aM) sz) (cQi (dC, dI) cy q.1 (zzM ad cy q.2.1 q.2.2) (va_A (zzM ad cy iM aM) sz)) 0 0 (va_A (zzM ad cy iM aM) sz) := by
  refine Met.ofW (cc := cX8_readConcept) (maxL := 2) (ret := (some .int)) (by decide) rfl ?_
  intro p e s m args below meth c s₁ B hml hv
  obtain ⟨hav, hsz, hP, hK, hD0, hN⟩ := hv
  have hx := B.exec
  have hb := B.bytes
  have hr := B.returns
  have hts := atoms_spec (ws := wsX8_readConcept) B.pre
  have hown : s.vm.findClass RX8 = some m.cls := findClass_of_methodNamed B.named
  have hlocks := B.notSynchronized
  subst hsz
  have hD := hD0.self (sz := s.heap.size)
  generalize hAe : va_A (zzM ad cy iM aM) s.heap.size = A at hD ⊢
  have hA : ∀ q : Nat, s.heap.size ≤ q → A q := fun q h => by rw [← hAe]; exact Or.inr h
  have hS : va_S A s.heap s.heap [] := va_S.rf
  generalize hWQ : (zzM ad cy q.2.1 q.2.2) = WQ
  generalize hQQ : MQ below (cQi (dC, dI) cy q.1 WQ A) args s 0 0 A = QQ
  have hl := lv_entry ([.ref (ad 0)] : List Value) (n := 2) (Nat.le_of_ble_eq_true rfl)
  have hfr := lg_entry_eq m ([.ref (ad 0)] : List Value) 2
  rw [← hav] at hfr
  rw [hfr]
  clear hfr hav
  generalize (lg_sl ([.ref (ad 0)] : List Value) ++ List.replicate (2 - (lg_sl ([.ref (ad 0)] : List Value)).length) Slot.unset).toArray = ls at hl ⊢
  have hl : lv_has ls 2 [(0, .ref (ad 0))] := hl
  have kf251 := hts _ (List.mem_cons_of_mem _ m_fl_X8_251)
  have ki8 := (fun w h => List.mem_cons_of_mem _ (i_X8 w h) : ∀ w ∈ u_ws RX8 TX8 78, w ∈ wsX8_readConcept)
  have kf263 := hts _ (List.mem_cons_of_mem _ m_fl_X8_263)
  have kf248 := hts _ (List.mem_cons_of_mem _ m_fl_X8_248)
  have kf254 := hts _ (List.mem_cons_of_mem _ m_fl_X8_254)
  refine (?_ : ∀ (H : Heap) (locs : List Loc), va_P (dC, dI) vwCl (zzM ad cy iM aM) H → va_D A (zzM ad cy iM aM) → va_S A s.heap H locs → W p l e ({ frames := 5, cells := 0, slots := 0, locals := 115 } : Room) s m args below meth c H locs 0 0 QQ (F0 m 0 ls [])) s.heap [] hP hD hS
  clear hP hD hS
  have B61 : ∀ (x_iM : Nat → Int32) (x_aM : Nat → Nat → Int32) (H : Heap) (locs : List Loc) (ls : Array Slot), f_M_readConcept_61 N iM aM x_iM x_aM = some q → va_P (dC, dI) vwCl (zzM ad cy x_iM x_aM) H → va_D A (zzM ad cy x_iM x_aM) → va_S A s.heap H locs → lv_has ls 2 [(0, .ref (ad 0))] → W p l e ({ frames := 5, cells := 0, slots := 0, locals := 115 } : Room) s m args below meth c H locs 0 0 QQ (F0 m 61 ls []) := by
    intro x_iM x_aM H locs ls h hP hD hS hl
    unfold f_M_readConcept_61 at h
    refine lv_aload_n hx hb dX8_readConcept_61 rfl (lv_at hl 0 rfl) ?_
    refine va_get (D := (dC, dI)) (ci := 8) (v := .int ((x_iM 55))) (C := RX8) (T := TX8) (N := 78) hx hb hts ki8 hown hK hP 0 rfl rfl 55 (by decide) kf251 (fun _ h9 => h9) rfl dX8_readConcept_62 ?_
    have h' := Option.some.inj h
    rw [← hQQ]
    exact W.iret (v := (x_iM 55)) hx hb hr (fun t ht hW => ⟨⟨(x_iM 55), (), rfl, by rw [← h'], by rw [← hWQ, ← h', ht]; exact hP, va_K.moved hW.alike hK⟩, hS.F ht⟩) hS.2.2 dX8_readConcept_65
  have B28 : ∀ (n : Nat) (v1 : Int32) (x_iM : Nat → Int32) (x_aM : Nat → Nat → Int32) (H : Heap) (locs : List Loc) (ls : Array Slot), f_M_readConcept_28 N iM aM n v1 x_iM x_aM = some q → va_P (dC, dI) vwCl (zzM ad cy x_iM x_aM) H → va_D A (zzM ad cy x_iM x_aM) → va_S A s.heap H locs → lv_has ls 2 [(0, .ref (ad 0)), (1, .int v1)] → W p l e ({ frames := 5, cells := 0, slots := 0, locals := 115 } : Room) s m args below meth c H locs 0 0 QQ (F0 m 28 ls []) := by
    intro n
    induction n with
    | zero =>
      intro v1 x_iM x_aM H locs ls h hP hD hS hl
      rw [f_M_readConcept_28] at h
      cases h
    | succ n ih =>
      intro v1 x_iM x_aM H locs ls h hP hD hS hl
      rw [f_M_readConcept_28] at h
      refine lv_iload_n hx hb dX8_readConcept_28 rfl (lv_at hl 1 rfl) ?_
      refine lv_if_eq (tgt := 61) hx hb dX8_readConcept_29 (by decide) (fun cz => ?_) (fun cz => ?_)
      · have h := g_t h cz
        exact B61 x_iM x_aM H locs ls h hP hD hS (lv_sub hl [0] rfl)
      · have h := g_f h cz
        refine lv_aload_n hx hb dX8_readConcept_32 rfl (lv_at hl 0 rfl) ?_
        obtain ⟨q33, e33, h⟩ := g_b h
        refine callVis (cc := cX8_readConcept) (w1 := zzM ad cy x_iM x_aM) (As := []) (rest := []) ⟨hx, hb, hml, hown, hts⟩ (c_M_fine l dC dI cy ad H.size x_iM x_aM q33 e33) (cwV 0 hts (goodV m_ml_X8_198 m_im_X8_fine m_se_X8_fine m_in_X8 m_cd_X8_fine) rfl rfl rfl (by decide +kernel) ⟨Nat.le_of_ble_eq_true rfl, Nat.le_of_ble_eq_true rfl⟩) hN hK hP hD hS hA rfl 0 rfl rfl rfl hl.1 rfl (Nat.le_of_ble_eq_true rfl) dX8_readConcept_33 ⟨Nat.zero_le _, Nat.zero_le _⟩ (fun H locs hP hD hS => ?_)
        refine lv_if_eq (tgt := 61) hx hb dX8_readConcept_36 (by decide) (fun cz => ?_) (fun cz => ?_)
        · have h := g_t h cz
          exact B61 x_iM x_aM H locs ls h hP hD hS (lv_sub hl [0] rfl)
        · have h := g_f h cz
          refine lv_aload_n hx hb dX8_readConcept_39 rfl (lv_at hl 0 rfl) ?_
          refine va_get (D := (dC, dI)) (ci := 8) (v := .int ((x_iM 56))) (C := RX8) (T := TX8) (N := 78) hx hb hts ki8 hown hK hP 0 rfl rfl 56 (by decide) kf263 (fun _ h9 => h9) rfl dX8_readConcept_40 ?_
          refine lv_if_eq (tgt := 53) hx hb dX8_readConcept_43 (by decide) (fun cz => ?_) (fun cz => ?_)
          · have h := g_t h cz
            refine lv_aload_n hx hb dX8_readConcept_53 rfl (lv_at hl 0 rfl) ?_
            obtain ⟨q54, e54, h⟩ := g_b h
            refine callVis (cc := cX8_readConcept) (w1 := zzM ad cy q54.2.1 q54.2.2) (As := []) (rest := []) ⟨hx, hb, hml, hown, hts⟩ (c_M_readBehind l dC dI cy ad H.size N x_iM x_aM q54 e54) (cwV 0 hts (goodV m_ml_X8_292 m_im_X8_readBehind m_se_X8_readBehind m_in_X8 m_cd_X8_readBehind) rfl rfl rfl (by decide +kernel) ⟨Nat.le_of_ble_eq_true rfl, Nat.le_of_ble_eq_true rfl⟩) hN hK hP hD hS hA rfl 0 rfl rfl rfl hl.1 rfl (Nat.le_of_ble_eq_true rfl) dX8_readConcept_54 ⟨Nat.zero_le _, Nat.zero_le _⟩ (fun H locs hP hD hS => ?_)
            refine lv_istore_n (lv' := [(1, .int q54.1), (0, .ref (ad 0))]) hx hb dX8_readConcept_57 rfl hl (by decide) rfl (fun ls hl => ?_)
            refine lv_goto (tgt := 28) hx hb dX8_readConcept_58 (by decide) ?_
            exact ih q54.1 q54.2.1 q54.2.2 H locs ls h hP hD hS (lv_sub hl [1, 0] rfl)
          · have h := g_f h cz
            refine lv_aload_n hx hb dX8_readConcept_46 rfl (lv_at hl 0 rfl) ?_
            obtain ⟨q47, e47, h⟩ := g_b h
            refine callVvs (cc := cX8_readConcept) (w1 := zzM ad cy q47.1 q47.2) (As := []) (rest := []) ⟨hx, hb, hml, hown, hts⟩ (c_M_readOne l dC dI cy ad H.size N x_iM x_aM q47 e47) (cwV 0 hts (goodV m_ml_X8_289 m_im_X8_readOne m_se_X8_readOne m_in_X8 m_cd_X8_readOne) rfl rfl rfl (by decide +kernel) ⟨Nat.le_of_ble_eq_true rfl, Nat.le_of_ble_eq_true rfl⟩) hN hK hP hD hS hA rfl 0 rfl rfl rfl hl.1 rfl (Nat.le_of_ble_eq_true rfl) dX8_readConcept_47 ⟨Nat.zero_le _, Nat.zero_le _⟩ (fun H locs hP hD hS => ?_)
            refine lv_goto (tgt := 28) hx hb dX8_readConcept_50 (by decide) ?_
            exact ih v1 q47.1 q47.2 H locs ls h hP hD hS (lv_sub hl [0, 1] rfl)
  intro H locs hP hD hS
  unfold f_M_readConcept at h
  refine lv_aload_n hx hb dX8_readConcept_0 rfl (lv_at hl 0 rfl) ?_
  refine lv_iconst (v := 0) hx hb dX8_readConcept_1 (by decide) ?_
  refine va_put (D := (dC, dI)) (ci := 8) (v := .int ((0 : Int32))) (ty := .int) (C := RX8) (T := TX8) (N := 78) hx hb hts ki8 tyX8 tyX8_ok nmX8 hown hK hP hD hS 0 rfl rfl 54 (by decide) kf248 (fun _ h9 => h9) rfl (by decide +kernel) rfl rfl (Nat.le_of_ble_eq_true rfl) dX8_readConcept_2 (fun H locs hP hD hS => ?_)
  have hP : va_P (dC, dI) vwCl (zzM ad cy (us iM [(54, (0 : Int32))]) aM) H := Eq.mp (congrArg (fun w => va_P (dC, dI) vwCl w H) (sfM_iM54 ad cy iM aM ((0 : Int32)))) hP
  have hD : va_D A (zzM ad cy (us iM [(54, (0 : Int32))]) aM) := Eq.mp (congrArg (fun w => va_D A w) (sfM_iM54 ad cy iM aM ((0 : Int32)))) hD
  refine lv_aload_n hx hb dX8_readConcept_5 rfl (lv_at hl 0 rfl) ?_
  refine lv_iconst (v := 0) hx hb dX8_readConcept_6 (by decide) ?_
  refine lv_iconst (v := (-1)) hx hb dX8_readConcept_7 (by decide) ?_
  obtain ⟨q8, e8, h⟩ := g_b h
  refine callVvs (cc := cX8_readConcept) (w1 := zzM ad cy (us iM [(54, q8.1)]) (us aM [(52, q8.2.1), (53, q8.2.2)])) (As := [.int ((0 : Int32)), .int ((-1 : Int32))]) (rest := []) ⟨hx, hb, hml, hown, hts⟩ (c_M_wait l dC dI cy ad H.size ((0 : Int32)) ((-1 : Int32)) ((us iM [(54, (0 : Int32))])) aM q8 e8) (cwV 2 hts (goodV m_ml_X8_270 m_im_X8_wait m_se_X8_wait m_in_X8 m_cd_X8_wait) rfl rfl rfl (by decide +kernel) ⟨Nat.le_of_ble_eq_true rfl, Nat.le_of_ble_eq_true rfl⟩) hN hK hP hD hS hA rfl 0 rfl rfl rfl hl.1 rfl (Nat.le_of_ble_eq_true rfl) dX8_readConcept_8 ⟨Nat.zero_le _, Nat.zero_le _⟩ (fun H locs hP hD hS => ?_)
  refine lv_aload_n hx hb dX8_readConcept_11 rfl (lv_at hl 0 rfl) ?_
  refine lv_iconst (v := 1) hx hb dX8_readConcept_12 (by decide) ?_
  refine va_put (D := (dC, dI)) (ci := 8) (v := .int ((1 : Int32))) (ty := .boolean) (C := RX8) (T := TX8) (N := 78) hx hb hts ki8 tyX8 tyX8_ok nmX8 hown hK hP hD hS 0 rfl rfl 56 (by decide) kf263 (fun _ h9 => h9) rfl (by decide +kernel) rfl rfl (Nat.le_of_ble_eq_true rfl) dX8_readConcept_13 (fun H locs hP hD hS => ?_)
  have hP : va_P (dC, dI) vwCl (zzM ad cy (us iM [(54, q8.1), (56, (1 : Int32))]) (us aM [(52, q8.2.1), (53, q8.2.2)])) H := Eq.mp (congrArg (fun w => va_P (dC, dI) vwCl w H) (stM_iM56 ad cy iM (us aM [(52, q8.2.1), (53, q8.2.2)]) [(54, q8.1)] ((1 : Int32)))) hP
  have hD : va_D A (zzM ad cy (us iM [(54, q8.1), (56, (1 : Int32))]) (us aM [(52, q8.2.1), (53, q8.2.2)])) := Eq.mp (congrArg (fun w => va_D A w) (stM_iM56 ad cy iM (us aM [(52, q8.2.1), (53, q8.2.2)]) [(54, q8.1)] ((1 : Int32)))) hD
  refine lv_aload_n hx hb dX8_readConcept_16 rfl (lv_at hl 0 rfl) ?_
  refine lv_iconst (v := (-1)) hx hb dX8_readConcept_17 (by decide) ?_
  refine va_put (D := (dC, dI)) (ci := 8) (v := .int ((-1 : Int32))) (ty := .int) (C := RX8) (T := TX8) (N := 78) hx hb hts ki8 tyX8 tyX8_ok nmX8 hown hK hP hD hS 0 rfl rfl 55 (by decide) kf251 (fun _ h9 => h9) rfl (by decide +kernel) rfl rfl (Nat.le_of_ble_eq_true rfl) dX8_readConcept_18 (fun H locs hP hD hS => ?_)
  have hP : va_P (dC, dI) vwCl (zzM ad cy (us iM [(54, q8.1), (55, (-1 : Int32)), (56, (1 : Int32))]) (us aM [(52, q8.2.1), (53, q8.2.2)])) H := Eq.mp (congrArg (fun w => va_P (dC, dI) vwCl w H) (stM_iM55 ad cy iM (us aM [(52, q8.2.1), (53, q8.2.2)]) [(54, q8.1), (56, (1 : Int32))] ((-1 : Int32)))) hP
  have hD : va_D A (zzM ad cy (us iM [(54, q8.1), (55, (-1 : Int32)), (56, (1 : Int32))]) (us aM [(52, q8.2.1), (53, q8.2.2)])) := Eq.mp (congrArg (fun w => va_D A w) (stM_iM55 ad cy iM (us aM [(52, q8.2.1), (53, q8.2.2)]) [(54, q8.1), (56, (1 : Int32))] ((-1 : Int32)))) hD
  refine lv_aload_n hx hb dX8_readConcept_21 rfl (lv_at hl 0 rfl) ?_
  refine lv_iconst (v := 0) hx hb dX8_readConcept_22 (by decide) ?_
  refine va_put (D := (dC, dI)) (ci := 8) (v := .int ((0 : Int32))) (ty := .int) (C := RX8) (T := TX8) (N := 78) hx hb hts ki8 tyX8 tyX8_ok nmX8 hown hK hP hD hS 0 rfl rfl 49 (by decide) kf254 (fun _ h9 => h9) rfl (by decide +kernel) rfl rfl (Nat.le_of_ble_eq_true rfl) dX8_readConcept_23 (fun H locs hP hD hS => ?_)
  have hP : va_P (dC, dI) vwCl (zzM ad cy (us iM [(49, (0 : Int32)), (54, q8.1), (55, (-1 : Int32)), (56, (1 : Int32))]) (us aM [(52, q8.2.1), (53, q8.2.2)])) H := Eq.mp (congrArg (fun w => va_P (dC, dI) vwCl w H) (stM_iM49 ad cy iM (us aM [(52, q8.2.1), (53, q8.2.2)]) [(54, q8.1), (55, (-1 : Int32)), (56, (1 : Int32))] ((0 : Int32)))) hP
  have hD : va_D A (zzM ad cy (us iM [(49, (0 : Int32)), (54, q8.1), (55, (-1 : Int32)), (56, (1 : Int32))]) (us aM [(52, q8.2.1), (53, q8.2.2)])) := Eq.mp (congrArg (fun w => va_D A w) (stM_iM49 ad cy iM (us aM [(52, q8.2.1), (53, q8.2.2)]) [(54, q8.1), (55, (-1 : Int32)), (56, (1 : Int32))] ((0 : Int32)))) hD
  refine lv_iconst (v := 1) hx hb dX8_readConcept_26 (by decide) ?_
  refine lv_istore_n (lv' := [(1, .int ((1 : Int32))), (0, .ref (ad 0))]) hx hb dX8_readConcept_27 rfl hl (by decide) rfl (fun ls hl => ?_)
  exact B28 N ((1 : Int32)) ((us iM [(49, (0 : Int32)), (54, q8.1), (55, (-1 : Int32)), (56, (1 : Int32))])) ((us aM [(52, q8.2.1), (53, q8.2.2)])) H locs ls h hP hD hS (lv_sub hl [1, 0] rfl)
