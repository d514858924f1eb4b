def f_M_close_0 (N : Nat) (iM39 : Int32) (iM54 : Int32) (iM55 : Int32) (aM8 : Nat → Int32) (aM10 : Nat → Int32) (aM13 : Nat → Int32) (aM52 : Nat → Int32) (aM53 : Nat → Int32) (v1 : Int32) : Nat → Int32 → Int32 → Int32 → (Nat → Int32) → (Nat → Int32) → Option (Int32 × Int32 × Int32 × (Nat → Int32) × (Nat → Int32))
  | 0, _, _, _, _, _ => none
  | n + 1, x_iM39, x_iM54, x_iM55, x_aM10, x_aM13 => if (x_iM54 - (1 : Int32)) < 0 ∨ 500 ≤ ((x_iM54 - (1 : Int32))).toNatClampNeg then none else (if (aM52 ((x_iM54 - (1 : Int32))).toNatClampNeg) = (3 : Int32) then (if (aM53 ((x_iM54 - (1 : Int32))).toNatClampNeg) < 0 ∨ 400 ≤ ((aM53 ((x_iM54 - (1 : Int32))).toNatClampNeg)).toNatClampNeg then none else (if v1 < (aM8 ((aM53 ((x_iM54 - (1 : Int32))).toNatClampNeg)).toNatClampNeg) then (some (x_iM39, x_iM54, x_iM55, x_aM10, x_aM13)) else ((f_M_ended ((aM53 ((x_iM54 - (1 : Int32))).toNatClampNeg)) x_iM39 x_aM13).bind fun q67 => (f_M_close_0 N iM39 iM54 iM55 aM8 aM10 aM13 aM52 aM53 v1 n q67.1 ((x_iM54 - (1 : Int32))) ((aM53 ((x_iM54 - (1 : Int32))).toNatClampNeg)) ((upd x_aM10 ((aM53 ((x_iM54 - (1 : Int32))).toNatClampNeg)).toNatClampNeg x_iM55)) q67.2)))) else (some (x_iM39, x_iM54, x_iM55, x_aM10, x_aM13)))
def f_M_close (N : Nat) (a1 : Int32) (iM39 : Int32) (iM54 : Int32) (iM55 : Int32) (aM8 : Nat → Int32) (aM10 : Nat → Int32) (aM13 : Nat → Int32) (aM52 : Nat → Int32) (aM53 : Nat → Int32) : Option (Int32 × Int32 × Int32 × (Nat → Int32) × (Nat → Int32)) := f_M_close_0 N iM39 iM54 iM55 aM8 aM10 aM13 aM52 aM53 a1 N iM39 iM54 iM55 aM10 aM13
set_option maxHeartbeats 8000000 in
set_option maxRecDepth 100000 in
theorem c_M_close (l : Launch) (dC : Nat → ClassId) (dI : Nat → Nat → Nat) (cy : Nat → ClassId) (ad : Nat → Nat) (sz : Nat) (N : Nat) (a1 : Int32) (iM : Nat → Int32) (aM : Nat → Nat → Int32) (q : Int32 × Int32 × Int32 × (Nat → Int32) × (Nat → Int32)) (h : f_M_close N a1 (iM 39) (iM 54) (iM 55) (aM 8) (aM 10) (aM 13) (aM 52) (aM 53) = some q) : Met l yX8_close wsX8_close ({ frames := 1, cells := 0, slots := 0, locals := 21 } : Room) (cP (dC, dI) cy [.ref (ad 0), .int a1] (zzM ad cy iM aM) sz) (cQv (dC, dI) cy (zzM ad cy (us iM [(39, q.1), (54, q.2.1), (55, q.2.2.1)]) (us aM [(10, q.2.2.2.1), (13, q.2.2.2.2)])) (va_A (zzM ad cy iM aM) sz)) 0 0 (va_A (zzM ad cy iM aM) sz) := by
  refine Met.ofW (cc := cX8_close) (maxL := 3) (ret := none) (by decide) rfl ?_
  intro p e s m args below meth c s₁ B hml hv
  obtain ⟨hav, hsz, hP, hK, hD0, hN⟩ := hv
  have hx := B.exec
  have hb := B.bytes
  have hr := B.returns
  have hts := atoms_spec (ws := wsX8_close) B.pre
  have hown : s.vm.findClass RX8 = some m.cls := findClass_of_methodNamed B.named
  have hlocks := B.notSynchronized
  subst hsz
  have hD := hD0.self (sz := s.heap.size)
  generalize hAe : va_A (zzM ad cy iM aM) s.heap.size = A at hD ⊢
  have hA : ∀ q : Nat, s.heap.size ≤ q → A q := fun q h => by rw [← hAe]; exact Or.inr h
  have hS : va_S A s.heap s.heap [] := va_S.rf
  generalize hWQ : (zzM ad cy (us iM [(39, q.1), (54, q.2.1), (55, q.2.2.1)]) (us aM [(10, q.2.2.2.1), (13, q.2.2.2.2)])) = WQ
  generalize hQQ : MQ below (cQv (dC, dI) cy WQ A) args s 0 0 A = QQ
  have hl := lv_entry ([.ref (ad 0), .int a1] : List Value) (n := 3) (Nat.le_of_ble_eq_true rfl)
  have hfr := lg_entry_eq m ([.ref (ad 0), .int a1] : List Value) 3
  rw [← hav] at hfr
  rw [hfr]
  clear hfr hav
  generalize (lg_sl ([.ref (ad 0), .int a1] : List Value) ++ List.replicate (3 - (lg_sl ([.ref (ad 0), .int a1] : List Value)).length) Slot.unset).toArray = ls at hl ⊢
  have hl : lv_has ls 3 [(0, .ref (ad 0)), (1, .int a1)] := hl
  have kf95 := hts _ (List.mem_cons_of_mem _ m_fl_X8_95)
  have ki8 := (fun w h => List.mem_cons_of_mem _ (i_X8 w h) : ∀ w ∈ u_ws RX8 TX8 78, w ∈ wsX8_close)
  have kf248 := hts _ (List.mem_cons_of_mem _ m_fl_X8_248)
  have kf17 := hts _ (List.mem_cons_of_mem _ m_fl_X8_17)
  have kf98 := hts _ (List.mem_cons_of_mem _ m_fl_X8_98)
  have kf24 := hts _ (List.mem_cons_of_mem _ m_fl_X8_24)
  have kf251 := hts _ (List.mem_cons_of_mem _ m_fl_X8_251)
  refine (?_ : ∀ (H : Heap) (locs : List Loc), va_P (dC, dI) vwCl (zzM ad cy iM aM) H → va_D A (zzM ad cy iM aM) → va_S A s.heap H locs → W p l e ({ frames := 1, cells := 0, slots := 0, locals := 21 } : Room) s m args below meth c H locs 0 0 QQ (F0 m 0 ls [])) s.heap [] hP hD hS
  clear hP hD hS
  have B0 : ∀ (n : Nat) (v1 : Int32) (x_iM39 : Int32) (x_iM54 : Int32) (x_iM55 : Int32) (x_aM10 : Nat → Int32) (x_aM13 : Nat → Int32) (H : Heap) (locs : List Loc) (ls : Array Slot), f_M_close_0 N (iM 39) (iM 54) (iM 55) (aM 8) (aM 10) (aM 13) (aM 52) (aM 53) v1 n x_iM39 x_iM54 x_iM55 x_aM10 x_aM13 = some q → va_P (dC, dI) vwCl (zzM ad cy (us iM [(39, x_iM39), (54, x_iM54), (55, x_iM55)]) (us aM [(10, x_aM10), (13, x_aM13)])) H → va_D A (zzM ad cy (us iM [(39, x_iM39), (54, x_iM54), (55, x_iM55)]) (us aM [(10, x_aM10), (13, x_aM13)])) → va_S A s.heap H locs → lv_has ls 3 [(0, .ref (ad 0)), (1, .int v1)] → W p l e ({ frames := 1, cells := 0, slots := 0, locals := 21 } : Room) s m args below meth c H locs 0 0 QQ (F0 m 0 ls []) := by
    intro n
    induction n with
    | zero =>
      intro v1 x_iM39 x_iM54 x_iM55 x_aM10 x_aM13 H locs ls h hP hD hS hl
      rw [f_M_close_0] at h
      cases h
    | succ n ih =>
      intro v1 x_iM39 x_iM54 x_iM55 x_aM10 x_aM13 H locs ls h hP hD hS hl
      rw [f_M_close_0] at h
      refine lv_aload_n hx hb dX8_close_0 rfl (lv_at hl 0 rfl) ?_
      refine va_get (D := (dC, dI)) (ci := 8) (v := .ref (ad 27)) (C := RX8) (T := TX8) (N := 78) hx hb hts ki8 hown hK hP 0 rfl rfl 52 (by decide) kf95 (fun _ h9 => h9) rfl dX8_close_1 ?_
      refine lv_aload_n hx hb dX8_close_4 rfl (lv_at hl 0 rfl) ?_
      refine va_get (D := (dC, dI)) (ci := 8) (v := .int x_iM54) (C := RX8) (T := TX8) (N := 78) hx hb hts ki8 hown hK hP 0 rfl rfl 54 (by decide) kf248 (fun _ h9 => h9) rfl dX8_close_5 ?_
      refine lv_iconst (v := 1) hx hb dX8_close_8 (by decide) ?_
      refine lv_isub hx hb dX8_close_9 ?_
      obtain ⟨g_80, h⟩ := g_n h
      refine va_iald (f := (aM 52)) hx hb hK hP 27 0 rfl rfl g_80 dX8_close_10 ?_
      refine lv_iconst (v := 3) hx hb dX8_close_11 (by decide) ?_
      refine lv_icmp_ne (tgt := 78) hx hb dX8_close_12 (by decide) (fun cz => ?_) (fun cz => ?_)
      · have h := g_f h cz
        have h' := Option.some.inj h
        rw [← hQQ]
        exact W.vret hx hb hr (fun t ht hW => ⟨⟨(), rfl, trivial, by rw [← hWQ, ← h', ht]; exact hP, va_K.moved hW.alike hK⟩, hS.F ht⟩) hS.2.2 dX8_close_78
      · have h := g_t h cz
        refine lv_aload_n hx hb dX8_close_15 rfl (lv_at hl 0 rfl) ?_
        refine va_get (D := (dC, dI)) (ci := 8) (v := .ref (ad 3)) (C := RX8) (T := TX8) (N := 78) hx hb hts ki8 hown hK hP 0 rfl rfl 8 (by decide) kf17 (fun _ h9 => h9) rfl dX8_close_16 ?_
        refine lv_aload_n hx hb dX8_close_19 rfl (lv_at hl 0 rfl) ?_
        refine va_get (D := (dC, dI)) (ci := 8) (v := .ref (ad 28)) (C := RX8) (T := TX8) (N := 78) hx hb hts ki8 hown hK hP 0 rfl rfl 53 (by decide) kf98 (fun _ h9 => h9) rfl dX8_close_20 ?_
        refine lv_aload_n hx hb dX8_close_23 rfl (lv_at hl 0 rfl) ?_
        refine va_get (D := (dC, dI)) (ci := 8) (v := .int x_iM54) (C := RX8) (T := TX8) (N := 78) hx hb hts ki8 hown hK hP 0 rfl rfl 54 (by decide) kf248 (fun _ h9 => h9) rfl dX8_close_24 ?_
        refine lv_iconst (v := 1) hx hb dX8_close_27 (by decide) ?_
        refine lv_isub hx hb dX8_close_28 ?_
        refine va_iald (f := (aM 53)) hx hb hK hP 28 0 rfl rfl g_80 dX8_close_29 ?_
        obtain ⟨g_81, h⟩ := g_n h
        refine va_iald (f := (aM 8)) hx hb hK hP 3 0 rfl rfl g_81 dX8_close_30 ?_
        refine lv_iload_n hx hb dX8_close_31 rfl (lv_at hl 1 rfl) ?_
        refine lv_icmp_gt (tgt := 78) hx hb dX8_close_32 (by decide) (fun cz => ?_) (fun cz => ?_)
        · have h := g_t h cz
          have h' := Option.some.inj h
          rw [← hQQ]
          exact W.vret hx hb hr (fun t ht hW => ⟨⟨(), rfl, trivial, by rw [← hWQ, ← h', ht]; exact hP, va_K.moved hW.alike hK⟩, hS.F ht⟩) hS.2.2 dX8_close_78
        · have h := g_f h cz
          refine lv_aload_n hx hb dX8_close_35 rfl (lv_at hl 0 rfl) ?_
          refine lv_dup hx hb dX8_close_36 rfl ?_
          refine va_get (D := (dC, dI)) (ci := 8) (v := .int x_iM54) (C := RX8) (T := TX8) (N := 78) hx hb hts ki8 hown hK hP 0 rfl rfl 54 (by decide) kf248 (fun _ h9 => h9) rfl dX8_close_37 ?_
          refine lv_iconst (v := 1) hx hb dX8_close_40 (by decide) ?_
          refine lv_isub hx hb dX8_close_41 ?_
          refine va_put (D := (dC, dI)) (ci := 8) (v := .int ((x_iM54 - (1 : Int32)))) (ty := .int) (C := RX8) (T := TX8) (N := 78) hx hb hts ki8 tyX8 tyX8_ok nmX8 hown hK hP hD hS 0 rfl rfl 54 (by decide) kf248 (fun _ h9 => h9) rfl (by decide +kernel) rfl rfl (Nat.le_of_ble_eq_true rfl) dX8_close_42 (fun H locs hP hD hS => ?_)
          have hP : va_P (dC, dI) vwCl (zzM ad cy (us iM [(39, x_iM39), (54, (x_iM54 - (1 : Int32))), (55, x_iM55)]) (us aM [(10, x_aM10), (13, x_aM13)])) H := Eq.mp (congrArg (fun w => va_P (dC, dI) vwCl w H) (stM_iM54 ad cy iM (us aM [(10, x_aM10), (13, x_aM13)]) [(39, x_iM39), (54, x_iM54), (55, x_iM55)] ((x_iM54 - (1 : Int32))))) hP
          have hD : va_D A (zzM ad cy (us iM [(39, x_iM39), (54, (x_iM54 - (1 : Int32))), (55, x_iM55)]) (us aM [(10, x_aM10), (13, x_aM13)])) := Eq.mp (congrArg (fun w => va_D A w) (stM_iM54 ad cy iM (us aM [(10, x_aM10), (13, x_aM13)]) [(39, x_iM39), (54, x_iM54), (55, x_iM55)] ((x_iM54 - (1 : Int32))))) hD
          refine lv_aload_n hx hb dX8_close_45 rfl (lv_at hl 0 rfl) ?_
          refine va_get (D := (dC, dI)) (ci := 8) (v := .ref (ad 28)) (C := RX8) (T := TX8) (N := 78) hx hb hts ki8 hown hK hP 0 rfl rfl 53 (by decide) kf98 (fun _ h9 => h9) rfl dX8_close_46 ?_
          refine lv_aload_n hx hb dX8_close_49 rfl (lv_at hl 0 rfl) ?_
          refine va_get (D := (dC, dI)) (ci := 8) (v := .int ((x_iM54 - (1 : Int32)))) (C := RX8) (T := TX8) (N := 78) hx hb hts ki8 hown hK hP 0 rfl rfl 54 (by decide) kf248 (fun _ h9 => h9) rfl dX8_close_50 ?_
          refine va_iald (f := (aM 53)) hx hb hK hP 28 0 rfl rfl g_80 dX8_close_53 ?_
          refine lv_istore_n (lv' := [(2, .int (((aM 53) ((x_iM54 - (1 : Int32))).toNatClampNeg))), (0, .ref (ad 0)), (1, .int v1)]) hx hb dX8_close_54 rfl hl (by decide) rfl (fun ls hl => ?_)
          refine lv_aload_n hx hb dX8_close_55 rfl (lv_at hl 1 rfl) ?_
          refine va_get (D := (dC, dI)) (ci := 8) (v := .ref (ad 5)) (C := RX8) (T := TX8) (N := 78) hx hb hts ki8 hown hK hP 0 rfl rfl 10 (by decide) kf24 (fun _ h9 => h9) rfl dX8_close_56 ?_
          refine lv_iload_n hx hb dX8_close_59 rfl (lv_at hl 0 rfl) ?_
          refine lv_aload_n hx hb dX8_close_60 rfl (lv_at hl 1 rfl) ?_
          refine va_get (D := (dC, dI)) (ci := 8) (v := .int x_iM55) (C := RX8) (T := TX8) (N := 78) hx hb hts ki8 hown hK hP 0 rfl rfl 55 (by decide) kf251 (fun _ h9 => h9) rfl dX8_close_61 ?_
          refine va_iast (f := x_aM10) hx hb hK hP hD hS 5 0 rfl rfl g_81 dX8_close_64 (fun H locs hP hD hS => ?_)
          have hP : va_P (dC, dI) vwCl (zzM ad cy (us iM [(39, x_iM39), (54, (x_iM54 - (1 : Int32))), (55, x_iM55)]) (us aM [(10, (upd x_aM10 (((aM 53) ((x_iM54 - (1 : Int32))).toNatClampNeg)).toNatClampNeg x_iM55)), (13, x_aM13)])) H := Eq.mp (congrArg (fun w => va_P (dC, dI) vwCl w H) (stM_aM10 ad cy (us iM [(39, x_iM39), (54, (x_iM54 - (1 : Int32))), (55, x_iM55)]) aM [(10, x_aM10), (13, x_aM13)] ((upd x_aM10 (((aM 53) ((x_iM54 - (1 : Int32))).toNatClampNeg)).toNatClampNeg x_iM55)))) hP
          have hD : va_D A (zzM ad cy (us iM [(39, x_iM39), (54, (x_iM54 - (1 : Int32))), (55, x_iM55)]) (us aM [(10, (upd x_aM10 (((aM 53) ((x_iM54 - (1 : Int32))).toNatClampNeg)).toNatClampNeg x_iM55)), (13, x_aM13)])) := Eq.mp (congrArg (fun w => va_D A w) (stM_aM10 ad cy (us iM [(39, x_iM39), (54, (x_iM54 - (1 : Int32))), (55, x_iM55)]) aM [(10, x_aM10), (13, x_aM13)] ((upd x_aM10 (((aM 53) ((x_iM54 - (1 : Int32))).toNatClampNeg)).toNatClampNeg x_iM55)))) hD
          refine lv_aload_n hx hb dX8_close_65 rfl (lv_at hl 1 rfl) ?_
          refine lv_iload_n hx hb dX8_close_66 rfl (lv_at hl 0 rfl) ?_
          obtain ⟨q67, e67, h⟩ := g_b h
          refine callVvs (cc := cX8_close) (w1 := zzM ad cy (us iM [(39, q67.1), (54, (x_iM54 - (1 : Int32))), (55, x_iM55)]) (us aM [(10, (upd x_aM10 (((aM 53) ((x_iM54 - (1 : Int32))).toNatClampNeg)).toNatClampNeg x_iM55)), (13, q67.2)])) (As := [.int (((aM 53) ((x_iM54 - (1 : Int32))).toNatClampNeg))]) (rest := []) ⟨hx, hb, hml, hown, hts⟩ (c_M_ended l dC dI cy ad H.size (((aM 53) ((x_iM54 - (1 : Int32))).toNatClampNeg)) ((us iM [(39, x_iM39), (54, (x_iM54 - (1 : Int32))), (55, x_iM55)])) ((us aM [(10, (upd x_aM10 (((aM 53) ((x_iM54 - (1 : Int32))).toNatClampNeg)).toNatClampNeg x_iM55)), (13, x_aM13)])) q67 e67) (cwV 1 hts (goodV m_ml_X8_257 m_im_X8_ended m_se_X8_ended m_in_X8 m_cd_X8_ended) rfl rfl rfl (by decide +kernel) ⟨Nat.le_of_ble_eq_true rfl, Nat.le_of_ble_eq_true rfl⟩) hN hK hP hD hS hA rfl 0 rfl rfl rfl hl.1 rfl (Nat.le_of_ble_eq_true rfl) dX8_close_67 ⟨Nat.zero_le _, Nat.zero_le _⟩ (fun H locs hP hD hS => ?_)
          refine lv_aload_n hx hb dX8_close_70 rfl (lv_at hl 1 rfl) ?_
          refine lv_iload_n hx hb dX8_close_71 rfl (lv_at hl 0 rfl) ?_
          refine va_put (D := (dC, dI)) (ci := 8) (v := .int (((aM 53) ((x_iM54 - (1 : Int32))).toNatClampNeg))) (ty := .int) (C := RX8) (T := TX8) (N := 78) hx hb hts ki8 tyX8 tyX8_ok nmX8 hown hK hP hD hS 0 rfl rfl 55 (by decide) kf251 (fun _ h9 => h9) rfl (by decide +kernel) rfl rfl (Nat.le_of_ble_eq_true rfl) dX8_close_72 (fun H locs hP hD hS => ?_)
          have hP : va_P (dC, dI) vwCl (zzM ad cy (us iM [(39, q67.1), (54, (x_iM54 - (1 : Int32))), (55, ((aM 53) ((x_iM54 - (1 : Int32))).toNatClampNeg))]) (us aM [(10, (upd x_aM10 (((aM 53) ((x_iM54 - (1 : Int32))).toNatClampNeg)).toNatClampNeg x_iM55)), (13, q67.2)])) H := Eq.mp (congrArg (fun w => va_P (dC, dI) vwCl w H) (stM_iM55 ad cy iM (us aM [(10, (upd x_aM10 (((aM 53) ((x_iM54 - (1 : Int32))).toNatClampNeg)).toNatClampNeg x_iM55)), (13, q67.2)]) [(39, q67.1), (54, (x_iM54 - (1 : Int32))), (55, x_iM55)] (((aM 53) ((x_iM54 - (1 : Int32))).toNatClampNeg)))) hP
          have hD : va_D A (zzM ad cy (us iM [(39, q67.1), (54, (x_iM54 - (1 : Int32))), (55, ((aM 53) ((x_iM54 - (1 : Int32))).toNatClampNeg))]) (us aM [(10, (upd x_aM10 (((aM 53) ((x_iM54 - (1 : Int32))).toNatClampNeg)).toNatClampNeg x_iM55)), (13, q67.2)])) := Eq.mp (congrArg (fun w => va_D A w) (stM_iM55 ad cy iM (us aM [(10, (upd x_aM10 (((aM 53) ((x_iM54 - (1 : Int32))).toNatClampNeg)).toNatClampNeg x_iM55)), (13, q67.2)]) [(39, q67.1), (54, (x_iM54 - (1 : Int32))), (55, x_iM55)] (((aM 53) ((x_iM54 - (1 : Int32))).toNatClampNeg)))) hD
          refine lv_goto (tgt := 0) hx hb dX8_close_75 (by decide) ?_
          exact ih v1 q67.1 ((x_iM54 - (1 : Int32))) (((aM 53) ((x_iM54 - (1 : Int32))).toNatClampNeg)) ((upd x_aM10 (((aM 53) ((x_iM54 - (1 : Int32))).toNatClampNeg)).toNatClampNeg x_iM55)) q67.2 H locs ls h hP hD hS (lv_sub hl [1, 2] rfl)
  intro H locs hP hD hS
  unfold f_M_close at h
  exact B0 N a1 (iM 39) (iM 54) (iM 55) (aM 10) (aM 13) H locs ls h hP hD hS (lv_sub hl [0, 1] rfl)
