def f_X_read (N : Nat) (iX : Nat → Int32) (iR : Nat → Int32) (iT : Nat → Int32) (wT : Int64) (tx : Nat → Int32) (iB : Nat → Int32) (lB : Nat → Nat → Int64) (aB : Nat → Nat → Int32) (iC : Nat → Int32) (aC : Nat → Nat → Int32) (iD : Nat → Int32) (lD : Nat → Nat → Int64) (aD : Nat → Nat → Int32) (iE : Nat → Int32) (aE : Nat → Nat → Int32) (iK : Nat → Int32) (lK : Nat → Nat → Int64) (aK : Nat → Nat → Int32) (iW : Nat → Int32) (aW : Nat → Nat → Int32) (iP : Nat → Int32) (aP : Nat → Nat → Int32) : Option (Int32 × (Nat → Int32) × (Nat → Int32) × (Nat → Int32) × Int64 × (Nat → Int32) × (Nat → Nat → Int64) × (Nat → Nat → Int32) × (Nat → Int32) × (Nat → Nat → Int32) × (Nat → Int32) × (Nat → Nat → Int64) × (Nat → Nat → Int32) × (Nat → Int32) × (Nat → Nat → Int32) × Bool) := (f_R_takeIn N ((iX 1)) iR iT wT tx iD lD aD iE aE).bind fun q12 => (if q12.1 = 0 then (some ((-(q12.2.1 3)), (us iX [(1, (0 : Int32))]), q12.2.1, q12.2.2.1, q12.2.2.2.1, q12.2.2.2.2.1, q12.2.2.2.2.2.1, q12.2.2.2.2.2.2.1, q12.2.2.2.2.2.2.2.1, q12.2.2.2.2.2.2.2.2, iK, lK, aK, iW, aW, false)) else ((f_K_workOut N iK lK aK q12.2.2.2.2.1 q12.2.2.2.2.2.1 q12.2.2.2.2.2.2.1 q12.2.2.2.2.2.2.2.1 q12.2.2.2.2.2.2.2.2).bind fun q65 => ((f_W_clear N ((iW 1)) ((iW 4)) ((aW 2))).bind fun q72 => (some ((q12.2.2.2.2.1 1), (us iX [(1, (0 : Int32)), (5, (1 : Int32))]), q12.2.1, q12.2.2.1, q12.2.2.2.1, q12.2.2.2.2.1, q12.2.2.2.2.2.1, q12.2.2.2.2.2.2.1, q12.2.2.2.2.2.2.2.1, q12.2.2.2.2.2.2.2.2, q65.1, q65.2.1, q65.2.2, (us iW [(1, q72.1), (4, q72.2.1)]), (us aW [(2, q72.2.2)]), true)))))
set_option maxHeartbeats 8000000 in
set_option maxRecDepth 100000 in
theorem c_X_read (l : Launch) (dC : Nat → ClassId) (dI : Nat → Nat → Nat) (cy : Nat → ClassId) (ad : Nat → Nat) (sz : Nat) (rb : Nat) (rc : Nat) (pb : Nat) (N : Nat) (iX : Nat → Int32) (iR : Nat → Int32) (iT : Nat → Int32) (wT : Int64) (tx : Nat → Int32) (iB : Nat → Int32) (lB : Nat → Nat → Int64) (aB : Nat → Nat → Int32) (iC : Nat → Int32) (aC : Nat → Nat → Int32) (iD : Nat → Int32) (lD : Nat → Nat → Int64) (aD : Nat → Nat → Int32) (iE : Nat → Int32) (aE : Nat → Nat → Int32) (iK : Nat → Int32) (lK : Nat → Nat → Int64) (aK : Nat → Nat → Int32) (iW : Nat → Int32) (aW : Nat → Nat → Int32) (iP : Nat → Int32) (aP : Nat → Nat → Int32) (q : Int32 × (Nat → Int32) × (Nat → Int32) × (Nat → Int32) × Int64 × (Nat → Int32) × (Nat → Nat → Int64) × (Nat → Nat → Int32) × (Nat → Int32) × (Nat → Nat → Int32) × (Nat → Int32) × (Nat → Nat → Int64) × (Nat → Nat → Int32) × (Nat → Int32) × (Nat → Nat → Int32) × Bool) (h : f_X_read N iX iR iT wT tx iB lB aB iC aC iD lD aD iE aE iK lK aK iW aW iP aP = some q) : Met l yX7_read wsX7_read ({ frames := 91, cells := 0, slots := 0, locals := 2184 } : Room) (cP (dC, dI) cy [.ref (ad 0)] (zzX ad cy rb rc (ad 4) (ad 11) pb (ad 4) (ad 20) iX iR iT wT tx iB lB aB iC aC iD lD aD iE aE iK lK aK iW aW iP aP) sz) (cQi (dC, dI) cy q.1 (cond q.2.2.2.2.2.2.2.2.2.2.2.2.2.2.2 (zzX ad cy (ad 20) (ad 27) (ad 20) (ad 27) pb (ad 20) (ad 4) q.2.1 q.2.2.1 q.2.2.2.1 q.2.2.2.2.1 tx iB lB aB iC aC q.2.2.2.2.2.1 q.2.2.2.2.2.2.1 q.2.2.2.2.2.2.2.1 q.2.2.2.2.2.2.2.2.1 q.2.2.2.2.2.2.2.2.2.1 q.2.2.2.2.2.2.2.2.2.2.1 q.2.2.2.2.2.2.2.2.2.2.2.1 q.2.2.2.2.2.2.2.2.2.2.2.2.1 q.2.2.2.2.2.2.2.2.2.2.2.2.2.1 q.2.2.2.2.2.2.2.2.2.2.2.2.2.2.1 iP aP) (zzX ad cy (ad 20) (ad 27) (ad 4) (ad 11) pb (ad 4) (ad 20) q.2.1 q.2.2.1 q.2.2.2.1 q.2.2.2.2.1 tx iB lB aB iC aC q.2.2.2.2.2.1 q.2.2.2.2.2.2.1 q.2.2.2.2.2.2.2.1 q.2.2.2.2.2.2.2.2.1 q.2.2.2.2.2.2.2.2.2.1 q.2.2.2.2.2.2.2.2.2.2.1 q.2.2.2.2.2.2.2.2.2.2.2.1 q.2.2.2.2.2.2.2.2.2.2.2.2.1 q.2.2.2.2.2.2.2.2.2.2.2.2.2.1 q.2.2.2.2.2.2.2.2.2.2.2.2.2.2.1 iP aP)) (va_A (zzX ad cy rb rc (ad 4) (ad 11) pb (ad 4) (ad 20) iX iR iT wT tx iB lB aB iC aC iD lD aD iE aE iK lK aK iW aW iP aP) sz)) 0 0 (va_A (zzX ad cy rb rc (ad 4) (ad 11) pb (ad 4) (ad 20) iX iR iT wT tx iB lB aB iC aC iD lD aD iE aE iK lK aK iW aW iP aP) sz) := by
  refine Met.ofW (cc := cX7_read) (maxL := 3) (ret := (some .int)) (by decide) rfl ?_
  intro p e s m args below meth c s₁ B hml hv
  obtain ⟨hav, hsz, hP, hK, hD0, hN⟩ := hv
  have hx := B.exec
  have hb := B.bytes
  have hr := B.returns
  have hts := atoms_spec (ws := wsX7_read) B.pre
  have hown : s.vm.findClass RX7 = some m.cls := findClass_of_methodNamed B.named
  have hlocks := B.notSynchronized
  subst hsz
  have hD := hD0.self (sz := s.heap.size)
  generalize hAe : va_A (zzX ad cy rb rc (ad 4) (ad 11) pb (ad 4) (ad 20) iX iR iT wT tx iB lB aB iC aC iD lD aD iE aE iK lK aK iW aW iP aP) s.heap.size = A at hD ⊢
  have hA : ∀ q : Nat, s.heap.size ≤ q → A q := fun q h => by rw [← hAe]; exact Or.inr h
  have hS : va_S A s.heap s.heap [] := va_S.rf
  generalize hWQ : (cond q.2.2.2.2.2.2.2.2.2.2.2.2.2.2.2 (zzX ad cy (ad 20) (ad 27) (ad 20) (ad 27) pb (ad 20) (ad 4) q.2.1 q.2.2.1 q.2.2.2.1 q.2.2.2.2.1 tx iB lB aB iC aC q.2.2.2.2.2.1 q.2.2.2.2.2.2.1 q.2.2.2.2.2.2.2.1 q.2.2.2.2.2.2.2.2.1 q.2.2.2.2.2.2.2.2.2.1 q.2.2.2.2.2.2.2.2.2.2.1 q.2.2.2.2.2.2.2.2.2.2.2.1 q.2.2.2.2.2.2.2.2.2.2.2.2.1 q.2.2.2.2.2.2.2.2.2.2.2.2.2.1 q.2.2.2.2.2.2.2.2.2.2.2.2.2.2.1 iP aP) (zzX ad cy (ad 20) (ad 27) (ad 4) (ad 11) pb (ad 4) (ad 20) q.2.1 q.2.2.1 q.2.2.2.1 q.2.2.2.2.1 tx iB lB aB iC aC q.2.2.2.2.2.1 q.2.2.2.2.2.2.1 q.2.2.2.2.2.2.2.1 q.2.2.2.2.2.2.2.2.1 q.2.2.2.2.2.2.2.2.2.1 q.2.2.2.2.2.2.2.2.2.2.1 q.2.2.2.2.2.2.2.2.2.2.2.1 q.2.2.2.2.2.2.2.2.2.2.2.2.1 q.2.2.2.2.2.2.2.2.2.2.2.2.2.1 q.2.2.2.2.2.2.2.2.2.2.2.2.2.2.1 iP aP)) = WQ
  generalize hQQ : MQ below (cQi (dC, dI) cy q.1 WQ A) args s 0 0 A = QQ
  have hl := lv_entry ([.ref (ad 0)] : List Value) (n := 3) (Nat.le_of_ble_eq_true rfl)
  have hfr := lg_entry_eq m ([.ref (ad 0)] : List Value) 3
  rw [← hav] at hfr
  rw [hfr]
  clear hfr hav
  generalize (lg_sl ([.ref (ad 0)] : List Value) ++ List.replicate (3 - (lg_sl ([.ref (ad 0)] : List Value)).length) Slot.unset).toArray = ls at hl ⊢
  have hl : lv_has ls 3 [(0, .ref (ad 0))] := hl
  have kf28 := hts _ (List.mem_cons_of_mem _ m_fl_X7_28)
  have ki7 := (fun w h => List.mem_cons_of_mem _ (i_X7 w h) : ∀ w ∈ u_ws RX7 TX7 9, w ∈ wsX7_read)
  have kf55 := hts _ (List.mem_cons_of_mem _ m_fl_X7_55)
  have kf20 := hts _ (List.mem_cons_of_mem _ m_fl_X7_20)
  have kf16 := hts _ (List.mem_cons_of_mem _ m_fl_X7_16)
  have kf70 := hts _ (List.mem_cons_of_mem _ m_fl_X7_70)
  have kf37 := hts _ (List.mem_cons_of_mem _ m_fl_X7_37)
  have kf44 := hts _ (List.mem_cons_of_mem _ m_fl_X7_44)
  have kf80 := hts _ (List.mem_cons_of_mem _ m_fl_X7_80)
  have ki0 := (fun w h => List.mem_cons_of_mem _ (i_X0 w h) : ∀ w ∈ u_ws RX0 TX0 15, w ∈ wsX7_read)
  have kf67 := hts _ (List.mem_cons_of_mem _ m_fl_X7_67)
  have ki4 := (fun w h => List.mem_cons_of_mem _ (i_X4 w h) : ∀ w ∈ u_ws RX4 TX4 5, w ∈ wsX7_read)
  refine (?_ : ∀ (H : Heap) (locs : List Loc), va_P (dC, dI) vwCl (zzX ad cy rb rc (ad 4) (ad 11) pb (ad 4) (ad 20) iX iR iT wT tx iB lB aB iC aC iD lD aD iE aE iK lK aK iW aW iP aP) H → va_D A (zzX ad cy rb rc (ad 4) (ad 11) pb (ad 4) (ad 20) iX iR iT wT tx iB lB aB iC aC iD lD aD iE aE iK lK aK iW aW iP aP) → va_S A s.heap H locs → W p l e ({ frames := 91, cells := 0, slots := 0, locals := 2184 } : Room) s m args below meth c H locs 0 0 QQ (F0 m 0 ls [])) s.heap [] hP hD hS
  clear hP hD hS
  intro H locs hP hD hS
  unfold f_X_read at h
  refine lv_aload_n hx hb dX7_read_0 rfl (lv_at hl 0 rfl) ?_
  refine va_get (D := (dC, dI)) (ci := 7) (v := .ref (ad 1)) (C := RX7) (T := TX7) (N := 9) hx hb hts ki7 hown hK hP 0 rfl rfl 2 (by decide) kf28 (fun _ h9 => h9) rfl dX7_read_1 ?_
  refine lv_aload_n hx hb dX7_read_4 rfl (lv_at hl 0 rfl) ?_
  refine va_get (D := (dC, dI)) (ci := 7) (v := .int ((iX 1))) (C := RX7) (T := TX7) (N := 9) hx hb hts ki7 hown hK hP 0 rfl rfl 1 (by decide) kf55 (fun _ h9 => h9) rfl dX7_read_5 ?_
  refine lv_aload_n hx hb dX7_read_8 rfl (lv_at hl 0 rfl) ?_
  refine va_get (D := (dC, dI)) (ci := 7) (v := .ref (ad 20)) (C := RX7) (T := TX7) (N := 9) hx hb hts ki7 hown hK hP 0 rfl rfl 4 (by decide) kf20 (fun _ h9 => h9) rfl dX7_read_9 ?_
  obtain ⟨q12, e12, h⟩ := g_b h
  refine callVi (cc := cX7_read) (ws' := zzX ad cy (ad 20) (ad 27) (ad 4) (ad 11) pb (ad 4) (ad 20) iX q12.2.1 q12.2.2.1 q12.2.2.2.1 tx iB lB aB iC aC q12.2.2.2.2.1 q12.2.2.2.2.2.1 q12.2.2.2.2.2.2.1 q12.2.2.2.2.2.2.2.1 q12.2.2.2.2.2.2.2.2 iK lK aK iW aW iP aP) (As := [.int ((iX 1)), .ref (ad 20)]) (rest := []) ⟨hx, hb, hml, hown, hts⟩ (c_R_takeIn l dC dI cy (fun i => ad (([1, 2, 3, 20, 21, 22, 23, 24, 25, 26, 27, 28, 29, 30, 31, 32, 33, 34, 35] : List Nat).getD i 0)) H.size rb rc N ((iX 1)) iR iT wT tx iD lD aD iE aE q12 e12) (cwV 2 hts (goodV m_ml_X7_63 m_im_X4_takeIn m_se_X4_takeIn m_in_X4 m_cd_X4_takeIn) rfl rfl rfl (by decide +kernel) ⟨Nat.le_of_ble_eq_true rfl, Nat.le_of_ble_eq_true rfl⟩) hN hK hP hD hS hA [1, 2, 3, 20, 21, 22, 23, 24, 25, 26, 27, 28, 29, 30, 31, 32, 33, 34, 35] [none, some 0, some 1, some 2, none, none, none, none, none, none, none, none, none, none, none, none, none, none, none, none, some 3, some 4, some 5, some 6, some 7, some 8, some 9, some 10, some 11, some 12, some 13, some 14, some 15, some 16, some 17, some 18, none, none, none, none, none, none, none, none, none, none, none, none, none, none, none, none, none, none] rfl rfl rfl rfl rfl rfl 1 rfl rfl rfl hl.1 rfl (Nat.le_of_ble_eq_true rfl) dX7_read_12 ⟨Nat.zero_le _, Nat.zero_le _⟩ (fun H locs hP hD hS => ?_)
  refine lv_istore_n (lv' := [(1, .int q12.1), (0, .ref (ad 0))]) hx hb dX7_read_15 rfl hl (by decide) rfl (fun ls hl => ?_)
  refine lv_aload_n hx hb dX7_read_16 rfl (lv_at hl 1 rfl) ?_
  refine lv_iconst (v := 0) hx hb dX7_read_17 (by decide) ?_
  refine va_put (D := (dC, dI)) (ci := 7) (v := .int ((0 : Int32))) (ty := .int) (C := RX7) (T := TX7) (N := 9) hx hb hts ki7 tyX7 tyX7_ok nmX7 hown hK hP hD hS 0 rfl rfl 1 (by decide) kf55 (fun _ h9 => h9) rfl (by decide +kernel) rfl rfl (Nat.le_of_ble_eq_true rfl) dX7_read_18 (fun H locs hP hD hS => ?_)
  have hP : va_P (dC, dI) vwCl (zzX ad cy (ad 20) (ad 27) (ad 4) (ad 11) pb (ad 4) (ad 20) (us iX [(1, (0 : Int32))]) q12.2.1 q12.2.2.1 q12.2.2.2.1 tx iB lB aB iC aC q12.2.2.2.2.1 q12.2.2.2.2.2.1 q12.2.2.2.2.2.2.1 q12.2.2.2.2.2.2.2.1 q12.2.2.2.2.2.2.2.2 iK lK aK iW aW iP aP) H := Eq.mp (congrArg (fun w => va_P (dC, dI) vwCl w H) (sfX_iX1 ad cy (ad 20) (ad 27) (ad 4) (ad 11) pb (ad 4) (ad 20) iX q12.2.1 q12.2.2.1 q12.2.2.2.1 tx iB lB aB iC aC q12.2.2.2.2.1 q12.2.2.2.2.2.1 q12.2.2.2.2.2.2.1 q12.2.2.2.2.2.2.2.1 q12.2.2.2.2.2.2.2.2 iK lK aK iW aW iP aP ((0 : Int32)))) hP
  have hD : va_D A (zzX ad cy (ad 20) (ad 27) (ad 4) (ad 11) pb (ad 4) (ad 20) (us iX [(1, (0 : Int32))]) q12.2.1 q12.2.2.1 q12.2.2.2.1 tx iB lB aB iC aC q12.2.2.2.2.1 q12.2.2.2.2.2.1 q12.2.2.2.2.2.2.1 q12.2.2.2.2.2.2.2.1 q12.2.2.2.2.2.2.2.2 iK lK aK iW aW iP aP) := Eq.mp (congrArg (fun w => va_D A w) (sfX_iX1 ad cy (ad 20) (ad 27) (ad 4) (ad 11) pb (ad 4) (ad 20) iX q12.2.1 q12.2.2.1 q12.2.2.2.1 tx iB lB aB iC aC q12.2.2.2.2.1 q12.2.2.2.2.2.1 q12.2.2.2.2.2.2.1 q12.2.2.2.2.2.2.2.1 q12.2.2.2.2.2.2.2.2 iK lK aK iW aW iP aP ((0 : Int32)))) hD
  refine lv_iload_n hx hb dX7_read_21 rfl (lv_at hl 0 rfl) ?_
  refine lv_if_ne (tgt := 34) hx hb dX7_read_22 (by decide) (fun cz => ?_) (fun cz => ?_)
  · have h := g_f h cz
    refine lv_aload_n hx hb dX7_read_34 rfl (lv_at hl 1 rfl) ?_
    refine va_get (D := (dC, dI)) (ci := 7) (v := .ref (ad 4)) (C := RX7) (T := TX7) (N := 9) hx hb hts ki7 hown hK hP 0 rfl rfl 3 (by decide) kf16 (fun _ h9 => h9) rfl dX7_read_35 ?_
    refine lv_astore_n (lv' := [(2, .ref (ad 4)), (1, .int q12.1), (0, .ref (ad 0))]) hx hb dX7_read_38 rfl hl (by decide) rfl (fun ls hl => ?_)
    refine lv_aload_n hx hb dX7_read_39 rfl (lv_at hl 2 rfl) ?_
    refine lv_aload_n hx hb dX7_read_40 rfl (lv_at hl 2 rfl) ?_
    refine va_get (D := (dC, dI)) (ci := 7) (v := .ref (ad 20)) (C := RX7) (T := TX7) (N := 9) hx hb hts ki7 hown hK hP 0 rfl rfl 4 (by decide) kf20 (fun _ h9 => h9) rfl dX7_read_41 ?_
    refine va_put (D := (dC, dI)) (ci := 7) (v := .ref (ad 20)) (ty := (.object "TypeCourt$Book")) (C := RX7) (T := TX7) (N := 9) hx hb hts ki7 tyX7 tyX7_ok nmX7 hown hK hP hD hS 0 rfl rfl 3 (by decide) kf16 (fun _ h9 => h9) rfl (by decide +kernel) rfl rfl (Nat.le_of_ble_eq_true rfl) dX7_read_44 (fun H locs hP hD hS => ?_)
    have hP : va_P (dC, dI) vwCl (zzX ad cy (ad 20) (ad 27) (ad 4) (ad 11) pb (ad 20) (ad 20) (us iX [(1, (0 : Int32))]) q12.2.1 q12.2.2.1 q12.2.2.2.1 tx iB lB aB iC aC q12.2.2.2.2.1 q12.2.2.2.2.2.1 q12.2.2.2.2.2.2.1 q12.2.2.2.2.2.2.2.1 q12.2.2.2.2.2.2.2.2 iK lK aK iW aW iP aP) H := hP
    have hD : va_D A (zzX ad cy (ad 20) (ad 27) (ad 4) (ad 11) pb (ad 20) (ad 20) (us iX [(1, (0 : Int32))]) q12.2.1 q12.2.2.1 q12.2.2.2.1 tx iB lB aB iC aC q12.2.2.2.2.1 q12.2.2.2.2.2.1 q12.2.2.2.2.2.2.1 q12.2.2.2.2.2.2.2.1 q12.2.2.2.2.2.2.2.2 iK lK aK iW aW iP aP) := hD
    refine lv_aload_n hx hb dX7_read_47 rfl (lv_at hl 2 rfl) ?_
    refine lv_aload_n hx hb dX7_read_48 rfl (lv_at hl 0 rfl) ?_
    refine va_put (D := (dC, dI)) (ci := 7) (v := .ref (ad 4)) (ty := (.object "TypeCourt$Book")) (C := RX7) (T := TX7) (N := 9) hx hb hts ki7 tyX7 tyX7_ok nmX7 hown hK hP hD hS 0 rfl rfl 4 (by decide) kf20 (fun _ h9 => h9) rfl (by decide +kernel) rfl rfl (Nat.le_of_ble_eq_true rfl) dX7_read_49 (fun H locs hP hD hS => ?_)
    have hP : va_P (dC, dI) vwCl (zzX ad cy (ad 20) (ad 27) (ad 4) (ad 11) pb (ad 20) (ad 4) (us iX [(1, (0 : Int32))]) q12.2.1 q12.2.2.1 q12.2.2.2.1 tx iB lB aB iC aC q12.2.2.2.2.1 q12.2.2.2.2.2.1 q12.2.2.2.2.2.2.1 q12.2.2.2.2.2.2.2.1 q12.2.2.2.2.2.2.2.2 iK lK aK iW aW iP aP) H := hP
    have hD : va_D A (zzX ad cy (ad 20) (ad 27) (ad 4) (ad 11) pb (ad 20) (ad 4) (us iX [(1, (0 : Int32))]) q12.2.1 q12.2.2.1 q12.2.2.2.1 tx iB lB aB iC aC q12.2.2.2.2.1 q12.2.2.2.2.2.1 q12.2.2.2.2.2.2.1 q12.2.2.2.2.2.2.2.1 q12.2.2.2.2.2.2.2.2 iK lK aK iW aW iP aP) := hD
    refine lv_aload_n hx hb dX7_read_52 rfl (lv_at hl 2 rfl) ?_
    refine lv_iconst (v := 1) hx hb dX7_read_53 (by decide) ?_
    refine va_put (D := (dC, dI)) (ci := 7) (v := .int ((1 : Int32))) (ty := .boolean) (C := RX7) (T := TX7) (N := 9) hx hb hts ki7 tyX7 tyX7_ok nmX7 hown hK hP hD hS 0 rfl rfl 5 (by decide) kf70 (fun _ h9 => h9) rfl (by decide +kernel) rfl rfl (Nat.le_of_ble_eq_true rfl) dX7_read_54 (fun H locs hP hD hS => ?_)
    have hP : va_P (dC, dI) vwCl (zzX ad cy (ad 20) (ad 27) (ad 4) (ad 11) pb (ad 20) (ad 4) (us iX [(1, (0 : Int32)), (5, (1 : Int32))]) q12.2.1 q12.2.2.1 q12.2.2.2.1 tx iB lB aB iC aC q12.2.2.2.2.1 q12.2.2.2.2.2.1 q12.2.2.2.2.2.2.1 q12.2.2.2.2.2.2.2.1 q12.2.2.2.2.2.2.2.2 iK lK aK iW aW iP aP) H := Eq.mp (congrArg (fun w => va_P (dC, dI) vwCl w H) (stX_iX5 ad cy (ad 20) (ad 27) (ad 4) (ad 11) pb (ad 20) (ad 4) iX q12.2.1 q12.2.2.1 q12.2.2.2.1 tx iB lB aB iC aC q12.2.2.2.2.1 q12.2.2.2.2.2.1 q12.2.2.2.2.2.2.1 q12.2.2.2.2.2.2.2.1 q12.2.2.2.2.2.2.2.2 iK lK aK iW aW iP aP [(1, (0 : Int32))] ((1 : Int32)))) hP
    have hD : va_D A (zzX ad cy (ad 20) (ad 27) (ad 4) (ad 11) pb (ad 20) (ad 4) (us iX [(1, (0 : Int32)), (5, (1 : Int32))]) q12.2.1 q12.2.2.1 q12.2.2.2.1 tx iB lB aB iC aC q12.2.2.2.2.1 q12.2.2.2.2.2.1 q12.2.2.2.2.2.2.1 q12.2.2.2.2.2.2.2.1 q12.2.2.2.2.2.2.2.2 iK lK aK iW aW iP aP) := Eq.mp (congrArg (fun w => va_D A w) (stX_iX5 ad cy (ad 20) (ad 27) (ad 4) (ad 11) pb (ad 20) (ad 4) iX q12.2.1 q12.2.2.1 q12.2.2.2.1 tx iB lB aB iC aC q12.2.2.2.2.1 q12.2.2.2.2.2.1 q12.2.2.2.2.2.2.1 q12.2.2.2.2.2.2.2.1 q12.2.2.2.2.2.2.2.2 iK lK aK iW aW iP aP [(1, (0 : Int32))] ((1 : Int32)))) hD
    refine lv_aload_n hx hb dX7_read_57 rfl (lv_at hl 2 rfl) ?_
    refine va_get (D := (dC, dI)) (ci := 7) (v := .ref (ad 36)) (C := RX7) (T := TX7) (N := 9) hx hb hts ki7 hown hK hP 0 rfl rfl 6 (by decide) kf37 (fun _ h9 => h9) rfl dX7_read_58 ?_
    refine lv_aload_n hx hb dX7_read_61 rfl (lv_at hl 2 rfl) ?_
    refine va_get (D := (dC, dI)) (ci := 7) (v := .ref (ad 20)) (C := RX7) (T := TX7) (N := 9) hx hb hts ki7 hown hK hP 0 rfl rfl 3 (by decide) kf16 (fun _ h9 => h9) rfl dX7_read_62 ?_
    obtain ⟨q65, e65, h⟩ := g_b h
    refine callVv (cc := cX7_read) (ws' := zzX ad cy (ad 20) (ad 27) (ad 20) (ad 27) pb (ad 20) (ad 4) (us iX [(1, (0 : Int32)), (5, (1 : Int32))]) q12.2.1 q12.2.2.1 q12.2.2.2.1 tx iB lB aB iC aC q12.2.2.2.2.1 q12.2.2.2.2.2.1 q12.2.2.2.2.2.2.1 q12.2.2.2.2.2.2.2.1 q12.2.2.2.2.2.2.2.2 q65.1 q65.2.1 q65.2.2 iW aW iP aP) (As := [.ref (ad 20)]) (rest := []) ⟨hx, hb, hml, hown, hts⟩ (c_K_workOut l dC dI cy (fun i => ad (([36, 37, 38, 39, 40, 41, 42, 43, 44, 45, 46, 20, 21, 22, 23, 24, 25, 26, 27, 28, 29, 30, 31, 32, 33, 34, 35] : List Nat).getD i 0)) H.size (ad 4) (ad 11) N iK lK aK q12.2.2.2.2.1 q12.2.2.2.2.2.1 q12.2.2.2.2.2.2.1 q12.2.2.2.2.2.2.2.1 q12.2.2.2.2.2.2.2.2 q65 e65) (cwV 1 hts (goodV m_ml_X7_74 m_im_X2_workOut m_se_X2_workOut m_in_X2 m_cd_X2_workOut) rfl rfl rfl (by decide +kernel) ⟨Nat.le_of_ble_eq_true rfl, Nat.le_of_ble_eq_true rfl⟩) hN hK hP hD hS hA [36, 37, 38, 39, 40, 41, 42, 43, 44, 45, 46, 20, 21, 22, 23, 24, 25, 26, 27, 28, 29, 30, 31, 32, 33, 34, 35] [none, none, none, none, none, none, none, none, none, none, none, none, none, none, none, none, none, none, none, none, some 11, some 12, some 13, some 14, some 15, some 16, some 17, some 18, some 19, some 20, some 21, some 22, some 23, some 24, some 25, some 26, some 0, some 1, some 2, some 3, some 4, some 5, some 6, some 7, some 8, some 9, some 10, none, none, none, none, none, none, none] rfl rfl rfl rfl rfl rfl 36 rfl rfl rfl hl.1 rfl (Nat.le_of_ble_eq_true rfl) dX7_read_65 ⟨Nat.zero_le _, Nat.zero_le _⟩ (fun H locs hP hD hS => ?_)
    refine lv_aload_n hx hb dX7_read_68 rfl (lv_at hl 2 rfl) ?_
    refine va_get (D := (dC, dI)) (ci := 7) (v := .ref (ad 47)) (C := RX7) (T := TX7) (N := 9) hx hb hts ki7 hown hK hP 0 rfl rfl 7 (by decide) kf44 (fun _ h9 => h9) rfl dX7_read_69 ?_
    obtain ⟨q72, e72, h⟩ := g_b h
    refine callVv (cc := cX7_read) (ws' := zzX ad cy (ad 20) (ad 27) (ad 20) (ad 27) pb (ad 20) (ad 4) (us iX [(1, (0 : Int32)), (5, (1 : Int32))]) q12.2.1 q12.2.2.1 q12.2.2.2.1 tx iB lB aB iC aC q12.2.2.2.2.1 q12.2.2.2.2.2.1 q12.2.2.2.2.2.2.1 q12.2.2.2.2.2.2.2.1 q12.2.2.2.2.2.2.2.2 q65.1 q65.2.1 q65.2.2 (us iW [(1, q72.1), (4, q72.2.1)]) (us aW [(2, q72.2.2)]) iP aP) (As := []) (rest := []) ⟨hx, hb, hml, hown, hts⟩ (c_W_clear l dC dI cy (fun i => ad (i + 47)) H.size N iW aW q72 e72) (cwV 0 hts (goodV m_ml_X7_77 m_im_X6_clear m_se_X6_clear m_in_X6 m_cd_X6_clear) rfl rfl rfl (by decide +kernel) ⟨Nat.le_of_ble_eq_true rfl, Nat.le_of_ble_eq_true rfl⟩) hN hK hP hD hS hA [47, 48, 49, 50] [none, none, none, none, none, none, none, none, none, none, none, none, none, none, none, none, none, none, none, none, none, none, none, none, none, none, none, none, none, none, none, none, none, none, none, none, none, none, none, none, none, none, none, none, none, none, none, some 0, some 1, some 2, some 3, none, none, none] rfl rfl rfl rfl rfl rfl 47 rfl rfl rfl hl.1 rfl (Nat.le_of_ble_eq_true rfl) dX7_read_72 ⟨Nat.zero_le _, Nat.zero_le _⟩ (fun H locs hP hD hS => ?_)
    refine lv_aload_n hx hb dX7_read_75 rfl (lv_at hl 2 rfl) ?_
    refine va_get (D := (dC, dI)) (ci := 7) (v := .ref (ad 20)) (C := RX7) (T := TX7) (N := 9) hx hb hts ki7 hown hK hP 0 rfl rfl 3 (by decide) kf16 (fun _ h9 => h9) rfl dX7_read_76 ?_
    refine va_get (D := (dC, dI)) (ci := 0) (v := .int ((q12.2.2.2.2.1 1))) (C := RX0) (T := TX0) (N := 15) hx hb hts ki0 hown hK hP 20 rfl rfl 1 (by decide) kf80 (fun _ h9 => h9) rfl dX7_read_79 ?_
    have h' := Option.some.inj h
    rw [← hQQ]
    exact W.iret (v := (q12.2.2.2.2.1 1)) hx hb hr (fun t ht hW => ⟨⟨(q12.2.2.2.2.1 1), (), rfl, by rw [← h'], by rw [← hWQ, ← h', ht]; exact hP, va_K.moved hW.alike hK⟩, hS.F ht⟩) hS.2.2 dX7_read_82
  · have h := g_t h cz
    refine lv_aload_n hx hb dX7_read_25 rfl (lv_at hl 1 rfl) ?_
    refine va_get (D := (dC, dI)) (ci := 7) (v := .ref (ad 1)) (C := RX7) (T := TX7) (N := 9) hx hb hts ki7 hown hK hP 0 rfl rfl 2 (by decide) kf28 (fun _ h9 => h9) rfl dX7_read_26 ?_
    refine va_get (D := (dC, dI)) (ci := 4) (v := .int ((q12.2.1 3))) (C := RX4) (T := TX4) (N := 5) hx hb hts ki4 hown hK hP 1 rfl rfl 3 (by decide) kf67 (fun _ h9 => h9) rfl dX7_read_29 ?_
    refine lv_ineg hx hb dX7_read_32 ?_
    have h' := Option.some.inj h
    rw [← hQQ]
    exact W.iret (v := (-(q12.2.1 3))) hx hb hr (fun t ht hW => ⟨⟨(-(q12.2.1 3)), (), rfl, by rw [← h'], by rw [← hWQ, ← h', ht]; exact hP, va_K.moved hW.alike hK⟩, hS.F ht⟩) hS.2.2 dX7_read_33
