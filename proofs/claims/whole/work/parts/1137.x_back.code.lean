def f_X_back (iX1 : Int32) (tx : Nat → Int32) (iP1 : Int32) (aP0 : Nat → Int32) : Option (Int32 × Int32 × (Nat → Int32)) := if (if (2000 : Int32) < iP1 then (2000 : Int32) else iP1) < 0 ∨ 2670 < ((0 : Int32)).toNatClampNeg + ((if (2000 : Int32) < iP1 then (2000 : Int32) else iP1)).toNatClampNeg ∨ 2000 < ((0 : Int32)).toNatClampNeg + ((if (2000 : Int32) < iP1 then (2000 : Int32) else iP1)).toNatClampNeg then none else (if (∀ i : Nat, i < ((if (2000 : Int32) < iP1 then (2000 : Int32) else iP1)).toNatClampNeg → fits .byte (.int (aP0 (((0 : Int32)).toNatClampNeg + i))) = true) then (some ((if (2000 : Int32) < iP1 then (2000 : Int32) else iP1), (if (2000 : Int32) < iP1 then (2000 : Int32) else iP1), (va_cpy aP0 tx ((0 : Int32)).toNatClampNeg ((0 : Int32)).toNatClampNeg ((if (2000 : Int32) < iP1 then (2000 : Int32) else iP1)).toNatClampNeg))) else none)
set_option maxHeartbeats 8000000 in
set_option maxRecDepth 100000 in
theorem c_X_back (l : Launch) (dC : Nat → ClassId) (dI : Nat → Nat → Nat) (cy : Nat → ClassId) (ad : Nat → Nat) (sz : Nat) (rb : Nat) (rc : Nat) (pb : Nat) (iX : Nat → Int32) (iR : Nat → Int32) (iT : Nat → Int32) (wT : Int64) (tx : Nat → Int32) (iB : Nat → Int32) (lB : Nat → Nat → Int64) (aB : Nat → Nat → Int32) (iC : Nat → Int32) (aC : Nat → Nat → Int32) (iD : Nat → Int32) (lD : Nat → Nat → Int64) (aD : Nat → Nat → Int32) (iE : Nat → Int32) (aE : Nat → Nat → Int32) (iK : Nat → Int32) (lK : Nat → Nat → Int64) (aK : Nat → Nat → Int32) (iW : Nat → Int32) (aW : Nat → Nat → Int32) (iP : Nat → Int32) (aP : Nat → Nat → Int32) (q : Int32 × Int32 × (Nat → Int32)) (h : f_X_back (iX 1) tx (iP 1) (aP 0) = some q) : Met l yX7_back wsX7_back ({ frames := 1, cells := 0, slots := 0, locals := 100 } : Room) (cP (dC, dI) cy [.ref (ad 0)] (zzX ad cy rb rc (ad 4) (ad 11) pb (ad 4) (ad 20) iX iR iT wT tx iB lB aB iC aC iD lD aD iE aE iK lK aK iW aW iP aP) sz) (cQi (dC, dI) cy q.1 (zzX ad cy rb rc (ad 4) (ad 11) pb (ad 4) (ad 20) (us iX [(1, q.2.1)]) iR iT wT q.2.2 iB lB aB iC aC iD lD aD iE aE iK lK aK iW aW iP aP) (va_A (zzX ad cy rb rc (ad 4) (ad 11) pb (ad 4) (ad 20) iX iR iT wT tx iB lB aB iC aC iD lD aD iE aE iK lK aK iW aW iP aP) sz)) 0 0 (va_A (zzX ad cy rb rc (ad 4) (ad 11) pb (ad 4) (ad 20) iX iR iT wT tx iB lB aB iC aC iD lD aD iE aE iK lK aK iW aW iP aP) sz) := by
  refine Met.ofW (cc := cX7_back) (maxL := 1) (ret := (some .int)) (by decide) rfl ?_
  intro p e s m args below meth c s₁ B hml hv
  obtain ⟨hav, hsz, hP, hK, hD0, hN⟩ := hv
  have hx := B.exec
  have hb := B.bytes
  have hr := B.returns
  have hts := atoms_spec (ws := wsX7_back) B.pre
  have hown : s.vm.findClass RX7 = some m.cls := findClass_of_methodNamed B.named
  have hlocks := B.notSynchronized
  subst hsz
  have hD := hD0.self (sz := s.heap.size)
  generalize hAe : va_A (zzX ad cy rb rc (ad 4) (ad 11) pb (ad 4) (ad 20) iX iR iT wT tx iB lB aB iC aC iD lD aD iE aE iK lK aK iW aW iP aP) s.heap.size = A at hD ⊢
  have hA : ∀ q : Nat, s.heap.size ≤ q → A q := fun q h => by rw [← hAe]; exact Or.inr h
  have hS : va_S A s.heap s.heap [] := va_S.rf
  generalize hWQ : (zzX ad cy rb rc (ad 4) (ad 11) pb (ad 4) (ad 20) (us iX [(1, q.2.1)]) iR iT wT q.2.2 iB lB aB iC aC iD lD aD iE aE iK lK aK iW aW iP aP) = WQ
  generalize hQQ : MQ below (cQi (dC, dI) cy q.1 WQ A) args s 0 0 A = QQ
  have hl := lv_entry ([.ref (ad 0)] : List Value) (n := 1) (Nat.le_of_ble_eq_true rfl)
  have hfr := lg_entry_eq m ([.ref (ad 0)] : List Value) 1
  rw [← hav] at hfr
  rw [hfr]
  clear hfr hav
  generalize (lg_sl ([.ref (ad 0)] : List Value) ++ List.replicate (1 - (lg_sl ([.ref (ad 0)] : List Value)).length) Slot.unset).toArray = ls at hl ⊢
  have hl : lv_has ls 1 [(0, .ref (ad 0))] := hl
  have kf51 := hts _ (List.mem_cons_of_mem _ m_fl_X7_51)
  have ki7 := (fun w h => List.mem_cons_of_mem _ (i_X7 w h) : ∀ w ∈ u_ws RX7 TX7 9, w ∈ wsX7_back)
  have kf86 := hts _ (List.mem_cons_of_mem _ m_fl_X7_86)
  have ki3 := (fun w h => List.mem_cons_of_mem _ (i_X3 w h) : ∀ w ∈ u_ws RX3 TX3 5, w ∈ wsX7_back)
  have km1 := hts _ (List.mem_cons_of_mem _ m_ml_X7_204)
  have km2 := hts _ (List.mem_cons_of_mem _ m_st_java_lang_Math_min)
  have km3 := hts _ (List.mem_cons_of_mem _ m_in_java_lang_Math)
  have km4 := hts _ (List.mem_cons_of_mem _ m_cd_java_lang_Math_min)
  have kf55 := hts _ (List.mem_cons_of_mem _ m_fl_X7_55)
  have kf201 := hts _ (List.mem_cons_of_mem _ m_fl_X7_201)
  have kf9 := hts _ (List.mem_cons_of_mem _ m_fl_X7_9)
  have ka1 := hts _ (List.mem_cons_of_mem _ m_ml_X7_210)
  have ka2 := hts _ (List.mem_cons_of_mem _ m_na_java_lang_System_arraycopy)
  have ka3 := hts _ (List.mem_cons_of_mem _ m_st_java_lang_System_arraycopy)
  have ka4 := hts _ (List.mem_cons_of_mem _ m_in_java_lang_System)
  refine (?_ : ∀ (H : Heap) (locs : List Loc), va_P (dC, dI) vwCl (zzX ad cy rb rc (ad 4) (ad 11) pb (ad 4) (ad 20) iX iR iT wT tx iB lB aB iC aC iD lD aD iE aE iK lK aK iW aW iP aP) H → va_D A (zzX ad cy rb rc (ad 4) (ad 11) pb (ad 4) (ad 20) iX iR iT wT tx iB lB aB iC aC iD lD aD iE aE iK lK aK iW aW iP aP) → va_S A s.heap H locs → W p l e ({ frames := 1, cells := 0, slots := 0, locals := 100 } : Room) s m args below meth c H locs 0 0 QQ (F0 m 0 ls [])) s.heap [] hP hD hS
  clear hP hD hS
  intro H locs hP hD hS
  unfold f_X_back at h
  refine lv_aload_n hx hb dX7_back_0 rfl (lv_at hl 0 rfl) ?_
  refine lv_aload_n hx hb dX7_back_1 rfl (lv_at hl 0 rfl) ?_
  refine va_get (D := (dC, dI)) (ci := 7) (v := .ref (ad 51)) (C := RX7) (T := TX7) (N := 9) hx hb hts ki7 hown hK hP 0 rfl rfl 8 (by decide) kf51 (fun _ h9 => h9) rfl dX7_back_2 ?_
  refine va_get (D := (dC, dI)) (ci := 3) (v := .int (iP 1)) (C := RX3) (T := TX3) (N := 5) hx hb hts ki3 hown hK hP 51 rfl rfl 1 (by decide) kf86 (fun _ h9 => h9) rfl dX7_back_5 ?_
  refine lv_sipush (v := 2000) hx hb dX7_back_8 (by decide) ?_
  refine va_mmin hx hb (by rw [hml]; exact hl.1.symm) hown km1 km2 km3 km4 (Nat.le_of_ble_eq_true rfl) (Nat.le_of_ble_eq_true rfl) (Nat.zero_le _) (Nat.zero_le _) dX7_back_11 ?_
  refine va_put (D := (dC, dI)) (ci := 7) (v := .int ((if (2000 : Int32) < (iP 1) then (2000 : Int32) else (iP 1)))) (ty := .int) (C := RX7) (T := TX7) (N := 9) hx hb hts ki7 tyX7 tyX7_ok nmX7 hown hK hP hD hS 0 rfl rfl 1 (by decide) kf55 (fun _ h9 => h9) rfl (by decide +kernel) rfl rfl (Nat.le_of_ble_eq_true rfl) dX7_back_14 (fun H locs hP hD hS => ?_)
  have hP : va_P (dC, dI) vwCl (zzX ad cy rb rc (ad 4) (ad 11) pb (ad 4) (ad 20) (us iX [(1, (if (2000 : Int32) < (iP 1) then (2000 : Int32) else (iP 1)))]) iR iT wT tx iB lB aB iC aC iD lD aD iE aE iK lK aK iW aW iP aP) H := Eq.mp (congrArg (fun w => va_P (dC, dI) vwCl w H) (sfX_iX1 ad cy rb rc (ad 4) (ad 11) pb (ad 4) (ad 20) iX iR iT wT tx iB lB aB iC aC iD lD aD iE aE iK lK aK iW aW iP aP ((if (2000 : Int32) < (iP 1) then (2000 : Int32) else (iP 1))))) hP
  have hD : va_D A (zzX ad cy rb rc (ad 4) (ad 11) pb (ad 4) (ad 20) (us iX [(1, (if (2000 : Int32) < (iP 1) then (2000 : Int32) else (iP 1)))]) iR iT wT tx iB lB aB iC aC iD lD aD iE aE iK lK aK iW aW iP aP) := Eq.mp (congrArg (fun w => va_D A w) (sfX_iX1 ad cy rb rc (ad 4) (ad 11) pb (ad 4) (ad 20) iX iR iT wT tx iB lB aB iC aC iD lD aD iE aE iK lK aK iW aW iP aP ((if (2000 : Int32) < (iP 1) then (2000 : Int32) else (iP 1))))) hD
  refine lv_aload_n hx hb dX7_back_17 rfl (lv_at hl 0 rfl) ?_
  refine va_get (D := (dC, dI)) (ci := 7) (v := .ref (ad 51)) (C := RX7) (T := TX7) (N := 9) hx hb hts ki7 hown hK hP 0 rfl rfl 8 (by decide) kf51 (fun _ h9 => h9) rfl dX7_back_18 ?_
  refine va_get (D := (dC, dI)) (ci := 3) (v := .ref (ad 52)) (C := RX3) (T := TX3) (N := 5) hx hb hts ki3 hown hK hP 51 rfl rfl 0 (by decide) kf201 (fun _ h9 => h9) rfl dX7_back_21 ?_
  refine lv_iconst (v := 0) hx hb dX7_back_24 (by decide) ?_
  refine lv_aload_n hx hb dX7_back_25 rfl (lv_at hl 0 rfl) ?_
  refine va_get (D := (dC, dI)) (ci := 7) (v := .ref (ad 3)) (C := RX7) (T := TX7) (N := 9) hx hb hts ki7 hown hK hP 0 rfl rfl 0 (by decide) kf9 (fun _ h9 => h9) rfl dX7_back_26 ?_
  refine lv_iconst (v := 0) hx hb dX7_back_29 (by decide) ?_
  refine lv_aload_n hx hb dX7_back_30 rfl (lv_at hl 0 rfl) ?_
  refine va_get (D := (dC, dI)) (ci := 7) (v := .int ((if (2000 : Int32) < (iP 1) then (2000 : Int32) else (iP 1)))) (C := RX7) (T := TX7) (N := 9) hx hb hts ki7 hown hK hP 0 rfl rfl 1 (by decide) kf55 (fun _ h9 => h9) rfl dX7_back_31 ?_
  obtain ⟨gc, h⟩ := g_n h
  obtain ⟨gf, h⟩ := g_p h
  refine va_copyi (f := (aP 0)) (g := tx) hx hb (by rw [hml]; exact hl.1.symm) hown ka1 ka2 ka3 ka4 hK hP hD hS 52 3 1 1 rfl rfl rfl rfl rfl (by decide) (by decide) (fun z => gc (Or.inl z)) (Nat.not_lt.mp (fun z => gc (Or.inr (Or.inl z)))) (Nat.not_lt.mp (fun z => gc (Or.inr (Or.inr z)))) gf (Nat.le_of_ble_eq_true rfl) (Nat.le_of_ble_eq_true rfl) dX7_back_34 (fun H locs hP hD hS => ?_)
  have hP : va_P (dC, dI) vwCl (zzX ad cy rb rc (ad 4) (ad 11) pb (ad 4) (ad 20) (us iX [(1, (if (2000 : Int32) < (iP 1) then (2000 : Int32) else (iP 1)))]) iR iT wT (va_cpy (aP 0) tx ((0 : Int32)).toNatClampNeg ((0 : Int32)).toNatClampNeg ((if (2000 : Int32) < (iP 1) then (2000 : Int32) else (iP 1))).toNatClampNeg) iB lB aB iC aC iD lD aD iE aE iK lK aK iW aW iP aP) H := hP
  have hD : va_D A (zzX ad cy rb rc (ad 4) (ad 11) pb (ad 4) (ad 20) (us iX [(1, (if (2000 : Int32) < (iP 1) then (2000 : Int32) else (iP 1)))]) iR iT wT (va_cpy (aP 0) tx ((0 : Int32)).toNatClampNeg ((0 : Int32)).toNatClampNeg ((if (2000 : Int32) < (iP 1) then (2000 : Int32) else (iP 1))).toNatClampNeg) iB lB aB iC aC iD lD aD iE aE iK lK aK iW aW iP aP) := hD
  refine lv_aload_n hx hb dX7_back_37 rfl (lv_at hl 0 rfl) ?_
  refine va_get (D := (dC, dI)) (ci := 7) (v := .int ((if (2000 : Int32) < (iP 1) then (2000 : Int32) else (iP 1)))) (C := RX7) (T := TX7) (N := 9) hx hb hts ki7 hown hK hP 0 rfl rfl 1 (by decide) kf55 (fun _ h9 => h9) rfl dX7_back_38 ?_
  have h' := Option.some.inj h
  rw [← hQQ]
  exact W.iret (v := (if (2000 : Int32) < (iP 1) then (2000 : Int32) else (iP 1))) hx hb hr (fun t ht hW => ⟨⟨(if (2000 : Int32) < (iP 1) then (2000 : Int32) else (iP 1)), (), rfl, by rw [← h'], by rw [← hWQ, ← h', ht]; exact hP, va_K.moved hW.alike hK⟩, hS.F ht⟩) hS.2.2 dX7_back_41
