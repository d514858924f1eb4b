set_option maxHeartbeats 8000000 in
set_option maxRecDepth 100000 in
theorem c_X_feedOne (l : Launch) (dC : Nat → ClassId) (dI : Nat → Nat → Nat) (cy : Nat → ClassId) (ad : Nat → Nat) (sz : Nat) (rb : Nat) (rc : Nat) (pb : Nat) (N : Nat) (a1 : Int32) (iX : Nat → Int32) (iR : Nat → Int32) (iT : Nat → Int32) (wT : Int64) (tx : Nat → Int32) (iB : Nat → Int32) (lB : Nat → Nat → Int64) (aB : Nat → Nat → Int32) (iC : Nat → Int32) (aC : Nat → Nat → Int32) (iD : Nat → Int32) (lD : Nat → Nat → Int64) (aD : Nat → Nat → Int32) (iE : Nat → Int32) (aE : Nat → Nat → Int32) (iK : Nat → Int32) (lK : Nat → Nat → Int64) (aK : Nat → Nat → Int32) (iW : Nat → Int32) (aW : Nat → Nat → Int32) (iP : Nat → Int32) (aP : Nat → Nat → Int32) (q : Int32 × (Nat → Int32)) (h : f_X_feedOne N a1 (iX 1) tx = some q) : Met l yX7_feedOne wsX7_feedOne ({ frames := 0, cells := 0, slots := 0, locals := 0 } : Room) (cP (dC, dI) cy [.ref (ad 0), .int a1] (zzX ad cy rb rc (ad 4) (ad 11) pb (ad 4) (ad 20) iX iR iT wT tx iB lB aB iC aC iD lD aD iE aE iK lK aK iW aW iP aP) sz) (cQv (dC, dI) cy (zzX ad cy rb rc (ad 4) (ad 11) pb (ad 4) (ad 20) (us iX [(1, q.1)]) iR iT wT q.2 iB lB aB iC aC iD lD aD iE aE iK lK aK iW aW iP aP) (va_A (zzX ad cy rb rc (ad 4) (ad 11) pb (ad 4) (ad 20) iX iR iT wT tx iB lB aB iC aC iD lD aD iE aE iK lK aK iW aW iP aP) sz)) 0 0 (va_A (zzX ad cy rb rc (ad 4) (ad 11) pb (ad 4) (ad 20) iX iR iT wT tx iB lB aB iC aC iD lD aD iE aE iK lK aK iW aW iP aP) sz) := by
  refine Met.ofW (cc := cX7_feedOne) (maxL := 3) (ret := none) (by decide) rfl ?_
  intro p e s m args below meth c s₁ B hml hv
  obtain ⟨hav, hsz, hP, hK, hD0, hN⟩ := hv
  have hx := B.exec
  have hb := B.bytes
  have hr := B.returns
  have hts := atoms_spec (ws := wsX7_feedOne) B.pre
  have hown : s.vm.findClass RX7 = some m.cls := findClass_of_methodNamed B.named
  have hlocks := B.notSynchronized
  subst hsz
  have hD := hD0.self (sz := s.heap.size)
  generalize hAe : va_A (zzX ad cy rb rc (ad 4) (ad 11) pb (ad 4) (ad 20) iX iR iT wT tx iB lB aB iC aC iD lD aD iE aE iK lK aK iW aW iP aP) s.heap.size = A at hD ⊢
  have hA : ∀ q : Nat, s.heap.size ≤ q → A q := fun q h => by rw [← hAe]; exact Or.inr h
  have hS : va_S A s.heap s.heap [] := va_S.rf
  generalize hWQ : (zzX ad cy rb rc (ad 4) (ad 11) pb (ad 4) (ad 20) (us iX [(1, q.1)]) iR iT wT q.2 iB lB aB iC aC iD lD aD iE aE iK lK aK iW aW iP aP) = WQ
  generalize hQQ : MQ below (cQv (dC, dI) cy WQ A) args s 0 0 A = QQ
  have hl := lv_entry ([.ref (ad 0), .int a1] : List Value) (n := 3) (Nat.le_of_ble_eq_true rfl)
  have hfr := lg_entry_eq m ([.ref (ad 0), .int a1] : List Value) 3
  rw [← hav] at hfr
  rw [hfr]
  clear hfr hav
  generalize (lg_sl ([.ref (ad 0), .int a1] : List Value) ++ List.replicate (3 - (lg_sl ([.ref (ad 0), .int a1] : List Value)).length) Slot.unset).toArray = ls at hl ⊢
  have hl : lv_has ls 3 [(0, .ref (ad 0)), (1, .int a1)] := hl
  have kf55 := hts _ (List.mem_cons_of_mem _ m_fl_X7_55)
  have ki7 := (fun w h => List.mem_cons_of_mem _ (i_X7 w h) : ∀ w ∈ u_ws RX7 TX7 9, w ∈ wsX7_feedOne)
  have kf9 := hts _ (List.mem_cons_of_mem _ m_fl_X7_9)
  refine (?_ : ∀ (H : Heap) (locs : List Loc), va_P (dC, dI) vwCl (zzX ad cy rb rc (ad 4) (ad 11) pb (ad 4) (ad 20) iX iR iT wT tx iB lB aB iC aC iD lD aD iE aE iK lK aK iW aW iP aP) H → va_D A (zzX ad cy rb rc (ad 4) (ad 11) pb (ad 4) (ad 20) iX iR iT wT tx iB lB aB iC aC iD lD aD iE aE iK lK aK iW aW iP aP) → va_S A s.heap H locs → W p l e ({ frames := 0, cells := 0, slots := 0, locals := 0 } : Room) s m args below meth c H locs 0 0 QQ (F0 m 0 ls [])) s.heap [] hP hD hS
  clear hP hD hS
  have B3 : ∀ (n : Nat) (v1 : Int32) (v2 : Int32) (x_iX1 : Int32) (x_tx : Nat → Int32) (H : Heap) (locs : List Loc) (ls : Array Slot), f_X_feedOne_3 N (iX 1) tx v1 n v2 x_iX1 x_tx = some q → va_P (dC, dI) vwCl (zzX ad cy rb rc (ad 4) (ad 11) pb (ad 4) (ad 20) (us iX [(1, x_iX1)]) iR iT wT x_tx iB lB aB iC aC iD lD aD iE aE iK lK aK iW aW iP aP) H → va_D A (zzX ad cy rb rc (ad 4) (ad 11) pb (ad 4) (ad 20) (us iX [(1, x_iX1)]) iR iT wT x_tx iB lB aB iC aC iD lD aD iE aE iK lK aK iW aW iP aP) → va_S A s.heap H locs → lv_has ls 3 [(0, .ref (ad 0)), (1, .int v1), (2, .int v2)] → W p l e ({ frames := 0, cells := 0, slots := 0, locals := 0 } : Room) s m args below meth c H locs 0 0 QQ (F0 m 3 ls []) := by
    intro n
    induction n with
    | zero =>
      intro v1 v2 x_iX1 x_tx H locs ls h hP hD hS hl
      rw [f_X_feedOne_3] at h
      cases h
    | succ n ih =>
      intro v1 v2 x_iX1 x_tx H locs ls h hP hD hS hl
      rw [f_X_feedOne_3] at h
      refine lv_iload_n hx hb dX7_feedOne_3 rfl (lv_at hl 2 rfl) ?_
      refine lv_if_lt (tgt := 55) hx hb dX7_feedOne_4 (by decide) (fun cz => ?_) (fun cz => ?_)
      · have h := g_t h cz
        have h' := Option.some.inj h
        rw [← hQQ]
        exact W.vret hx hb hr (fun t ht hW => ⟨⟨(), rfl, trivial, by rw [← hWQ, ← h', ht]; exact hP, va_K.moved hW.alike hK⟩, hS.F ht⟩) hS.2.2 dX7_feedOne_55
      · have h := g_f h cz
        refine lv_aload_n hx hb dX7_feedOne_7 rfl (lv_at hl 0 rfl) ?_
        refine va_get (D := (dC, dI)) (ci := 7) (v := .int x_iX1) (C := RX7) (T := TX7) (N := 9) hx hb hts ki7 hown hK hP 0 rfl rfl 1 (by decide) kf55 (fun _ h9 => h9) rfl dX7_feedOne_8 ?_
        refine lv_if_lt (tgt := 49) hx hb dX7_feedOne_11 (by decide) (fun cz => ?_) (fun cz => ?_)
        · have h := g_t h cz
          refine lv_iinc (v := (v2 + (-8 : Int32))) (lv' := [(2, .int ((v2 + (-8 : Int32)))), (0, .ref (ad 0)), (1, .int v1)]) hx hb dX7_feedOne_49 hl (k := 2) rfl rfl (by decide) rfl (fun ls hl => ?_)
          refine lv_goto (tgt := 3) hx hb dX7_feedOne_52 (by decide) ?_
          exact ih v1 ((v2 + (-8 : Int32))) x_iX1 x_tx H locs ls h hP hD hS (lv_sub hl [1, 2, 0] rfl)
        · have h := g_f h cz
          refine lv_aload_n hx hb dX7_feedOne_14 rfl (lv_at hl 0 rfl) ?_
          refine va_get (D := (dC, dI)) (ci := 7) (v := .int x_iX1) (C := RX7) (T := TX7) (N := 9) hx hb hts ki7 hown hK hP 0 rfl rfl 1 (by decide) kf55 (fun _ h9 => h9) rfl dX7_feedOne_15 ?_
          refine lv_aload_n hx hb dX7_feedOne_18 rfl (lv_at hl 0 rfl) ?_
          refine va_get (D := (dC, dI)) (ci := 7) (v := .ref (ad 3)) (C := RX7) (T := TX7) (N := 9) hx hb hts ki7 hown hK hP 0 rfl rfl 0 (by decide) kf9 (fun _ h9 => h9) rfl dX7_feedOne_19 ?_
          refine va_alen (v := (2000 : Int32)) hx hb hK hP 3 1 rfl rfl rfl dX7_feedOne_22 ?_
          refine lv_icmp_ge (tgt := 49) hx hb dX7_feedOne_23 (by decide) (fun cz => ?_) (fun cz => ?_)
          · have h := g_t h cz
            refine lv_iinc (v := (v2 + (-8 : Int32))) (lv' := [(2, .int ((v2 + (-8 : Int32)))), (0, .ref (ad 0)), (1, .int v1)]) hx hb dX7_feedOne_49 hl (k := 2) rfl rfl (by decide) rfl (fun ls hl => ?_)
            refine lv_goto (tgt := 3) hx hb dX7_feedOne_52 (by decide) ?_
            exact ih v1 ((v2 + (-8 : Int32))) x_iX1 x_tx H locs ls h hP hD hS (lv_sub hl [1, 2, 0] rfl)
          · have h := g_f h cz
            refine lv_aload_n hx hb dX7_feedOne_26 rfl (lv_at hl 0 rfl) ?_
            refine va_get (D := (dC, dI)) (ci := 7) (v := .ref (ad 3)) (C := RX7) (T := TX7) (N := 9) hx hb hts ki7 hown hK hP 0 rfl rfl 0 (by decide) kf9 (fun _ h9 => h9) rfl dX7_feedOne_27 ?_
            refine lv_aload_n hx hb dX7_feedOne_30 rfl (lv_at hl 0 rfl) ?_
            refine va_get (D := (dC, dI)) (ci := 7) (v := .int x_iX1) (C := RX7) (T := TX7) (N := 9) hx hb hts ki7 hown hK hP 0 rfl rfl 1 (by decide) kf55 (fun _ h9 => h9) rfl dX7_feedOne_31 ?_
            refine lv_iload_n hx hb dX7_feedOne_34 rfl (lv_at hl 1 rfl) ?_
            refine lv_iload_n hx hb dX7_feedOne_35 rfl (lv_at hl 2 rfl) ?_
            refine lv_ishr hx hb dX7_feedOne_36 ?_
            refine lv_i2b (v := ((v1 >>> (v2 &&& 31))).toInt8.toInt32) hx hb dX7_feedOne_37 rfl ?_
            obtain ⟨g_0, h⟩ := g_n h
            refine va_bast (f := x_tx) hx hb hK hP hD hS 3 1 rfl rfl g_0 dX7_feedOne_38 (fun H locs hP hD hS => ?_)
            have hP : va_P (dC, dI) vwCl (zzX ad cy rb rc (ad 4) (ad 11) pb (ad 4) (ad 20) (us iX [(1, x_iX1)]) iR iT wT (upd x_tx x_iX1.toNatClampNeg (vp_nar .byte (((v1 >>> (v2 &&& 31))).toInt8.toInt32))) iB lB aB iC aC iD lD aD iE aE iK lK aK iW aW iP aP) H := hP
            have hD : va_D A (zzX ad cy rb rc (ad 4) (ad 11) pb (ad 4) (ad 20) (us iX [(1, x_iX1)]) iR iT wT (upd x_tx x_iX1.toNatClampNeg (vp_nar .byte (((v1 >>> (v2 &&& 31))).toInt8.toInt32))) iB lB aB iC aC iD lD aD iE aE iK lK aK iW aW iP aP) := hD
            refine lv_aload_n hx hb dX7_feedOne_39 rfl (lv_at hl 0 rfl) ?_
            refine lv_dup hx hb dX7_feedOne_40 rfl ?_
            refine va_get (D := (dC, dI)) (ci := 7) (v := .int x_iX1) (C := RX7) (T := TX7) (N := 9) hx hb hts ki7 hown hK hP 0 rfl rfl 1 (by decide) kf55 (fun _ h9 => h9) rfl dX7_feedOne_41 ?_
            refine lv_iconst (v := 1) hx hb dX7_feedOne_44 (by decide) ?_
            refine lv_iadd hx hb dX7_feedOne_45 ?_
            refine va_put (D := (dC, dI)) (ci := 7) (v := .int ((x_iX1 + (1 : Int32)))) (ty := .int) (C := RX7) (T := TX7) (N := 9) hx hb hts ki7 tyX7 tyX7_ok nmX7 hown hK hP hD hS 0 rfl rfl 1 (by decide) kf55 (fun _ h9 => h9) rfl (by decide +kernel) rfl rfl (Nat.le_of_ble_eq_true rfl) dX7_feedOne_46 (fun H locs hP hD hS => ?_)
            have hP : va_P (dC, dI) vwCl (zzX ad cy rb rc (ad 4) (ad 11) pb (ad 4) (ad 20) (us iX [(1, (x_iX1 + (1 : Int32)))]) iR iT wT (upd x_tx x_iX1.toNatClampNeg (vp_nar .byte (((v1 >>> (v2 &&& 31))).toInt8.toInt32))) iB lB aB iC aC iD lD aD iE aE iK lK aK iW aW iP aP) H := Eq.mp (congrArg (fun w => va_P (dC, dI) vwCl w H) (stX_iX1 ad cy rb rc (ad 4) (ad 11) pb (ad 4) (ad 20) iX iR iT wT (upd x_tx x_iX1.toNatClampNeg (vp_nar .byte (((v1 >>> (v2 &&& 31))).toInt8.toInt32))) iB lB aB iC aC iD lD aD iE aE iK lK aK iW aW iP aP [(1, x_iX1)] ((x_iX1 + (1 : Int32))))) hP
            have hD : va_D A (zzX ad cy rb rc (ad 4) (ad 11) pb (ad 4) (ad 20) (us iX [(1, (x_iX1 + (1 : Int32)))]) iR iT wT (upd x_tx x_iX1.toNatClampNeg (vp_nar .byte (((v1 >>> (v2 &&& 31))).toInt8.toInt32))) iB lB aB iC aC iD lD aD iE aE iK lK aK iW aW iP aP) := Eq.mp (congrArg (fun w => va_D A w) (stX_iX1 ad cy rb rc (ad 4) (ad 11) pb (ad 4) (ad 20) iX iR iT wT (upd x_tx x_iX1.toNatClampNeg (vp_nar .byte (((v1 >>> (v2 &&& 31))).toInt8.toInt32))) iB lB aB iC aC iD lD aD iE aE iK lK aK iW aW iP aP [(1, x_iX1)] ((x_iX1 + (1 : Int32))))) hD
            refine lv_iinc (v := (v2 + (-8 : Int32))) (lv' := [(2, .int ((v2 + (-8 : Int32)))), (0, .ref (ad 0)), (1, .int v1)]) hx hb dX7_feedOne_49 hl (k := 2) rfl rfl (by decide) rfl (fun ls hl => ?_)
            refine lv_goto (tgt := 3) hx hb dX7_feedOne_52 (by decide) ?_
            exact ih v1 ((v2 + (-8 : Int32))) ((x_iX1 + (1 : Int32))) ((upd x_tx x_iX1.toNatClampNeg (vp_nar .byte (((v1 >>> (v2 &&& 31))).toInt8.toInt32)))) H locs ls h hP hD hS (lv_sub hl [1, 2, 0] rfl)
  intro H locs hP hD hS
  unfold f_X_feedOne at h
  refine lv_bipush (v := 24) hx hb dX7_feedOne_0 (by decide) ?_
  refine lv_istore_n (lv' := [(2, .int ((24 : Int32))), (0, .ref (ad 0)), (1, .int a1)]) hx hb dX7_feedOne_2 rfl hl (by decide) rfl (fun ls hl => ?_)
  exact B3 N a1 ((24 : Int32)) (iX 1) tx H locs ls h hP hD hS (lv_sub hl [1, 2, 0] rfl)
set_option maxHeartbeats 8000000 in
set_option maxRecDepth 100000 in
theorem c_X_feed (l : Launch) (dC : Nat → ClassId) (dI : Nat → Nat → Nat) (cy : Nat → ClassId) (ad : Nat → Nat) (sz : Nat) (rb : Nat) (rc : Nat) (pb : Nat) (N : Nat) (a1 : Int32) (a2 : Int32) (a3 : Int32) (a4 : Int32) (a5 : Int32) (iX : Nat → Int32) (iR : Nat → Int32) (iT : Nat → Int32) (wT : Int64) (tx : Nat → Int32) (iB : Nat → Int32) (lB : Nat → Nat → Int64) (aB : Nat → Nat → Int32) (iC : Nat → Int32) (aC : Nat → Nat → Int32) (iD : Nat → Int32) (lD : Nat → Nat → Int64) (aD : Nat → Nat → Int32) (iE : Nat → Int32) (aE : Nat → Nat → Int32) (iK : Nat → Int32) (lK : Nat → Nat → Int64) (aK : Nat → Nat → Int32) (iW : Nat → Int32) (aW : Nat → Nat → Int32) (iP : Nat → Int32) (aP : Nat → Nat → Int32) (q : Int32 × Int32 × (Nat → Int32)) (h : f_X_feed N a1 a2 a3 a4 a5 (iX 1) tx = some q) : Met l yX7_feed wsX7_feed ({ frames := 1, cells := 0, slots := 0, locals := 22 } : Room) (cP (dC, dI) cy [.ref (ad 0), .int a1, .int a2, .int a3, .int a4, .int a5] (zzX ad cy rb rc (ad 4) (ad 11) pb (ad 4) (ad 20) iX iR iT wT tx iB lB aB iC aC iD lD aD iE aE iK lK aK iW aW iP aP) sz) (cQi (dC, dI) cy q.1 (zzX ad cy rb rc (ad 4) (ad 11) pb (ad 4) (ad 20) (us iX [(1, q.2.1)]) iR iT wT q.2.2 iB lB aB iC aC iD lD aD iE aE iK lK aK iW aW iP aP) (va_A (zzX ad cy rb rc (ad 4) (ad 11) pb (ad 4) (ad 20) iX iR iT wT tx iB lB aB iC aC iD lD aD iE aE iK lK aK iW aW iP aP) sz)) 0 0 (va_A (zzX ad cy rb rc (ad 4) (ad 11) pb (ad 4) (ad 20) iX iR iT wT tx iB lB aB iC aC iD lD aD iE aE iK lK aK iW aW iP aP) sz) := by
  refine Met.ofW (cc := cX7_feed) (maxL := 6) (ret := (some .int)) (by decide) rfl ?_
  intro p e s m args below meth c s₁ B hml hv
  obtain ⟨hav, hsz, hP, hK, hD0, hN⟩ := hv
  have hx := B.exec
  have hb := B.bytes
  have hr := B.returns
  have hts := atoms_spec (ws := wsX7_feed) B.pre
  have hown : s.vm.findClass RX7 = some m.cls := findClass_of_methodNamed B.named
  have hlocks := B.notSynchronized
  subst hsz
  have hD := hD0.self (sz := s.heap.size)
  generalize hAe : va_A (zzX ad cy rb rc (ad 4) (ad 11) pb (ad 4) (ad 20) iX iR iT wT tx iB lB aB iC aC iD lD aD iE aE iK lK aK iW aW iP aP) s.heap.size = A at hD ⊢
  have hA : ∀ q : Nat, s.heap.size ≤ q → A q := fun q h => by rw [← hAe]; exact Or.inr h
  have hS : va_S A s.heap s.heap [] := va_S.rf
  generalize hWQ : (zzX ad cy rb rc (ad 4) (ad 11) pb (ad 4) (ad 20) (us iX [(1, q.2.1)]) iR iT wT q.2.2 iB lB aB iC aC iD lD aD iE aE iK lK aK iW aW iP aP) = WQ
  generalize hQQ : MQ below (cQi (dC, dI) cy q.1 WQ A) args s 0 0 A = QQ
  have hl := lv_entry ([.ref (ad 0), .int a1, .int a2, .int a3, .int a4, .int a5] : List Value) (n := 6) (Nat.le_of_ble_eq_true rfl)
  have hfr := lg_entry_eq m ([.ref (ad 0), .int a1, .int a2, .int a3, .int a4, .int a5] : List Value) 6
  rw [← hav] at hfr
  rw [hfr]
  clear hfr hav
  generalize (lg_sl ([.ref (ad 0), .int a1, .int a2, .int a3, .int a4, .int a5] : List Value) ++ List.replicate (6 - (lg_sl ([.ref (ad 0), .int a1, .int a2, .int a3, .int a4, .int a5] : List Value)).length) Slot.unset).toArray = ls at hl ⊢
  have hl : lv_has ls 6 [(0, .ref (ad 0)), (1, .int a1), (2, .int a2), (3, .int a3), (4, .int a4), (5, .int a5)] := hl
  have kf55 := hts _ (List.mem_cons_of_mem _ m_fl_X7_55)
  have ki7 := (fun w h => List.mem_cons_of_mem _ (i_X7 w h) : ∀ w ∈ u_ws RX7 TX7 9, w ∈ wsX7_feed)
  refine (?_ : ∀ (H : Heap) (locs : List Loc), va_P (dC, dI) vwCl (zzX ad cy rb rc (ad 4) (ad 11) pb (ad 4) (ad 20) iX iR iT wT tx iB lB aB iC aC iD lD aD iE aE iK lK aK iW aW iP aP) H → va_D A (zzX ad cy rb rc (ad 4) (ad 11) pb (ad 4) (ad 20) iX iR iT wT tx iB lB aB iC aC iD lD aD iE aE iK lK aK iW aW iP aP) → va_S A s.heap H locs → W p l e ({ frames := 1, cells := 0, slots := 0, locals := 22 } : Room) s m args below meth c H locs 0 0 QQ (F0 m 0 ls [])) s.heap [] hP hD hS
  clear hP hD hS
  intro H locs hP hD hS
  unfold f_X_feed at h
  refine lv_aload_n hx hb dX7_feed_0 rfl (lv_at hl 0 rfl) ?_
  refine va_get (D := (dC, dI)) (ci := 7) (v := .int (iX 1)) (C := RX7) (T := TX7) (N := 9) hx hb hts ki7 hown hK hP 0 rfl rfl 1 (by decide) kf55 (fun _ h9 => h9) rfl dX7_feed_1 ?_
  refine lv_sipush (v := 1980) hx hb dX7_feed_4 (by decide) ?_
  refine lv_icmp_le (tgt := 13) hx hb dX7_feed_7 (by decide) (fun cz => ?_) (fun cz => ?_)
  · have h := g_t h cz
    refine lv_aload_n hx hb dX7_feed_13 rfl (lv_at hl 0 rfl) ?_
    refine lv_iload_n hx hb dX7_feed_14 rfl (lv_at hl 1 rfl) ?_
    obtain ⟨q15, e15, h⟩ := g_b h
    refine callVvs (cc := cX7_feed) (w1 := zzX ad cy rb rc (ad 4) (ad 11) pb (ad 4) (ad 20) (us iX [(1, q15.1)]) iR iT wT q15.2 iB lB aB iC aC iD lD aD iE aE iK lK aK iW aW iP aP) (As := [.int a1]) (rest := []) ⟨hx, hb, hml, hown, hts⟩ (c_X_feedOne l dC dI cy ad H.size rb rc pb N a1 iX iR iT wT tx iB lB aB iC aC iD lD aD iE aE iK lK aK iW aW iP aP q15 e15) (cwV 1 hts (goodV m_ml_X7_59 m_im_X7_feedOne m_se_X7_feedOne m_in_X7 m_cd_X7_feedOne) rfl rfl rfl (by decide +kernel) ⟨Nat.le_of_ble_eq_true rfl, Nat.le_of_ble_eq_true rfl⟩) hN hK hP hD hS hA rfl 0 rfl rfl rfl hl.1 rfl (Nat.le_of_ble_eq_true rfl) dX7_feed_15 ⟨Nat.zero_le _, Nat.zero_le _⟩ (fun H locs hP hD hS => ?_)
    refine lv_aload_n hx hb dX7_feed_18 rfl (lv_at hl 0 rfl) ?_
    refine lv_iload_n hx hb dX7_feed_19 rfl (lv_at hl 2 rfl) ?_
    obtain ⟨q20, e20, h⟩ := g_b h
    refine callVvs (cc := cX7_feed) (w1 := zzX ad cy rb rc (ad 4) (ad 11) pb (ad 4) (ad 20) (us iX [(1, q20.1)]) iR iT wT q20.2 iB lB aB iC aC iD lD aD iE aE iK lK aK iW aW iP aP) (As := [.int a2]) (rest := []) ⟨hx, hb, hml, hown, hts⟩ (c_X_feedOne l dC dI cy ad H.size rb rc pb N a2 ((us iX [(1, q15.1)])) iR iT wT q15.2 iB lB aB iC aC iD lD aD iE aE iK lK aK iW aW iP aP q20 e20) (cwV 1 hts (goodV m_ml_X7_59 m_im_X7_feedOne m_se_X7_feedOne m_in_X7 m_cd_X7_feedOne) rfl rfl rfl (by decide +kernel) ⟨Nat.le_of_ble_eq_true rfl, Nat.le_of_ble_eq_true rfl⟩) hN hK hP hD hS hA rfl 0 rfl rfl rfl hl.1 rfl (Nat.le_of_ble_eq_true rfl) dX7_feed_20 ⟨Nat.zero_le _, Nat.zero_le _⟩ (fun H locs hP hD hS => ?_)
    refine lv_aload_n hx hb dX7_feed_23 rfl (lv_at hl 0 rfl) ?_
    refine lv_iload_n hx hb dX7_feed_24 rfl (lv_at hl 3 rfl) ?_
    obtain ⟨q25, e25, h⟩ := g_b h
    refine callVvs (cc := cX7_feed) (w1 := zzX ad cy rb rc (ad 4) (ad 11) pb (ad 4) (ad 20) (us iX [(1, q25.1)]) iR iT wT q25.2 iB lB aB iC aC iD lD aD iE aE iK lK aK iW aW iP aP) (As := [.int a3]) (rest := []) ⟨hx, hb, hml, hown, hts⟩ (c_X_feedOne l dC dI cy ad H.size rb rc pb N a3 ((us iX [(1, q20.1)])) iR iT wT q20.2 iB lB aB iC aC iD lD aD iE aE iK lK aK iW aW iP aP q25 e25) (cwV 1 hts (goodV m_ml_X7_59 m_im_X7_feedOne m_se_X7_feedOne m_in_X7 m_cd_X7_feedOne) rfl rfl rfl (by decide +kernel) ⟨Nat.le_of_ble_eq_true rfl, Nat.le_of_ble_eq_true rfl⟩) hN hK hP hD hS hA rfl 0 rfl rfl rfl hl.1 rfl (Nat.le_of_ble_eq_true rfl) dX7_feed_25 ⟨Nat.zero_le _, Nat.zero_le _⟩ (fun H locs hP hD hS => ?_)
    refine lv_aload_n hx hb dX7_feed_28 rfl (lv_at hl 0 rfl) ?_
    refine lv_iload hx hb dX7_feed_29 (lv_at hl 4 rfl) ?_
    obtain ⟨q31, e31, h⟩ := g_b h
    refine callVvs (cc := cX7_feed) (w1 := zzX ad cy rb rc (ad 4) (ad 11) pb (ad 4) (ad 20) (us iX [(1, q31.1)]) iR iT wT q31.2 iB lB aB iC aC iD lD aD iE aE iK lK aK iW aW iP aP) (As := [.int a4]) (rest := []) ⟨hx, hb, hml, hown, hts⟩ (c_X_feedOne l dC dI cy ad H.size rb rc pb N a4 ((us iX [(1, q25.1)])) iR iT wT q25.2 iB lB aB iC aC iD lD aD iE aE iK lK aK iW aW iP aP q31 e31) (cwV 1 hts (goodV m_ml_X7_59 m_im_X7_feedOne m_se_X7_feedOne m_in_X7 m_cd_X7_feedOne) rfl rfl rfl (by decide +kernel) ⟨Nat.le_of_ble_eq_true rfl, Nat.le_of_ble_eq_true rfl⟩) hN hK hP hD hS hA rfl 0 rfl rfl rfl hl.1 rfl (Nat.le_of_ble_eq_true rfl) dX7_feed_31 ⟨Nat.zero_le _, Nat.zero_le _⟩ (fun H locs hP hD hS => ?_)
    refine lv_aload_n hx hb dX7_feed_34 rfl (lv_at hl 0 rfl) ?_
    refine lv_iload hx hb dX7_feed_35 (lv_at hl 5 rfl) ?_
    obtain ⟨q37, e37, h⟩ := g_b h
    refine callVvs (cc := cX7_feed) (w1 := zzX ad cy rb rc (ad 4) (ad 11) pb (ad 4) (ad 20) (us iX [(1, q37.1)]) iR iT wT q37.2 iB lB aB iC aC iD lD aD iE aE iK lK aK iW aW iP aP) (As := [.int a5]) (rest := []) ⟨hx, hb, hml, hown, hts⟩ (c_X_feedOne l dC dI cy ad H.size rb rc pb N a5 ((us iX [(1, q31.1)])) iR iT wT q31.2 iB lB aB iC aC iD lD aD iE aE iK lK aK iW aW iP aP q37 e37) (cwV 1 hts (goodV m_ml_X7_59 m_im_X7_feedOne m_se_X7_feedOne m_in_X7 m_cd_X7_feedOne) rfl rfl rfl (by decide +kernel) ⟨Nat.le_of_ble_eq_true rfl, Nat.le_of_ble_eq_true rfl⟩) hN hK hP hD hS hA rfl 0 rfl rfl rfl hl.1 rfl (Nat.le_of_ble_eq_true rfl) dX7_feed_37 ⟨Nat.zero_le _, Nat.zero_le _⟩ (fun H locs hP hD hS => ?_)
    refine lv_aload_n hx hb dX7_feed_40 rfl (lv_at hl 0 rfl) ?_
    refine va_get (D := (dC, dI)) (ci := 7) (v := .int q37.1) (C := RX7) (T := TX7) (N := 9) hx hb hts ki7 hown hK hP 0 rfl rfl 1 (by decide) kf55 (fun _ h9 => h9) rfl dX7_feed_41 ?_
    have h' := Option.some.inj h
    rw [← hQQ]
    exact W.iret (v := q37.1) hx hb hr (fun t ht hW => ⟨⟨q37.1, (), rfl, by rw [← h'], by rw [← hWQ, ← h', ht]; exact hP, va_K.moved hW.alike hK⟩, hS.F ht⟩) hS.2.2 dX7_feed_44
  · have h := g_f h cz
    refine lv_bipush (v := (-104)) hx hb dX7_feed_10 (by decide) ?_
    have h' := Option.some.inj h
    rw [← hQQ]
    exact W.iret (v := (-104 : Int32)) hx hb hr (fun t ht hW => ⟨⟨(-104 : Int32), (), rfl, by rw [← h'], by rw [← hWQ, ← h', ht]; exact hP, va_K.moved hW.alike hK⟩, hS.F ht⟩) hS.2.2 dX7_feed_12
set_option maxHeartbeats 8000000 in
set_option maxRecDepth 100000 in
theorem c_X_cut (l : Launch) (dC : Nat → ClassId) (dI : Nat → Nat → Nat) (cy : Nat → ClassId) (ad : Nat → Nat) (sz : Nat) (rb : Nat) (rc : Nat) (pb : Nat) (a1 : Int32) (iX : Nat → Int32) (iR : Nat → Int32) (iT : Nat → Int32) (wT : Int64) (tx : Nat → Int32) (iB : Nat → Int32) (lB : Nat → Nat → Int64) (aB : Nat → Nat → Int32) (iC : Nat → Int32) (aC : Nat → Nat → Int32) (iD : Nat → Int32) (lD : Nat → Nat → Int64) (aD : Nat → Nat → Int32) (iE : Nat → Int32) (aE : Nat → Nat → Int32) (iK : Nat → Int32) (lK : Nat → Nat → Int64) (aK : Nat → Nat → Int32) (iW : Nat → Int32) (aW : Nat → Nat → Int32) (iP : Nat → Int32) (aP : Nat → Nat → Int32) (q : Int32 × Int32) (h : f_X_cut a1 (iX 1) = some q) : Met l yX7_cut wsX7_cut ({ frames := 0, cells := 0, slots := 0, locals := 0 } : Room) (cP (dC, dI) cy [.ref (ad 0), .int a1] (zzX ad cy rb rc (ad 4) (ad 11) pb (ad 4) (ad 20) iX iR iT wT tx iB lB aB iC aC iD lD aD iE aE iK lK aK iW aW iP aP) sz) (cQi (dC, dI) cy q.1 (zzX ad cy rb rc (ad 4) (ad 11) pb (ad 4) (ad 20) (us iX [(1, q.2)]) iR iT wT tx iB lB aB iC aC iD lD aD iE aE iK lK aK iW aW iP aP) (va_A (zzX ad cy rb rc (ad 4) (ad 11) pb (ad 4) (ad 20) iX iR iT wT tx iB lB aB iC aC iD lD aD iE aE iK lK aK iW aW iP aP) sz)) 0 0 (va_A (zzX ad cy rb rc (ad 4) (ad 11) pb (ad 4) (ad 20) iX iR iT wT tx iB lB aB iC aC iD lD aD iE aE iK lK aK iW aW iP aP) sz) := by
  refine Met.ofW (cc := cX7_cut) (maxL := 3) (ret := (some .int)) (by decide) rfl ?_
  intro p e s m args below meth c s₁ B hml hv
  obtain ⟨hav, hsz, hP, hK, hD0, hN⟩ := hv
  have hx := B.exec
  have hb := B.bytes
  have hr := B.returns
  have hts := atoms_spec (ws := wsX7_cut) B.pre
  have hown : s.vm.findClass RX7 = some m.cls := findClass_of_methodNamed B.named
  have hlocks := B.notSynchronized
  subst hsz
  have hD := hD0.self (sz := s.heap.size)
  generalize hAe : va_A (zzX ad cy rb rc (ad 4) (ad 11) pb (ad 4) (ad 20) iX iR iT wT tx iB lB aB iC aC iD lD aD iE aE iK lK aK iW aW iP aP) s.heap.size = A at hD ⊢
  have hA : ∀ q : Nat, s.heap.size ≤ q → A q := fun q h => by rw [← hAe]; exact Or.inr h
  have hS : va_S A s.heap s.heap [] := va_S.rf
  generalize hWQ : (zzX ad cy rb rc (ad 4) (ad 11) pb (ad 4) (ad 20) (us iX [(1, q.2)]) iR iT wT tx iB lB aB iC aC iD lD aD iE aE iK lK aK iW aW iP aP) = WQ
  generalize hQQ : MQ below (cQi (dC, dI) cy q.1 WQ A) args s 0 0 A = QQ
  have hl := lv_entry ([.ref (ad 0), .int a1] : List Value) (n := 3) (Nat.le_of_ble_eq_true rfl)
  have hfr := lg_entry_eq m ([.ref (ad 0), .int a1] : List Value) 3
  rw [← hav] at hfr
  rw [hfr]
  clear hfr hav
  generalize (lg_sl ([.ref (ad 0), .int a1] : List Value) ++ List.replicate (3 - (lg_sl ([.ref (ad 0), .int a1] : List Value)).length) Slot.unset).toArray = ls at hl ⊢
  have hl : lv_has ls 3 [(0, .ref (ad 0)), (1, .int a1)] := hl
  have kf55 := hts _ (List.mem_cons_of_mem _ m_fl_X7_55)
  have ki7 := (fun w h => List.mem_cons_of_mem _ (i_X7 w h) : ∀ w ∈ u_ws RX7 TX7 9, w ∈ wsX7_cut)
  refine (?_ : ∀ (H : Heap) (locs : List Loc), va_P (dC, dI) vwCl (zzX ad cy rb rc (ad 4) (ad 11) pb (ad 4) (ad 20) iX iR iT wT tx iB lB aB iC aC iD lD aD iE aE iK lK aK iW aW iP aP) H → va_D A (zzX ad cy rb rc (ad 4) (ad 11) pb (ad 4) (ad 20) iX iR iT wT tx iB lB aB iC aC iD lD aD iE aE iK lK aK iW aW iP aP) → va_S A s.heap H locs → W p l e ({ frames := 0, cells := 0, slots := 0, locals := 0 } : Room) s m args below meth c H locs 0 0 QQ (F0 m 0 ls [])) s.heap [] hP hD hS
  clear hP hD hS
  intro H locs hP hD hS
  unfold f_X_cut at h
  refine lv_iload_n hx hb dX7_cut_0 rfl (lv_at hl 1 rfl) ?_
  refine lv_if_lt (tgt := 12) hx hb dX7_cut_1 (by decide) (fun cz => ?_) (fun cz => ?_)
  · have h := g_t h cz
    refine lv_bipush (v := (-103)) hx hb dX7_cut_12 (by decide) ?_
    have h' := Option.some.inj h
    rw [← hQQ]
    exact W.iret (v := (-103 : Int32)) hx hb hr (fun t ht hW => ⟨⟨(-103 : Int32), (), rfl, by rw [← h'], by rw [← hWQ, ← h', ht]; exact hP, va_K.moved hW.alike hK⟩, hS.F ht⟩) hS.2.2 dX7_cut_14
  · have h := g_f h cz
    refine lv_iload_n hx hb dX7_cut_4 rfl (lv_at hl 1 rfl) ?_
    refine lv_aload_n hx hb dX7_cut_5 rfl (lv_at hl 0 rfl) ?_
    refine va_get (D := (dC, dI)) (ci := 7) (v := .int (iX 1)) (C := RX7) (T := TX7) (N := 9) hx hb hts ki7 hown hK hP 0 rfl rfl 1 (by decide) kf55 (fun _ h9 => h9) rfl dX7_cut_6 ?_
    refine lv_icmp_le (tgt := 15) hx hb dX7_cut_9 (by decide) (fun cz => ?_) (fun cz => ?_)
    · have h := g_t h cz
      refine lv_aload_n hx hb dX7_cut_15 rfl (lv_at hl 0 rfl) ?_
      refine va_get (D := (dC, dI)) (ci := 7) (v := .int (iX 1)) (C := RX7) (T := TX7) (N := 9) hx hb hts ki7 hown hK hP 0 rfl rfl 1 (by decide) kf55 (fun _ h9 => h9) rfl dX7_cut_16 ?_
      refine lv_iload_n hx hb dX7_cut_19 rfl (lv_at hl 1 rfl) ?_
      refine lv_isub hx hb dX7_cut_20 ?_
      refine lv_istore_n (lv' := [(2, .int (((iX 1) - a1))), (0, .ref (ad 0)), (1, .int a1)]) hx hb dX7_cut_21 rfl hl (by decide) rfl (fun ls hl => ?_)
      refine lv_aload_n hx hb dX7_cut_22 rfl (lv_at hl 1 rfl) ?_
      refine lv_iload_n hx hb dX7_cut_23 rfl (lv_at hl 2 rfl) ?_
      refine va_put (D := (dC, dI)) (ci := 7) (v := .int a1) (ty := .int) (C := RX7) (T := TX7) (N := 9) hx hb hts ki7 tyX7 tyX7_ok nmX7 hown hK hP hD hS 0 rfl rfl 1 (by decide) kf55 (fun _ h9 => h9) rfl (by decide +kernel) rfl rfl (Nat.le_of_ble_eq_true rfl) dX7_cut_24 (fun H locs hP hD hS => ?_)
      have hP : va_P (dC, dI) vwCl (zzX ad cy rb rc (ad 4) (ad 11) pb (ad 4) (ad 20) (us iX [(1, a1)]) iR iT wT tx iB lB aB iC aC iD lD aD iE aE iK lK aK iW aW iP aP) H := Eq.mp (congrArg (fun w => va_P (dC, dI) vwCl w H) (sfX_iX1 ad cy rb rc (ad 4) (ad 11) pb (ad 4) (ad 20) iX iR iT wT tx iB lB aB iC aC iD lD aD iE aE iK lK aK iW aW iP aP a1)) hP
      have hD : va_D A (zzX ad cy rb rc (ad 4) (ad 11) pb (ad 4) (ad 20) (us iX [(1, a1)]) iR iT wT tx iB lB aB iC aC iD lD aD iE aE iK lK aK iW aW iP aP) := Eq.mp (congrArg (fun w => va_D A w) (sfX_iX1 ad cy rb rc (ad 4) (ad 11) pb (ad 4) (ad 20) iX iR iT wT tx iB lB aB iC aC iD lD aD iE aE iK lK aK iW aW iP aP a1)) hD
      refine lv_iload_n hx hb dX7_cut_27 rfl (lv_at hl 0 rfl) ?_
      have h' := Option.some.inj h
      rw [← hQQ]
      exact W.iret (v := ((iX 1) - a1)) hx hb hr (fun t ht hW => ⟨⟨((iX 1) - a1), (), rfl, by rw [← h'], by rw [← hWQ, ← h', ht]; exact hP, va_K.moved hW.alike hK⟩, hS.F ht⟩) hS.2.2 dX7_cut_28
    · have h := g_f h cz
      refine lv_bipush (v := (-103)) hx hb dX7_cut_12 (by decide) ?_
      have h' := Option.some.inj h
      rw [← hQQ]
      exact W.iret (v := (-103 : Int32)) hx hb hr (fun t ht hW => ⟨⟨(-103 : Int32), (), rfl, by rw [← h'], by rw [← hWQ, ← h', ht]; exact hP, va_K.moved hW.alike hK⟩, hS.F ht⟩) hS.2.2 dX7_cut_14
set_option maxHeartbeats 8000000 in
set_option maxRecDepth 100000 in
theorem c_C_clear (l : Launch) (dC : Nat → ClassId) (dI : Nat → Nat → Nat) (cy : Nat → ClassId) (ad : Nat → Nat) (sz : Nat) (iC : Nat → Int32) (aC : Nat → Nat → Int32) (q : Int32 × Int32) (h : f_C_clear (iC 4) (iC 9) = some q) : Met l yX1_clear wsX1_clear ({ frames := 0, cells := 0, slots := 0, locals := 0 } : Room) (cP (dC, dI) cy [.ref (ad 0)] (zzC ad cy iC aC) sz) (cQv (dC, dI) cy (zzC ad cy (us iC [(4, q.1), (9, q.2)]) aC) (va_A (zzC ad cy iC aC) sz)) 0 0 (va_A (zzC ad cy iC aC) sz) := by
  refine Met.ofW (cc := cX1_clear) (maxL := 1) (ret := none) (by decide) rfl ?_
  intro p e s m args below meth c s₁ B hml hv
  obtain ⟨hav, hsz, hP, hK, hD0, hN⟩ := hv
  have hx := B.exec
  have hb := B.bytes
  have hr := B.returns
  have hts := atoms_spec (ws := wsX1_clear) B.pre
  have hown : s.vm.findClass RX1 = some m.cls := findClass_of_methodNamed B.named
  have hlocks := B.notSynchronized
  subst hsz
  have hD := hD0.self (sz := s.heap.size)
  generalize hAe : va_A (zzC ad cy iC aC) s.heap.size = A at hD ⊢
  have hA : ∀ q : Nat, s.heap.size ≤ q → A q := fun q h => by rw [← hAe]; exact Or.inr h
  have hS : va_S A s.heap s.heap [] := va_S.rf
  generalize hWQ : (zzC ad cy (us iC [(4, q.1), (9, q.2)]) aC) = WQ
  generalize hQQ : MQ below (cQv (dC, dI) cy WQ A) args s 0 0 A = QQ
  have hl := lv_entry ([.ref (ad 0)] : List Value) (n := 1) (Nat.le_of_ble_eq_true rfl)
  have hfr := lg_entry_eq m ([.ref (ad 0)] : List Value) 1
  rw [← hav] at hfr
  rw [hfr]
  clear hfr hav
  generalize (lg_sl ([.ref (ad 0)] : List Value) ++ List.replicate (1 - (lg_sl ([.ref (ad 0)] : List Value)).length) Slot.unset).toArray = ls at hl ⊢
  have hl : lv_has ls 1 [(0, .ref (ad 0))] := hl
  have kf36 := hts _ (List.mem_cons_of_mem _ m_fl_X1_36)
  have ki1 := (fun w h => List.mem_cons_of_mem _ (i_X1 w h) : ∀ w ∈ u_ws RX1 TX1 10, w ∈ wsX1_clear)
  have kf40 := hts _ (List.mem_cons_of_mem _ m_fl_X1_40)
  refine (?_ : ∀ (H : Heap) (locs : List Loc), va_P (dC, dI) vwCl (zzC ad cy iC aC) H → va_D A (zzC ad cy iC aC) → va_S A s.heap H locs → W p l e ({ frames := 0, cells := 0, slots := 0, locals := 0 } : Room) s m args below meth c H locs 0 0 QQ (F0 m 0 ls [])) s.heap [] hP hD hS
  clear hP hD hS
  intro H locs hP hD hS
  unfold f_C_clear at h
  refine lv_aload_n hx hb dX1_clear_0 rfl (lv_at hl 0 rfl) ?_
  refine lv_iconst (v := 0) hx hb dX1_clear_1 (by decide) ?_
  refine va_put (D := (dC, dI)) (ci := 1) (v := .int ((0 : Int32))) (ty := .int) (C := RX1) (T := TX1) (N := 10) hx hb hts ki1 tyX1 tyX1_ok nmX1 hown hK hP hD hS 0 rfl rfl 4 (by decide) kf36 (fun _ h9 => h9) rfl (by decide +kernel) rfl rfl (Nat.le_of_ble_eq_true rfl) dX1_clear_2 (fun H locs hP hD hS => ?_)
  have hP : va_P (dC, dI) vwCl (zzC ad cy (us iC [(4, (0 : Int32))]) aC) H := Eq.mp (congrArg (fun w => va_P (dC, dI) vwCl w H) (sfC_iC4 ad cy iC aC ((0 : Int32)))) hP
  have hD : va_D A (zzC ad cy (us iC [(4, (0 : Int32))]) aC) := Eq.mp (congrArg (fun w => va_D A w) (sfC_iC4 ad cy iC aC ((0 : Int32)))) hD
  refine lv_aload_n hx hb dX1_clear_5 rfl (lv_at hl 0 rfl) ?_
  refine lv_iconst (v := 0) hx hb dX1_clear_6 (by decide) ?_
  refine va_put (D := (dC, dI)) (ci := 1) (v := .int ((0 : Int32))) (ty := .int) (C := RX1) (T := TX1) (N := 10) hx hb hts ki1 tyX1 tyX1_ok nmX1 hown hK hP hD hS 0 rfl rfl 9 (by decide) kf40 (fun _ h9 => h9) rfl (by decide +kernel) rfl rfl (Nat.le_of_ble_eq_true rfl) dX1_clear_7 (fun H locs hP hD hS => ?_)
  have hP : va_P (dC, dI) vwCl (zzC ad cy (us iC [(4, (0 : Int32)), (9, (0 : Int32))]) aC) H := Eq.mp (congrArg (fun w => va_P (dC, dI) vwCl w H) (stC_iC9 ad cy iC aC [(4, (0 : Int32))] ((0 : Int32)))) hP
  have hD : va_D A (zzC ad cy (us iC [(4, (0 : Int32)), (9, (0 : Int32))]) aC) := Eq.mp (congrArg (fun w => va_D A w) (stC_iC9 ad cy iC aC [(4, (0 : Int32))] ((0 : Int32)))) hD
  have h' := Option.some.inj h
  rw [← hQQ]
  exact W.vret hx hb hr (fun t ht hW => ⟨⟨(), rfl, trivial, by rw [← hWQ, ← h', ht]; exact hP, va_K.moved hW.alike hK⟩, hS.F ht⟩) hS.2.2 dX1_clear_10
set_option maxHeartbeats 8000000 in
set_option maxRecDepth 100000 in
theorem c_B_clear (l : Launch) (dC : Nat → ClassId) (dI : Nat → Nat → Nat) (cy : Nat → ClassId) (ad : Nat → Nat) (sz : Nat) (N : Nat) (iB : Nat → Int32) (lB : Nat → Nat → Int64) (aB : Nat → Nat → Int32) (iC : Nat → Int32) (aC : Nat → Nat → Int32) (q : Int32 × Int32 × Int32 × Int32 × Int32 × Int32 × Int32 × Int32 × (Nat → Int32) × Int32 × Int32) (h : f_B_clear N (iB 1) (iB 3) (iB 5) (iB 7) (iB 9) (iB 11) (iB 13) (iB 14) (aB 12) (iC 4) (iC 9) = some q) : Met l yX0_clear wsX0_clear ({ frames := 1, cells := 0, slots := 0, locals := 20 } : Room) (cP (dC, dI) cy [.ref (ad 0)] (zzB ad cy iB lB aB iC aC) sz) (cQv (dC, dI) cy (zzB ad cy (us iB [(1, q.1), (3, q.2.1), (5, q.2.2.1), (7, q.2.2.2.1), (9, q.2.2.2.2.1), (11, q.2.2.2.2.2.1), (13, q.2.2.2.2.2.2.1), (14, q.2.2.2.2.2.2.2.1)]) lB (us aB [(12, q.2.2.2.2.2.2.2.2.1)]) (us iC [(4, q.2.2.2.2.2.2.2.2.2.1), (9, q.2.2.2.2.2.2.2.2.2.2)]) aC) (va_A (zzB ad cy iB lB aB iC aC) sz)) 0 0 (va_A (zzB ad cy iB lB aB iC aC) sz) := by
  refine Met.ofW (cc := cX0_clear) (maxL := 2) (ret := none) (by decide) rfl ?_
  intro p e s m args below meth c s₁ B hml hv
  obtain ⟨hav, hsz, hP, hK, hD0, hN⟩ := hv
  have hx := B.exec
  have hb := B.bytes
  have hr := B.returns
  have hts := atoms_spec (ws := wsX0_clear) B.pre
  have hown : s.vm.findClass RX0 = some m.cls := findClass_of_methodNamed B.named
  have hlocks := B.notSynchronized
  subst hsz
  have hD := hD0.self (sz := s.heap.size)
  generalize hAe : va_A (zzB ad cy iB lB aB iC aC) s.heap.size = A at hD ⊢
  have hA : ∀ q : Nat, s.heap.size ≤ q → A q := fun q h => by rw [← hAe]; exact Or.inr h
  have hS : va_S A s.heap s.heap [] := va_S.rf
  generalize hWQ : (zzB ad cy (us iB [(1, q.1), (3, q.2.1), (5, q.2.2.1), (7, q.2.2.2.1), (9, q.2.2.2.2.1), (11, q.2.2.2.2.2.1), (13, q.2.2.2.2.2.2.1), (14, q.2.2.2.2.2.2.2.1)]) lB (us aB [(12, q.2.2.2.2.2.2.2.2.1)]) (us iC [(4, q.2.2.2.2.2.2.2.2.2.1), (9, q.2.2.2.2.2.2.2.2.2.2)]) aC) = WQ
  generalize hQQ : MQ below (cQv (dC, dI) cy WQ A) args s 0 0 A = QQ
  have hl := lv_entry ([.ref (ad 0)] : List Value) (n := 2) (Nat.le_of_ble_eq_true rfl)
  have hfr := lg_entry_eq m ([.ref (ad 0)] : List Value) 2
  rw [← hav] at hfr
  rw [hfr]
  clear hfr hav
  generalize (lg_sl ([.ref (ad 0)] : List Value) ++ List.replicate (2 - (lg_sl ([.ref (ad 0)] : List Value)).length) Slot.unset).toArray = ls at hl ⊢
  have hl : lv_has ls 2 [(0, .ref (ad 0))] := hl
  have kf60 := hts _ (List.mem_cons_of_mem _ m_fl_X0_60)
  have ki0 := (fun w h => List.mem_cons_of_mem _ (i_X0 w h) : ∀ w ∈ u_ws RX0 TX0 15, w ∈ wsX0_clear)
  have kf63 := hts _ (List.mem_cons_of_mem _ m_fl_X0_63)
  have kf35 := hts _ (List.mem_cons_of_mem _ m_fl_X0_35)
  have kf12 := hts _ (List.mem_cons_of_mem _ m_fl_X0_12)
  have kf41 := hts _ (List.mem_cons_of_mem _ m_fl_X0_41)
  have kf45 := hts _ (List.mem_cons_of_mem _ m_fl_X0_45)
  have kf48 := hts _ (List.mem_cons_of_mem _ m_fl_X0_48)
  have kf51 := hts _ (List.mem_cons_of_mem _ m_fl_X0_51)
  have kf54 := hts _ (List.mem_cons_of_mem _ m_fl_X0_54)
  have kf57 := hts _ (List.mem_cons_of_mem _ m_fl_X0_57)
  refine (?_ : ∀ (H : Heap) (locs : List Loc), va_P (dC, dI) vwCl (zzB ad cy iB lB aB iC aC) H → va_D A (zzB ad cy iB lB aB iC aC) → va_S A s.heap H locs → W p l e ({ frames := 1, cells := 0, slots := 0, locals := 20 } : Room) s m args below meth c H locs 0 0 QQ (F0 m 0 ls [])) s.heap [] hP hD hS
  clear hP hD hS
  have B39 : ∀ (n : Nat) (x_iB1 : Int32) (x_iB3 : Int32) (x_iB5 : Int32) (x_iB7 : Int32) (x_iB9 : Int32) (x_iB11 : Int32) (x_iC4 : Int32) (x_iC9 : Int32) (v1 : Int32) (x_aB12 : Nat → Int32) (H : Heap) (locs : List Loc) (ls : Array Slot), f_B_clear_39 N (iB 1) (iB 3) (iB 5) (iB 7) (iB 9) (iB 11) (iB 13) (iB 14) (aB 12) (iC 4) (iC 9) x_iB1 x_iB3 x_iB5 x_iB7 x_iB9 x_iB11 x_iC4 x_iC9 n v1 x_aB12 = some q → va_P (dC, dI) vwCl (zzB ad cy (us iB [(1, x_iB1), (3, x_iB3), (5, x_iB5), (7, x_iB7), (9, x_iB9), (11, x_iB11)]) lB (us aB [(12, x_aB12)]) (us iC [(4, x_iC4), (9, x_iC9)]) aC) H → va_D A (zzB ad cy (us iB [(1, x_iB1), (3, x_iB3), (5, x_iB5), (7, x_iB7), (9, x_iB9), (11, x_iB11)]) lB (us aB [(12, x_aB12)]) (us iC [(4, x_iC4), (9, x_iC9)]) aC) → va_S A s.heap H locs → lv_has ls 2 [(0, .ref (ad 0)), (1, .int v1)] → W p l e ({ frames := 1, cells := 0, slots := 0, locals := 20 } : Room) s m args below meth c H locs 0 0 QQ (F0 m 39 ls []) := by
    intro n
    induction n with
    | zero =>
      intro x_iB1 x_iB3 x_iB5 x_iB7 x_iB9 x_iB11 x_iC4 x_iC9 v1 x_aB12 H locs ls h hP hD hS hl
      rw [f_B_clear_39] at h
      cases h
    | succ n ih =>
      intro x_iB1 x_iB3 x_iB5 x_iB7 x_iB9 x_iB11 x_iC4 x_iC9 v1 x_aB12 H locs ls h hP hD hS hl
      rw [f_B_clear_39] at h
      refine lv_iload_n hx hb dX0_clear_39 rfl (lv_at hl 1 rfl) ?_
      refine lv_iconst (v := 3) hx hb dX0_clear_40 (by decide) ?_
      refine lv_icmp_ge (tgt := 57) hx hb dX0_clear_41 (by decide) (fun cz => ?_) (fun cz => ?_)
      · have h := g_t h cz
        refine lv_aload_n hx hb dX0_clear_57 rfl (lv_at hl 0 rfl) ?_
        refine lv_iconst (v := 0) hx hb dX0_clear_58 (by decide) ?_
        refine va_put (D := (dC, dI)) (ci := 0) (v := .int ((0 : Int32))) (ty := .int) (C := RX0) (T := TX0) (N := 15) hx hb hts ki0 tyX0 tyX0_ok nmX0 hown hK hP hD hS 0 rfl rfl 13 (by decide) kf60 (fun _ h9 => h9) rfl (by decide +kernel) rfl rfl (Nat.le_of_ble_eq_true rfl) dX0_clear_59 (fun H locs hP hD hS => ?_)
        have hP : va_P (dC, dI) vwCl (zzB ad cy (us iB [(1, x_iB1), (3, x_iB3), (5, x_iB5), (7, x_iB7), (9, x_iB9), (11, x_iB11), (13, (0 : Int32))]) lB (us aB [(12, x_aB12)]) (us iC [(4, x_iC4), (9, x_iC9)]) aC) H := Eq.mp (congrArg (fun w => va_P (dC, dI) vwCl w H) (stB_iB13 ad cy iB lB (us aB [(12, x_aB12)]) (us iC [(4, x_iC4), (9, x_iC9)]) aC [(1, x_iB1), (3, x_iB3), (5, x_iB5), (7, x_iB7), (9, x_iB9), (11, x_iB11)] ((0 : Int32)))) hP
        have hD : va_D A (zzB ad cy (us iB [(1, x_iB1), (3, x_iB3), (5, x_iB5), (7, x_iB7), (9, x_iB9), (11, x_iB11), (13, (0 : Int32))]) lB (us aB [(12, x_aB12)]) (us iC [(4, x_iC4), (9, x_iC9)]) aC) := Eq.mp (congrArg (fun w => va_D A w) (stB_iB13 ad cy iB lB (us aB [(12, x_aB12)]) (us iC [(4, x_iC4), (9, x_iC9)]) aC [(1, x_iB1), (3, x_iB3), (5, x_iB5), (7, x_iB7), (9, x_iB9), (11, x_iB11)] ((0 : Int32)))) hD
        refine lv_aload_n hx hb dX0_clear_62 rfl (lv_at hl 0 rfl) ?_
        refine lv_iconst (v := 0) hx hb dX0_clear_63 (by decide) ?_
        refine va_put (D := (dC, dI)) (ci := 0) (v := .int ((0 : Int32))) (ty := .int) (C := RX0) (T := TX0) (N := 15) hx hb hts ki0 tyX0 tyX0_ok nmX0 hown hK hP hD hS 0 rfl rfl 14 (by decide) kf63 (fun _ h9 => h9) rfl (by decide +kernel) rfl rfl (Nat.le_of_ble_eq_true rfl) dX0_clear_64 (fun H locs hP hD hS => ?_)
        have hP : va_P (dC, dI) vwCl (zzB ad cy (us iB [(1, x_iB1), (3, x_iB3), (5, x_iB5), (7, x_iB7), (9, x_iB9), (11, x_iB11), (13, (0 : Int32)), (14, (0 : Int32))]) lB (us aB [(12, x_aB12)]) (us iC [(4, x_iC4), (9, x_iC9)]) aC) H := Eq.mp (congrArg (fun w => va_P (dC, dI) vwCl w H) (stB_iB14 ad cy iB lB (us aB [(12, x_aB12)]) (us iC [(4, x_iC4), (9, x_iC9)]) aC [(1, x_iB1), (3, x_iB3), (5, x_iB5), (7, x_iB7), (9, x_iB9), (11, x_iB11), (13, (0 : Int32))] ((0 : Int32)))) hP
        have hD : va_D A (zzB ad cy (us iB [(1, x_iB1), (3, x_iB3), (5, x_iB5), (7, x_iB7), (9, x_iB9), (11, x_iB11), (13, (0 : Int32)), (14, (0 : Int32))]) lB (us aB [(12, x_aB12)]) (us iC [(4, x_iC4), (9, x_iC9)]) aC) := Eq.mp (congrArg (fun w => va_D A w) (stB_iB14 ad cy iB lB (us aB [(12, x_aB12)]) (us iC [(4, x_iC4), (9, x_iC9)]) aC [(1, x_iB1), (3, x_iB3), (5, x_iB5), (7, x_iB7), (9, x_iB9), (11, x_iB11), (13, (0 : Int32))] ((0 : Int32)))) hD
        have h' := Option.some.inj h
        rw [← hQQ]
        exact W.vret hx hb hr (fun t ht hW => ⟨⟨(), rfl, trivial, by rw [← hWQ, ← h', ht]; exact hP, va_K.moved hW.alike hK⟩, hS.F ht⟩) hS.2.2 dX0_clear_67
      · have h := g_f h cz
        refine lv_aload_n hx hb dX0_clear_44 rfl (lv_at hl 0 rfl) ?_
        refine va_get (D := (dC, dI)) (ci := 0) (v := .ref (ad 6)) (C := RX0) (T := TX0) (N := 15) hx hb hts ki0 hown hK hP 0 rfl rfl 12 (by decide) kf35 (fun _ h9 => h9) rfl dX0_clear_45 ?_
        refine lv_iload_n hx hb dX0_clear_48 rfl (lv_at hl 1 rfl) ?_
        refine lv_iconst (v := 0) hx hb dX0_clear_49 (by decide) ?_
        obtain ⟨g_1, h⟩ := g_n h
        refine va_iast (f := x_aB12) hx hb hK hP hD hS 6 0 rfl rfl g_1 dX0_clear_50 (fun H locs hP hD hS => ?_)
        have hP : va_P (dC, dI) vwCl (zzB ad cy (us iB [(1, x_iB1), (3, x_iB3), (5, x_iB5), (7, x_iB7), (9, x_iB9), (11, x_iB11)]) lB (us aB [(12, (upd x_aB12 v1.toNatClampNeg ((0 : Int32))))]) (us iC [(4, x_iC4), (9, x_iC9)]) aC) H := Eq.mp (congrArg (fun w => va_P (dC, dI) vwCl w H) (stB_aB12 ad cy (us iB [(1, x_iB1), (3, x_iB3), (5, x_iB5), (7, x_iB7), (9, x_iB9), (11, x_iB11)]) lB aB (us iC [(4, x_iC4), (9, x_iC9)]) aC [(12, x_aB12)] ((upd x_aB12 v1.toNatClampNeg ((0 : Int32)))))) hP
        have hD : va_D A (zzB ad cy (us iB [(1, x_iB1), (3, x_iB3), (5, x_iB5), (7, x_iB7), (9, x_iB9), (11, x_iB11)]) lB (us aB [(12, (upd x_aB12 v1.toNatClampNeg ((0 : Int32))))]) (us iC [(4, x_iC4), (9, x_iC9)]) aC) := Eq.mp (congrArg (fun w => va_D A w) (stB_aB12 ad cy (us iB [(1, x_iB1), (3, x_iB3), (5, x_iB5), (7, x_iB7), (9, x_iB9), (11, x_iB11)]) lB aB (us iC [(4, x_iC4), (9, x_iC9)]) aC [(12, x_aB12)] ((upd x_aB12 v1.toNatClampNeg ((0 : Int32)))))) hD
        refine lv_iinc (v := (v1 + (1 : Int32))) (lv' := [(1, .int ((v1 + (1 : Int32)))), (0, .ref (ad 0))]) hx hb dX0_clear_51 hl (k := 1) rfl rfl (by decide) rfl (fun ls hl => ?_)
        refine lv_goto (tgt := 39) hx hb dX0_clear_54 (by decide) ?_
        exact ih x_iB1 x_iB3 x_iB5 x_iB7 x_iB9 x_iB11 x_iC4 x_iC9 ((v1 + (1 : Int32))) ((upd x_aB12 v1.toNatClampNeg ((0 : Int32)))) H locs ls h hP hD hS (lv_sub hl [1, 0] rfl)
  intro H locs hP hD hS
  unfold f_B_clear at h
  refine lv_aload_n hx hb dX0_clear_0 rfl (lv_at hl 0 rfl) ?_
  refine va_get (D := (dC, dI)) (ci := 0) (v := .ref (ad 7)) (C := RX0) (T := TX0) (N := 15) hx hb hts ki0 hown hK hP 0 rfl rfl 0 (by decide) kf12 (fun _ h9 => h9) rfl dX0_clear_1 ?_
  obtain ⟨q4, e4, h⟩ := g_b h
  refine callVv (cc := cX0_clear) (ws' := zzB ad cy iB lB aB (us iC [(4, q4.1), (9, q4.2)]) aC) (As := []) (rest := []) ⟨hx, hb, hml, hown, hts⟩ (c_C_clear l dC dI cy (fun i => ad (i + 7)) H.size iC aC q4 e4) (cwV 0 hts (goodV m_ml_X0_38 m_im_X1_clear m_se_X1_clear m_in_X1 m_cd_X1_clear) rfl rfl rfl (by decide +kernel) ⟨Nat.le_of_ble_eq_true rfl, Nat.le_of_ble_eq_true rfl⟩) hN hK hP hD hS hA [7, 8, 9, 10, 11, 12, 13, 14, 15] [none, none, none, none, none, none, none, some 0, some 1, some 2, some 3, some 4, some 5, some 6, some 7, some 8] rfl rfl rfl rfl rfl rfl 7 rfl rfl rfl hl.1 rfl (Nat.le_of_ble_eq_true rfl) dX0_clear_4 ⟨Nat.zero_le _, Nat.zero_le _⟩ (fun H locs hP hD hS => ?_)
  refine lv_aload_n hx hb dX0_clear_7 rfl (lv_at hl 0 rfl) ?_
  refine lv_iconst (v := 0) hx hb dX0_clear_8 (by decide) ?_
  refine va_put (D := (dC, dI)) (ci := 0) (v := .int ((0 : Int32))) (ty := .int) (C := RX0) (T := TX0) (N := 15) hx hb hts ki0 tyX0 tyX0_ok nmX0 hown hK hP hD hS 0 rfl rfl 1 (by decide) kf41 (fun _ h9 => h9) rfl (by decide +kernel) rfl rfl (Nat.le_of_ble_eq_true rfl) dX0_clear_9 (fun H locs hP hD hS => ?_)
  have hP : va_P (dC, dI) vwCl (zzB ad cy (us iB [(1, (0 : Int32))]) lB aB (us iC [(4, q4.1), (9, q4.2)]) aC) H := Eq.mp (congrArg (fun w => va_P (dC, dI) vwCl w H) (sfB_iB1 ad cy iB lB aB (us iC [(4, q4.1), (9, q4.2)]) aC ((0 : Int32)))) hP
  have hD : va_D A (zzB ad cy (us iB [(1, (0 : Int32))]) lB aB (us iC [(4, q4.1), (9, q4.2)]) aC) := Eq.mp (congrArg (fun w => va_D A w) (sfB_iB1 ad cy iB lB aB (us iC [(4, q4.1), (9, q4.2)]) aC ((0 : Int32)))) hD
  refine lv_aload_n hx hb dX0_clear_12 rfl (lv_at hl 0 rfl) ?_
  refine lv_iconst (v := 0) hx hb dX0_clear_13 (by decide) ?_
  refine va_put (D := (dC, dI)) (ci := 0) (v := .int ((0 : Int32))) (ty := .int) (C := RX0) (T := TX0) (N := 15) hx hb hts ki0 tyX0 tyX0_ok nmX0 hown hK hP hD hS 0 rfl rfl 3 (by decide) kf45 (fun _ h9 => h9) rfl (by decide +kernel) rfl rfl (Nat.le_of_ble_eq_true rfl) dX0_clear_14 (fun H locs hP hD hS => ?_)
  have hP : va_P (dC, dI) vwCl (zzB ad cy (us iB [(1, (0 : Int32)), (3, (0 : Int32))]) lB aB (us iC [(4, q4.1), (9, q4.2)]) aC) H := Eq.mp (congrArg (fun w => va_P (dC, dI) vwCl w H) (stB_iB3 ad cy iB lB aB (us iC [(4, q4.1), (9, q4.2)]) aC [(1, (0 : Int32))] ((0 : Int32)))) hP
  have hD : va_D A (zzB ad cy (us iB [(1, (0 : Int32)), (3, (0 : Int32))]) lB aB (us iC [(4, q4.1), (9, q4.2)]) aC) := Eq.mp (congrArg (fun w => va_D A w) (stB_iB3 ad cy iB lB aB (us iC [(4, q4.1), (9, q4.2)]) aC [(1, (0 : Int32))] ((0 : Int32)))) hD
  refine lv_aload_n hx hb dX0_clear_17 rfl (lv_at hl 0 rfl) ?_
  refine lv_iconst (v := 0) hx hb dX0_clear_18 (by decide) ?_
  refine va_put (D := (dC, dI)) (ci := 0) (v := .int ((0 : Int32))) (ty := .int) (C := RX0) (T := TX0) (N := 15) hx hb hts ki0 tyX0 tyX0_ok nmX0 hown hK hP hD hS 0 rfl rfl 5 (by decide) kf48 (fun _ h9 => h9) rfl (by decide +kernel) rfl rfl (Nat.le_of_ble_eq_true rfl) dX0_clear_19 (fun H locs hP hD hS => ?_)
  have hP : va_P (dC, dI) vwCl (zzB ad cy (us iB [(1, (0 : Int32)), (3, (0 : Int32)), (5, (0 : Int32))]) lB aB (us iC [(4, q4.1), (9, q4.2)]) aC) H := Eq.mp (congrArg (fun w => va_P (dC, dI) vwCl w H) (stB_iB5 ad cy iB lB aB (us iC [(4, q4.1), (9, q4.2)]) aC [(1, (0 : Int32)), (3, (0 : Int32))] ((0 : Int32)))) hP
  have hD : va_D A (zzB ad cy (us iB [(1, (0 : Int32)), (3, (0 : Int32)), (5, (0 : Int32))]) lB aB (us iC [(4, q4.1), (9, q4.2)]) aC) := Eq.mp (congrArg (fun w => va_D A w) (stB_iB5 ad cy iB lB aB (us iC [(4, q4.1), (9, q4.2)]) aC [(1, (0 : Int32)), (3, (0 : Int32))] ((0 : Int32)))) hD
  refine lv_aload_n hx hb dX0_clear_22 rfl (lv_at hl 0 rfl) ?_
  refine lv_iconst (v := 0) hx hb dX0_clear_23 (by decide) ?_
  refine va_put (D := (dC, dI)) (ci := 0) (v := .int ((0 : Int32))) (ty := .int) (C := RX0) (T := TX0) (N := 15) hx hb hts ki0 tyX0 tyX0_ok nmX0 hown hK hP hD hS 0 rfl rfl 7 (by decide) kf51 (fun _ h9 => h9) rfl (by decide +kernel) rfl rfl (Nat.le_of_ble_eq_true rfl) dX0_clear_24 (fun H locs hP hD hS => ?_)
  have hP : va_P (dC, dI) vwCl (zzB ad cy (us iB [(1, (0 : Int32)), (3, (0 : Int32)), (5, (0 : Int32)), (7, (0 : Int32))]) lB aB (us iC [(4, q4.1), (9, q4.2)]) aC) H := Eq.mp (congrArg (fun w => va_P (dC, dI) vwCl w H) (stB_iB7 ad cy iB lB aB (us iC [(4, q4.1), (9, q4.2)]) aC [(1, (0 : Int32)), (3, (0 : Int32)), (5, (0 : Int32))] ((0 : Int32)))) hP
  have hD : va_D A (zzB ad cy (us iB [(1, (0 : Int32)), (3, (0 : Int32)), (5, (0 : Int32)), (7, (0 : Int32))]) lB aB (us iC [(4, q4.1), (9, q4.2)]) aC) := Eq.mp (congrArg (fun w => va_D A w) (stB_iB7 ad cy iB lB aB (us iC [(4, q4.1), (9, q4.2)]) aC [(1, (0 : Int32)), (3, (0 : Int32)), (5, (0 : Int32))] ((0 : Int32)))) hD
  refine lv_aload_n hx hb dX0_clear_27 rfl (lv_at hl 0 rfl) ?_
  refine lv_iconst (v := 0) hx hb dX0_clear_28 (by decide) ?_
  refine va_put (D := (dC, dI)) (ci := 0) (v := .int ((0 : Int32))) (ty := .int) (C := RX0) (T := TX0) (N := 15) hx hb hts ki0 tyX0 tyX0_ok nmX0 hown hK hP hD hS 0 rfl rfl 9 (by decide) kf54 (fun _ h9 => h9) rfl (by decide +kernel) rfl rfl (Nat.le_of_ble_eq_true rfl) dX0_clear_29 (fun H locs hP hD hS => ?_)
  have hP : va_P (dC, dI) vwCl (zzB ad cy (us iB [(1, (0 : Int32)), (3, (0 : Int32)), (5, (0 : Int32)), (7, (0 : Int32)), (9, (0 : Int32))]) lB aB (us iC [(4, q4.1), (9, q4.2)]) aC) H := Eq.mp (congrArg (fun w => va_P (dC, dI) vwCl w H) (stB_iB9 ad cy iB lB aB (us iC [(4, q4.1), (9, q4.2)]) aC [(1, (0 : Int32)), (3, (0 : Int32)), (5, (0 : Int32)), (7, (0 : Int32))] ((0 : Int32)))) hP
  have hD : va_D A (zzB ad cy (us iB [(1, (0 : Int32)), (3, (0 : Int32)), (5, (0 : Int32)), (7, (0 : Int32)), (9, (0 : Int32))]) lB aB (us iC [(4, q4.1), (9, q4.2)]) aC) := Eq.mp (congrArg (fun w => va_D A w) (stB_iB9 ad cy iB lB aB (us iC [(4, q4.1), (9, q4.2)]) aC [(1, (0 : Int32)), (3, (0 : Int32)), (5, (0 : Int32)), (7, (0 : Int32))] ((0 : Int32)))) hD
  refine lv_aload_n hx hb dX0_clear_32 rfl (lv_at hl 0 rfl) ?_
  refine lv_iconst (v := 0) hx hb dX0_clear_33 (by decide) ?_
  refine va_put (D := (dC, dI)) (ci := 0) (v := .int ((0 : Int32))) (ty := .int) (C := RX0) (T := TX0) (N := 15) hx hb hts ki0 tyX0 tyX0_ok nmX0 hown hK hP hD hS 0 rfl rfl 11 (by decide) kf57 (fun _ h9 => h9) rfl (by decide +kernel) rfl rfl (Nat.le_of_ble_eq_true rfl) dX0_clear_34 (fun H locs hP hD hS => ?_)
  have hP : va_P (dC, dI) vwCl (zzB ad cy (us iB [(1, (0 : Int32)), (3, (0 : Int32)), (5, (0 : Int32)), (7, (0 : Int32)), (9, (0 : Int32)), (11, (0 : Int32))]) lB aB (us iC [(4, q4.1), (9, q4.2)]) aC) H := Eq.mp (congrArg (fun w => va_P (dC, dI) vwCl w H) (stB_iB11 ad cy iB lB aB (us iC [(4, q4.1), (9, q4.2)]) aC [(1, (0 : Int32)), (3, (0 : Int32)), (5, (0 : Int32)), (7, (0 : Int32)), (9, (0 : Int32))] ((0 : Int32)))) hP
  have hD : va_D A (zzB ad cy (us iB [(1, (0 : Int32)), (3, (0 : Int32)), (5, (0 : Int32)), (7, (0 : Int32)), (9, (0 : Int32)), (11, (0 : Int32))]) lB aB (us iC [(4, q4.1), (9, q4.2)]) aC) := Eq.mp (congrArg (fun w => va_D A w) (stB_iB11 ad cy iB lB aB (us iC [(4, q4.1), (9, q4.2)]) aC [(1, (0 : Int32)), (3, (0 : Int32)), (5, (0 : Int32)), (7, (0 : Int32)), (9, (0 : Int32))] ((0 : Int32)))) hD
  refine lv_iconst (v := 0) hx hb dX0_clear_37 (by decide) ?_
  refine lv_istore_n (lv' := [(1, .int ((0 : Int32))), (0, .ref (ad 0))]) hx hb dX0_clear_38 rfl hl (by decide) rfl (fun ls hl => ?_)
  exact B39 N ((0 : Int32)) ((0 : Int32)) ((0 : Int32)) ((0 : Int32)) ((0 : Int32)) ((0 : Int32)) q4.1 q4.2 ((0 : Int32)) (aB 12) H locs ls h hP hD hS (lv_sub hl [1, 0] rfl)
set_option maxHeartbeats 8000000 in
set_option maxRecDepth 100000 in
theorem c_T_skipBlanks (l : Launch) (dC : Nat → ClassId) (dI : Nat → Nat → Nat) (cy : Nat → ClassId) (ad : Nat → Nat) (sz : Nat) (N : Nat) (iT : Nat → Int32) (wT : Int64) (tx : Nat → Int32) (q : Int32) (h : f_T_skipBlanks N (iT 1) (iT 2) tx = some q) : Met l yX5_skipBlanks wsX5_skipBlanks ({ frames := 0, cells := 0, slots := 0, locals := 0 } : Room) (cP (dC, dI) cy [.ref (ad 0)] (zzT ad cy iT wT tx) sz) (cQv (dC, dI) cy (zzT ad cy (us iT [(2, q)]) wT tx) (va_A (zzT ad cy iT wT tx) sz)) 0 0 (va_A (zzT ad cy iT wT tx) sz) := by
  refine Met.ofW (cc := cX5_skipBlanks) (maxL := 1) (ret := none) (by decide) rfl ?_
  intro p e s m args below meth c s₁ B hml hv
  obtain ⟨hav, hsz, hP, hK, hD0, hN⟩ := hv
  have hx := B.exec
  have hb := B.bytes
  have hr := B.returns
  have hts := atoms_spec (ws := wsX5_skipBlanks) B.pre
  have hown : s.vm.findClass RX5 = some m.cls := findClass_of_methodNamed B.named
  have hlocks := B.notSynchronized
  subst hsz
  have hD := hD0.self (sz := s.heap.size)
  generalize hAe : va_A (zzT ad cy iT wT tx) s.heap.size = A at hD ⊢
  have hA : ∀ q : Nat, s.heap.size ≤ q → A q := fun q h => by rw [← hAe]; exact Or.inr h
  have hS : va_S A s.heap s.heap [] := va_S.rf
  generalize hWQ : (zzT ad cy (us iT [(2, q)]) wT tx) = WQ
  generalize hQQ : MQ below (cQv (dC, dI) cy WQ A) args s 0 0 A = QQ
  have hl := lv_entry ([.ref (ad 0)] : List Value) (n := 1) (Nat.le_of_ble_eq_true rfl)
  have hfr := lg_entry_eq m ([.ref (ad 0)] : List Value) 1
  rw [← hav] at hfr
  rw [hfr]
  clear hfr hav
  generalize (lg_sl ([.ref (ad 0)] : List Value) ++ List.replicate (1 - (lg_sl ([.ref (ad 0)] : List Value)).length) Slot.unset).toArray = ls at hl ⊢
  have hl : lv_has ls 1 [(0, .ref (ad 0))] := hl
  have kf25 := hts _ (List.mem_cons_of_mem _ m_fl_X5_25)
  have ki5 := (fun w h => List.mem_cons_of_mem _ (i_X5 w h) : ∀ w ∈ u_ws RX5 TX5 6, w ∈ wsX5_skipBlanks)
  have kf21 := hts _ (List.mem_cons_of_mem _ m_fl_X5_21)
  have kf9 := hts _ (List.mem_cons_of_mem _ m_fl_X5_9)
  refine (?_ : ∀ (H : Heap) (locs : List Loc), va_P (dC, dI) vwCl (zzT ad cy iT wT tx) H → va_D A (zzT ad cy iT wT tx) → va_S A s.heap H locs → W p l e ({ frames := 0, cells := 0, slots := 0, locals := 0 } : Room) s m args below meth c H locs 0 0 QQ (F0 m 0 ls [])) s.heap [] hP hD hS
  clear hP hD hS
  have B39 : ∀ (x_iT2 : Int32) (k0 : Int32 → Option Int32) (hk0 : ∀ (x_iT2' : Int32) (H : Heap) (locs : List Loc) (ls : Array Slot), k0 x_iT2' = some q → va_P (dC, dI) vwCl (zzT ad cy (us iT [(2, x_iT2')]) wT tx) H → va_D A (zzT ad cy (us iT [(2, x_iT2')]) wT tx) → va_S A s.heap H locs → lv_has ls 1 [(0, .ref (ad 0))] → W p l e ({ frames := 0, cells := 0, slots := 0, locals := 0 } : Room) s m args below meth c H locs 0 0 QQ (F0 m 0 ls [])) (H : Heap) (locs : List Loc) (ls : Array Slot), f_T_skipBlanks_39 N (iT 1) (iT 2) tx k0 x_iT2 = some q → va_P (dC, dI) vwCl (zzT ad cy (us iT [(2, x_iT2)]) wT tx) H → va_D A (zzT ad cy (us iT [(2, x_iT2)]) wT tx) → va_S A s.heap H locs → lv_has ls 1 [(0, .ref (ad 0))] → W p l e ({ frames := 0, cells := 0, slots := 0, locals := 0 } : Room) s m args below meth c H locs 0 0 QQ (F0 m 39 ls []) := by
    intro x_iT2 k0 hk0 H locs ls h hP hD hS hl
    unfold f_T_skipBlanks_39 at h
    refine lv_aload_n hx hb dX5_skipBlanks_39 rfl (lv_at hl 0 rfl) ?_
    refine lv_dup hx hb dX5_skipBlanks_40 rfl ?_
    refine va_get (D := (dC, dI)) (ci := 5) (v := .int x_iT2) (C := RX5) (T := TX5) (N := 6) hx hb hts ki5 hown hK hP 0 rfl rfl 2 (by decide) kf25 (fun _ h9 => h9) rfl dX5_skipBlanks_41 ?_
    refine lv_iconst (v := 1) hx hb dX5_skipBlanks_44 (by decide) ?_
    refine lv_iadd hx hb dX5_skipBlanks_45 ?_
    refine va_put (D := (dC, dI)) (ci := 5) (v := .int ((x_iT2 + (1 : Int32)))) (ty := .int) (C := RX5) (T := TX5) (N := 6) hx hb hts ki5 tyX5 tyX5_ok nmX5 hown hK hP hD hS 0 rfl rfl 2 (by decide) kf25 (fun _ h9 => h9) rfl (by decide +kernel) rfl rfl (Nat.le_of_ble_eq_true rfl) dX5_skipBlanks_46 (fun H locs hP hD hS => ?_)
    have hP : va_P (dC, dI) vwCl (zzT ad cy (us iT [(2, (x_iT2 + (1 : Int32)))]) wT tx) H := Eq.mp (congrArg (fun w => va_P (dC, dI) vwCl w H) (stT_iT2 ad cy iT wT tx [(2, x_iT2)] ((x_iT2 + (1 : Int32))))) hP
    have hD : va_D A (zzT ad cy (us iT [(2, (x_iT2 + (1 : Int32)))]) wT tx) := Eq.mp (congrArg (fun w => va_D A w) (stT_iT2 ad cy iT wT tx [(2, x_iT2)] ((x_iT2 + (1 : Int32))))) hD
    refine lv_goto (tgt := 0) hx hb dX5_skipBlanks_49 (by decide) ?_
    exact hk0 ((x_iT2 + (1 : Int32))) H locs ls h hP hD hS (lv_sub hl [0] rfl)
  have B0 : ∀ (n : Nat) (x_iT2 : Int32) (H : Heap) (locs : List Loc) (ls : Array Slot), f_T_skipBlanks_0 N (iT 1) (iT 2) tx n x_iT2 = some q → va_P (dC, dI) vwCl (zzT ad cy (us iT [(2, x_iT2)]) wT tx) H → va_D A (zzT ad cy (us iT [(2, x_iT2)]) wT tx) → va_S A s.heap H locs → lv_has ls 1 [(0, .ref (ad 0))] → W p l e ({ frames := 0, cells := 0, slots := 0, locals := 0 } : Room) s m args below meth c H locs 0 0 QQ (F0 m 0 ls []) := by
    intro n
    induction n with
    | zero =>
      intro x_iT2 H locs ls h hP hD hS hl
      rw [f_T_skipBlanks_0] at h
      cases h
    | succ n ih =>
      intro x_iT2 H locs ls h hP hD hS hl
      rw [f_T_skipBlanks_0] at h
      refine lv_aload_n hx hb dX5_skipBlanks_0 rfl (lv_at hl 0 rfl) ?_
      refine va_get (D := (dC, dI)) (ci := 5) (v := .int x_iT2) (C := RX5) (T := TX5) (N := 6) hx hb hts ki5 hown hK hP 0 rfl rfl 2 (by decide) kf25 (fun _ h9 => h9) rfl dX5_skipBlanks_1 ?_
      refine lv_aload_n hx hb dX5_skipBlanks_4 rfl (lv_at hl 0 rfl) ?_
      refine va_get (D := (dC, dI)) (ci := 5) (v := .int (iT 1)) (C := RX5) (T := TX5) (N := 6) hx hb hts ki5 hown hK hP 0 rfl rfl 1 (by decide) kf21 (fun _ h9 => h9) rfl dX5_skipBlanks_5 ?_
      refine lv_icmp_ge (tgt := 52) hx hb dX5_skipBlanks_8 (by decide) (fun cz => ?_) (fun cz => ?_)
      · have h := g_t h cz
        have h' := Option.some.inj h
        rw [← hQQ]
        exact W.vret hx hb hr (fun t ht hW => ⟨⟨(), rfl, trivial, by rw [← hWQ, ← h', ht]; exact hP, va_K.moved hW.alike hK⟩, hS.F ht⟩) hS.2.2 dX5_skipBlanks_52
      · have h := g_f h cz
        refine lv_aload_n hx hb dX5_skipBlanks_11 rfl (lv_at hl 0 rfl) ?_
        refine va_get (D := (dC, dI)) (ci := 5) (v := .ref (ad 1)) (C := RX5) (T := TX5) (N := 6) hx hb hts ki5 hown hK hP 0 rfl rfl 0 (by decide) kf9 (fun _ h9 => h9) rfl dX5_skipBlanks_12 ?_
        refine lv_aload_n hx hb dX5_skipBlanks_15 rfl (lv_at hl 0 rfl) ?_
        refine va_get (D := (dC, dI)) (ci := 5) (v := .int x_iT2) (C := RX5) (T := TX5) (N := 6) hx hb hts ki5 hown hK hP 0 rfl rfl 2 (by decide) kf25 (fun _ h9 => h9) rfl dX5_skipBlanks_16 ?_
        obtain ⟨g_2, h⟩ := g_n h
        refine va_bald (f := tx) hx hb hK hP 1 1 rfl rfl g_2 dX5_skipBlanks_19 ?_
        refine lv_bipush (v := 10) hx hb dX5_skipBlanks_20 (by decide) ?_
        refine lv_icmp_eq (tgt := 39) hx hb dX5_skipBlanks_22 (by decide) (fun cz => ?_) (fun cz => ?_)
        · have h := g_t h cz
          exact B39 x_iT2 (f_T_skipBlanks_0 N (iT 1) (iT 2) tx n) ih H locs ls h hP hD hS (lv_sub hl [0] rfl)
        · have h := g_f h cz
          refine lv_aload_n hx hb dX5_skipBlanks_25 rfl (lv_at hl 0 rfl) ?_
          refine va_get (D := (dC, dI)) (ci := 5) (v := .ref (ad 1)) (C := RX5) (T := TX5) (N := 6) hx hb hts ki5 hown hK hP 0 rfl rfl 0 (by decide) kf9 (fun _ h9 => h9) rfl dX5_skipBlanks_26 ?_
          refine lv_aload_n hx hb dX5_skipBlanks_29 rfl (lv_at hl 0 rfl) ?_
          refine va_get (D := (dC, dI)) (ci := 5) (v := .int x_iT2) (C := RX5) (T := TX5) (N := 6) hx hb hts ki5 hown hK hP 0 rfl rfl 2 (by decide) kf25 (fun _ h9 => h9) rfl dX5_skipBlanks_30 ?_
          refine va_bald (f := tx) hx hb hK hP 1 1 rfl rfl g_2 dX5_skipBlanks_33 ?_
          refine lv_bipush (v := 32) hx hb dX5_skipBlanks_34 (by decide) ?_
          refine lv_icmp_ne (tgt := 52) hx hb dX5_skipBlanks_36 (by decide) (fun cz => ?_) (fun cz => ?_)
          · have h := g_f h cz
            have h' := Option.some.inj h
            rw [← hQQ]
            exact W.vret hx hb hr (fun t ht hW => ⟨⟨(), rfl, trivial, by rw [← hWQ, ← h', ht]; exact hP, va_K.moved hW.alike hK⟩, hS.F ht⟩) hS.2.2 dX5_skipBlanks_52
          · have h := g_t h cz
            exact B39 x_iT2 (f_T_skipBlanks_0 N (iT 1) (iT 2) tx n) ih H locs ls h hP hD hS (lv_sub hl [0] rfl)
  intro H locs hP hD hS
  unfold f_T_skipBlanks at h
  exact B0 N (iT 2) H locs ls h hP hD hS (lv_sub hl [0] rfl)
set_option maxHeartbeats 8000000 in
set_option maxRecDepth 100000 in
theorem c_T_isLetter (l : Launch) (dC : Nat → ClassId) (dI : Nat → Nat → Nat) (cy : Nat → ClassId) (ad : Nat → Nat) (sz : Nat) (a0 : Int32) (q : Int32) (h : f_T_isLetter a0 = some q) : Met l yX5_isLetter wsX5_isLetter ({ frames := 0, cells := 0, slots := 0, locals := 0 } : Room) (cP (dC, dI) cy [.int a0] (zzE ad cy) sz) (cQi (dC, dI) cy q (zzE ad cy) (va_A (zzE ad cy) sz)) 0 0 (va_A (zzE ad cy) sz) := by
  refine Met.ofW (cc := cX5_isLetter) (maxL := 1) (ret := (some .boolean)) (by decide) rfl ?_
  intro p e s m args below meth c s₁ B hml hv
  obtain ⟨hav, hsz, hP, hK, hD0, hN⟩ := hv
  have hx := B.exec
  have hb := B.bytes
  have hr := B.returns
  have hts := atoms_spec (ws := wsX5_isLetter) B.pre
  have hown : s.vm.findClass RX5 = some m.cls := findClass_of_methodNamed B.named
  have hlocks := B.notSynchronized
  subst hsz
  have hD := hD0.self (sz := s.heap.size)
  generalize hAe : va_A (zzE ad cy) s.heap.size = A at hD ⊢
  have hA : ∀ q : Nat, s.heap.size ≤ q → A q := fun q h => by rw [← hAe]; exact Or.inr h
  have hS : va_S A s.heap s.heap [] := va_S.rf
  generalize hWQ : (zzE ad cy) = WQ
  generalize hQQ : MQ below (cQi (dC, dI) cy q WQ A) args s 0 0 A = QQ
  have hl := lv_entry ([.int a0] : List Value) (n := 1) (Nat.le_of_ble_eq_true rfl)
  have hfr := lg_entry_eq m ([.int a0] : List Value) 1
  rw [← hav] at hfr
  rw [hfr]
  clear hfr hav
  generalize (lg_sl ([.int a0] : List Value) ++ List.replicate (1 - (lg_sl ([.int a0] : List Value)).length) Slot.unset).toArray = ls at hl ⊢
  have hl : lv_has ls 1 [(0, .int a0)] := hl
  refine (?_ : ∀ (H : Heap) (locs : List Loc), va_P (dC, dI) vwCl (zzE ad cy) H → va_D A (zzE ad cy) → va_S A s.heap H locs → W p l e ({ frames := 0, cells := 0, slots := 0, locals := 0 } : Room) s m args below meth c H locs 0 0 QQ (F0 m 0 ls [])) s.heap [] hP hD hS
  clear hP hD hS
  intro H locs hP hD hS
  unfold f_T_isLetter at h
  refine lv_iload_n hx hb dX5_isLetter_0 rfl (lv_at hl 0 rfl) ?_
  refine lv_bipush (v := 97) hx hb dX5_isLetter_1 (by decide) ?_
  refine lv_icmp_lt (tgt := 16) hx hb dX5_isLetter_3 (by decide) (fun cz => ?_) (fun cz => ?_)
  · have h := g_t h cz
    refine lv_iconst (v := 0) hx hb dX5_isLetter_16 (by decide) ?_
    have h' := Option.some.inj h
    rw [← hQQ]
    exact W.zret (v := (0 : Int32)) hx hb hr rfl (fun t ht hW => ⟨⟨(0 : Int32), (), rfl, by rw [← h'], by rw [← hWQ, ht]; exact hP, va_K.moved hW.alike hK⟩, hS.F ht⟩) hS.2.2 dX5_isLetter_17
  · have h := g_f h cz
    refine lv_iload_n hx hb dX5_isLetter_6 rfl (lv_at hl 0 rfl) ?_
    refine lv_bipush (v := 122) hx hb dX5_isLetter_7 (by decide) ?_
    refine lv_icmp_gt (tgt := 16) hx hb dX5_isLetter_9 (by decide) (fun cz => ?_) (fun cz => ?_)
    · have h := g_t h cz
      refine lv_iconst (v := 0) hx hb dX5_isLetter_16 (by decide) ?_
      have h' := Option.some.inj h
      rw [← hQQ]
      exact W.zret (v := (0 : Int32)) hx hb hr rfl (fun t ht hW => ⟨⟨(0 : Int32), (), rfl, by rw [← h'], by rw [← hWQ, ht]; exact hP, va_K.moved hW.alike hK⟩, hS.F ht⟩) hS.2.2 dX5_isLetter_17
    · have h := g_f h cz
      refine lv_iconst (v := 1) hx hb dX5_isLetter_12 (by decide) ?_
      refine lv_goto (tgt := 17) hx hb dX5_isLetter_13 (by decide) ?_
      have h' := Option.some.inj h
      rw [← hQQ]
      exact W.zret (v := (1 : Int32)) hx hb hr rfl (fun t ht hW => ⟨⟨(1 : Int32), (), rfl, by rw [← h'], by rw [← hWQ, ht]; exact hP, va_K.moved hW.alike hK⟩, hS.F ht⟩) hS.2.2 dX5_isLetter_17
set_option maxHeartbeats 8000000 in
set_option maxRecDepth 100000 in
theorem c_T_isKeyword (l : Launch) (dC : Nat → ClassId) (dI : Nat → Nat → Nat) (cy : Nat → ClassId) (ad : Nat → Nat) (sz : Nat) (a0 : Int64) (q : Int32) (h : f_T_isKeyword a0 = some q) : Met l yX5_isKeyword wsX5_isKeyword ({ frames := 0, cells := 0, slots := 0, locals := 0 } : Room) (cP (dC, dI) cy [.long a0] (zzE ad cy) sz) (cQi (dC, dI) cy q (zzE ad cy) (va_A (zzE ad cy) sz)) 0 0 (va_A (zzE ad cy) sz) := by
  refine Met.ofW (cc := cX5_isKeyword) (maxL := 2) (ret := (some .boolean)) (by decide) rfl ?_
  intro p e s m args below meth c s₁ B hml hv
  obtain ⟨hav, hsz, hP, hK, hD0, hN⟩ := hv
  have hx := B.exec
  have hb := B.bytes
  have hr := B.returns
  have hts := atoms_spec (ws := wsX5_isKeyword) B.pre
  have hown : s.vm.findClass RX5 = some m.cls := findClass_of_methodNamed B.named
  have hlocks := B.notSynchronized
  subst hsz
  have hD := hD0.self (sz := s.heap.size)
  generalize hAe : va_A (zzE ad cy) s.heap.size = A at hD ⊢
  have hA : ∀ q : Nat, s.heap.size ≤ q → A q := fun q h => by rw [← hAe]; exact Or.inr h
  have hS : va_S A s.heap s.heap [] := va_S.rf
  generalize hWQ : (zzE ad cy) = WQ
  generalize hQQ : MQ below (cQi (dC, dI) cy q WQ A) args s 0 0 A = QQ
  have hl := lv_entry ([.long a0] : List Value) (n := 2) (Nat.le_of_ble_eq_true rfl)
  have hfr := lg_entry_eq m ([.long a0] : List Value) 2
  rw [← hav] at hfr
  rw [hfr]
  clear hfr hav
  generalize (lg_sl ([.long a0] : List Value) ++ List.replicate (2 - (lg_sl ([.long a0] : List Value)).length) Slot.unset).toArray = ls at hl ⊢
  have hl : lv_has ls 2 [(0, .long a0)] := hl
  have kc71 := hts _ (List.mem_cons_of_mem _ m_kl_X5_71)
  have kc73 := hts _ (List.mem_cons_of_mem _ m_kl_X5_73)
  have kc75 := hts _ (List.mem_cons_of_mem _ m_kl_X5_75)
  have kc77 := hts _ (List.mem_cons_of_mem _ m_kl_X5_77)
  have kc79 := hts _ (List.mem_cons_of_mem _ m_kl_X5_79)
  have kc81 := hts _ (List.mem_cons_of_mem _ m_kl_X5_81)
  have kc83 := hts _ (List.mem_cons_of_mem _ m_kl_X5_83)
  have kc85 := hts _ (List.mem_cons_of_mem _ m_kl_X5_85)
  have kc87 := hts _ (List.mem_cons_of_mem _ m_kl_X5_87)
  have kc89 := hts _ (List.mem_cons_of_mem _ m_kl_X5_89)
  refine (?_ : ∀ (H : Heap) (locs : List Loc), va_P (dC, dI) vwCl (zzE ad cy) H → va_D A (zzE ad cy) → va_S A s.heap H locs → W p l e ({ frames := 0, cells := 0, slots := 0, locals := 0 } : Room) s m args below meth c H locs 0 0 QQ (F0 m 0 ls [])) s.heap [] hP hD hS
  clear hP hD hS
  intro H locs hP hD hS
  unfold f_T_isKeyword at h
  refine lv_lload_n hx hb dX5_isKeyword_0 rfl (lv_at hl 0 rfl) ?_
  refine lv_ldc2 (v := 6386539) hx hb hown kc71 dX5_isKeyword_1 ?_
  refine W.lcmp hx hb dX5_isKeyword_4 ?_
  refine lv_if_eq (tgt := 80) hx hb dX5_isKeyword_5 (by decide) (fun cz => ?_) (fun cz => ?_)
  · have h := g_t h (lg_cmp0.mp cz)
    refine lv_iconst (v := 1) hx hb dX5_isKeyword_80 (by decide) ?_
    refine lv_goto (tgt := 85) hx hb dX5_isKeyword_81 (by decide) ?_
    have h' := Option.some.inj h
    rw [← hQQ]
    exact W.zret (v := (1 : Int32)) hx hb hr rfl (fun t ht hW => ⟨⟨(1 : Int32), (), rfl, by rw [← h'], by rw [← hWQ, ht]; exact hP, va_K.moved hW.alike hK⟩, hS.F ht⟩) hS.2.2 dX5_isKeyword_85
  · have h := g_f h (fun z => cz (lg_cmp0.mpr z))
    refine lv_lload_n hx hb dX5_isKeyword_8 rfl (lv_at hl 0 rfl) ?_
    refine lv_ldc2 (v := 504363246962) hx hb hown kc73 dX5_isKeyword_9 ?_
    refine W.lcmp hx hb dX5_isKeyword_12 ?_
    refine lv_if_eq (tgt := 80) hx hb dX5_isKeyword_13 (by decide) (fun cz => ?_) (fun cz => ?_)
    · have h := g_t h (lg_cmp0.mp cz)
      refine lv_iconst (v := 1) hx hb dX5_isKeyword_80 (by decide) ?_
      refine lv_goto (tgt := 85) hx hb dX5_isKeyword_81 (by decide) ?_
      have h' := Option.some.inj h
      rw [← hQQ]
      exact W.zret (v := (1 : Int32)) hx hb hr rfl (fun t ht hW => ⟨⟨(1 : Int32), (), rfl, by rw [← h'], by rw [← hWQ, ht]; exact hP, va_K.moved hW.alike hK⟩, hS.F ht⟩) hS.2.2 dX5_isKeyword_85
    · have h := g_f h (fun z => cz (lg_cmp0.mpr z))
      refine lv_lload_n hx hb dX5_isKeyword_16 rfl (lv_at hl 0 rfl) ?_
      refine lv_ldc2 (v := 126896661032037) hx hb hown kc75 dX5_isKeyword_17 ?_
      refine W.lcmp hx hb dX5_isKeyword_20 ?_
      refine lv_if_eq (tgt := 80) hx hb dX5_isKeyword_21 (by decide) (fun cz => ?_) (fun cz => ?_)
      · have h := g_t h (lg_cmp0.mp cz)
        refine lv_iconst (v := 1) hx hb dX5_isKeyword_80 (by decide) ?_
        refine lv_goto (tgt := 85) hx hb dX5_isKeyword_81 (by decide) ?_
        have h' := Option.some.inj h
        rw [← hQQ]
        exact W.zret (v := (1 : Int32)) hx hb hr rfl (fun t ht hW => ⟨⟨(1 : Int32), (), rfl, by rw [← h'], by rw [← hWQ, ht]; exact hP, va_K.moved hW.alike hK⟩, hS.F ht⟩) hS.2.2 dX5_isKeyword_85
      · have h := g_f h (fun z => cz (lg_cmp0.mpr z))
        refine lv_lload_n hx hb dX5_isKeyword_24 rfl (lv_at hl 0 rfl) ?_
        refine lv_ldc2 (v := 28530) hx hb hown kc77 dX5_isKeyword_25 ?_
        refine W.lcmp hx hb dX5_isKeyword_28 ?_
        refine lv_if_eq (tgt := 80) hx hb dX5_isKeyword_29 (by decide) (fun cz => ?_) (fun cz => ?_)
        · have h := g_t h (lg_cmp0.mp cz)
          refine lv_iconst (v := 1) hx hb dX5_isKeyword_80 (by decide) ?_
          refine lv_goto (tgt := 85) hx hb dX5_isKeyword_81 (by decide) ?_
          have h' := Option.some.inj h
          rw [← hQQ]
          exact W.zret (v := (1 : Int32)) hx hb hr rfl (fun t ht hW => ⟨⟨(1 : Int32), (), rfl, by rw [← h'], by rw [← hWQ, ht]; exact hP, va_K.moved hW.alike hK⟩, hS.F ht⟩) hS.2.2 dX5_isKeyword_85
        · have h := g_f h (fun z => cz (lg_cmp0.mpr z))
          refine lv_lload_n hx hb dX5_isKeyword_32 rfl (lv_at hl 0 rfl) ?_
          refine lv_ldc2 (v := 6385252) hx hb hown kc79 dX5_isKeyword_33 ?_
          refine W.lcmp hx hb dX5_isKeyword_36 ?_
          refine lv_if_eq (tgt := 80) hx hb dX5_isKeyword_37 (by decide) (fun cz => ?_) (fun cz => ?_)
          · have h := g_t h (lg_cmp0.mp cz)
            refine lv_iconst (v := 1) hx hb dX5_isKeyword_80 (by decide) ?_
            refine lv_goto (tgt := 85) hx hb dX5_isKeyword_81 (by decide) ?_
            have h' := Option.some.inj h
            rw [← hQQ]
            exact W.zret (v := (1 : Int32)) hx hb hr rfl (fun t ht hW => ⟨⟨(1 : Int32), (), rfl, by rw [← h'], by rw [← hWQ, ht]; exact hP, va_K.moved hW.alike hK⟩, hS.F ht⟩) hS.2.2 dX5_isKeyword_85
          · have h := g_f h (fun z => cz (lg_cmp0.mpr z))
            refine lv_lload_n hx hb dX5_isKeyword_40 rfl (lv_at hl 0 rfl) ?_
            refine lv_ldc2 (v := 7237492) hx hb hown kc81 dX5_isKeyword_41 ?_
            refine W.lcmp hx hb dX5_isKeyword_44 ?_
            refine lv_if_eq (tgt := 80) hx hb dX5_isKeyword_45 (by decide) (fun cz => ?_) (fun cz => ?_)
            · have h := g_t h (lg_cmp0.mp cz)
              refine lv_iconst (v := 1) hx hb dX5_isKeyword_80 (by decide) ?_
              refine lv_goto (tgt := 85) hx hb dX5_isKeyword_81 (by decide) ?_
              have h' := Option.some.inj h
              rw [← hQQ]
              exact W.zret (v := (1 : Int32)) hx hb hr rfl (fun t ht hW => ⟨⟨(1 : Int32), (), rfl, by rw [← h'], by rw [← hWQ, ht]; exact hP, va_K.moved hW.alike hK⟩, hS.F ht⟩) hS.2.2 dX5_isKeyword_85
            · have h := g_f h (fun z => cz (lg_cmp0.mpr z))
              refine lv_lload_n hx hb dX5_isKeyword_48 rfl (lv_at hl 0 rfl) ?_
              refine lv_ldc2 (v := 1936682341) hx hb hown kc83 dX5_isKeyword_49 ?_
              refine W.lcmp hx hb dX5_isKeyword_52 ?_
              refine lv_if_eq (tgt := 80) hx hb dX5_isKeyword_53 (by decide) (fun cz => ?_) (fun cz => ?_)
              · have h := g_t h (lg_cmp0.mp cz)
                refine lv_iconst (v := 1) hx hb dX5_isKeyword_80 (by decide) ?_
                refine lv_goto (tgt := 85) hx hb dX5_isKeyword_81 (by decide) ?_
                have h' := Option.some.inj h
                rw [← hQQ]
                exact W.zret (v := (1 : Int32)) hx hb hr rfl (fun t ht hW => ⟨⟨(1 : Int32), (), rfl, by rw [← h'], by rw [← hWQ, ht]; exact hP, va_K.moved hW.alike hK⟩, hS.F ht⟩) hS.2.2 dX5_isKeyword_85
              · have h := g_f h (fun z => cz (lg_cmp0.mpr z))
                refine lv_lload_n hx hb dX5_isKeyword_56 rfl (lv_at hl 0 rfl) ?_
                refine lv_ldc2 (v := 435778056825) hx hb hown kc85 dX5_isKeyword_57 ?_
                refine W.lcmp hx hb dX5_isKeyword_60 ?_
                refine lv_if_eq (tgt := 80) hx hb dX5_isKeyword_61 (by decide) (fun cz => ?_) (fun cz => ?_)
                · have h := g_t h (lg_cmp0.mp cz)
                  refine lv_iconst (v := 1) hx hb dX5_isKeyword_80 (by decide) ?_
                  refine lv_goto (tgt := 85) hx hb dX5_isKeyword_81 (by decide) ?_
                  have h' := Option.some.inj h
                  rw [← hQQ]
                  exact W.zret (v := (1 : Int32)) hx hb hr rfl (fun t ht hW => ⟨⟨(1 : Int32), (), rfl, by rw [← h'], by rw [← hWQ, ht]; exact hP, va_K.moved hW.alike hK⟩, hS.F ht⟩) hS.2.2 dX5_isKeyword_85
                · have h := g_f h (fun z => cz (lg_cmp0.mpr z))
                  refine lv_lload_n hx hb dX5_isKeyword_64 rfl (lv_at hl 0 rfl) ?_
                  refine lv_ldc2 (v := 7630704) hx hb hown kc87 dX5_isKeyword_65 ?_
                  refine W.lcmp hx hb dX5_isKeyword_68 ?_
                  refine lv_if_eq (tgt := 80) hx hb dX5_isKeyword_69 (by decide) (fun cz => ?_) (fun cz => ?_)
                  · have h := g_t h (lg_cmp0.mp cz)
                    refine lv_iconst (v := 1) hx hb dX5_isKeyword_80 (by decide) ?_
                    refine lv_goto (tgt := 85) hx hb dX5_isKeyword_81 (by decide) ?_
                    have h' := Option.some.inj h
                    rw [← hQQ]
                    exact W.zret (v := (1 : Int32)) hx hb hr rfl (fun t ht hW => ⟨⟨(1 : Int32), (), rfl, by rw [← h'], by rw [← hWQ, ht]; exact hP, va_K.moved hW.alike hK⟩, hS.F ht⟩) hS.2.2 dX5_isKeyword_85
                  · have h := g_f h (fun z => cz (lg_cmp0.mpr z))
                    refine lv_lload_n hx hb dX5_isKeyword_72 rfl (lv_at hl 0 rfl) ?_
                    refine lv_ldc2 (v := 108230834679661) hx hb hown kc89 dX5_isKeyword_73 ?_
                    refine W.lcmp hx hb dX5_isKeyword_76 ?_
                    refine lv_if_ne (tgt := 84) hx hb dX5_isKeyword_77 (by decide) (fun cz => ?_) (fun cz => ?_)
                    · have h := g_f h (fun z => cz (lg_cmp0.mpr z))
                      refine lv_iconst (v := 0) hx hb dX5_isKeyword_84 (by decide) ?_
                      have h' := Option.some.inj h
                      rw [← hQQ]
                      exact W.zret (v := (0 : Int32)) hx hb hr rfl (fun t ht hW => ⟨⟨(0 : Int32), (), rfl, by rw [← h'], by rw [← hWQ, ht]; exact hP, va_K.moved hW.alike hK⟩, hS.F ht⟩) hS.2.2 dX5_isKeyword_85
                    · have h := g_t h (lg_cmp0.mp cz)
                      refine lv_iconst (v := 1) hx hb dX5_isKeyword_80 (by decide) ?_
                      refine lv_goto (tgt := 85) hx hb dX5_isKeyword_81 (by decide) ?_
                      have h' := Option.some.inj h
                      rw [← hQQ]
                      exact W.zret (v := (1 : Int32)) hx hb hr rfl (fun t ht hW => ⟨⟨(1 : Int32), (), rfl, by rw [← h'], by rw [← hWQ, ht]; exact hP, va_K.moved hW.alike hK⟩, hS.F ht⟩) hS.2.2 dX5_isKeyword_85
set_option maxHeartbeats 8000000 in
set_option maxRecDepth 100000 in
theorem c_T_isDigit (l : Launch) (dC : Nat → ClassId) (dI : Nat → Nat → Nat) (cy : Nat → ClassId) (ad : Nat → Nat) (sz : Nat) (a0 : Int32) (q : Int32) (h : f_T_isDigit a0 = some q) : Met l yX5_isDigit wsX5_isDigit ({ frames := 0, cells := 0, slots := 0, locals := 0 } : Room) (cP (dC, dI) cy [.int a0] (zzE ad cy) sz) (cQi (dC, dI) cy q (zzE ad cy) (va_A (zzE ad cy) sz)) 0 0 (va_A (zzE ad cy) sz) := by
  refine Met.ofW (cc := cX5_isDigit) (maxL := 1) (ret := (some .boolean)) (by decide) rfl ?_
  intro p e s m args below meth c s₁ B hml hv
  obtain ⟨hav, hsz, hP, hK, hD0, hN⟩ := hv
  have hx := B.exec
  have hb := B.bytes
  have hr := B.returns
  have hts := atoms_spec (ws := wsX5_isDigit) B.pre
  have hown : s.vm.findClass RX5 = some m.cls := findClass_of_methodNamed B.named
  have hlocks := B.notSynchronized
  subst hsz
  have hD := hD0.self (sz := s.heap.size)
  generalize hAe : va_A (zzE ad cy) s.heap.size = A at hD ⊢
  have hA : ∀ q : Nat, s.heap.size ≤ q → A q := fun q h => by rw [← hAe]; exact Or.inr h
  have hS : va_S A s.heap s.heap [] := va_S.rf
  generalize hWQ : (zzE ad cy) = WQ
  generalize hQQ : MQ below (cQi (dC, dI) cy q WQ A) args s 0 0 A = QQ
  have hl := lv_entry ([.int a0] : List Value) (n := 1) (Nat.le_of_ble_eq_true rfl)
  have hfr := lg_entry_eq m ([.int a0] : List Value) 1
  rw [← hav] at hfr
  rw [hfr]
  clear hfr hav
  generalize (lg_sl ([.int a0] : List Value) ++ List.replicate (1 - (lg_sl ([.int a0] : List Value)).length) Slot.unset).toArray = ls at hl ⊢
  have hl : lv_has ls 1 [(0, .int a0)] := hl
  refine (?_ : ∀ (H : Heap) (locs : List Loc), va_P (dC, dI) vwCl (zzE ad cy) H → va_D A (zzE ad cy) → va_S A s.heap H locs → W p l e ({ frames := 0, cells := 0, slots := 0, locals := 0 } : Room) s m args below meth c H locs 0 0 QQ (F0 m 0 ls [])) s.heap [] hP hD hS
  clear hP hD hS
  intro H locs hP hD hS
  unfold f_T_isDigit at h
  refine lv_iload_n hx hb dX5_isDigit_0 rfl (lv_at hl 0 rfl) ?_
  refine lv_bipush (v := 48) hx hb dX5_isDigit_1 (by decide) ?_
  refine lv_icmp_lt (tgt := 16) hx hb dX5_isDigit_3 (by decide) (fun cz => ?_) (fun cz => ?_)
  · have h := g_t h cz
    refine lv_iconst (v := 0) hx hb dX5_isDigit_16 (by decide) ?_
    have h' := Option.some.inj h
    rw [← hQQ]
    exact W.zret (v := (0 : Int32)) hx hb hr rfl (fun t ht hW => ⟨⟨(0 : Int32), (), rfl, by rw [← h'], by rw [← hWQ, ht]; exact hP, va_K.moved hW.alike hK⟩, hS.F ht⟩) hS.2.2 dX5_isDigit_17
  · have h := g_f h cz
    refine lv_iload_n hx hb dX5_isDigit_6 rfl (lv_at hl 0 rfl) ?_
    refine lv_bipush (v := 57) hx hb dX5_isDigit_7 (by decide) ?_
    refine lv_icmp_gt (tgt := 16) hx hb dX5_isDigit_9 (by decide) (fun cz => ?_) (fun cz => ?_)
    · have h := g_t h cz
      refine lv_iconst (v := 0) hx hb dX5_isDigit_16 (by decide) ?_
      have h' := Option.some.inj h
      rw [← hQQ]
      exact W.zret (v := (0 : Int32)) hx hb hr rfl (fun t ht hW => ⟨⟨(0 : Int32), (), rfl, by rw [← h'], by rw [← hWQ, ht]; exact hP, va_K.moved hW.alike hK⟩, hS.F ht⟩) hS.2.2 dX5_isDigit_17
    · have h := g_f h cz
      refine lv_iconst (v := 1) hx hb dX5_isDigit_12 (by decide) ?_
      refine lv_goto (tgt := 17) hx hb dX5_isDigit_13 (by decide) ?_
      have h' := Option.some.inj h
      rw [← hQQ]
      exact W.zret (v := (1 : Int32)) hx hb hr rfl (fun t ht hW => ⟨⟨(1 : Int32), (), rfl, by rw [← h'], by rw [← hWQ, ht]; exact hP, va_K.moved hW.alike hK⟩, hS.F ht⟩) hS.2.2 dX5_isDigit_17
set_option maxHeartbeats 8000000 in
set_option maxRecDepth 100000 in
theorem c_T_takeRow (l : Launch) (dC : Nat → ClassId) (dI : Nat → Nat → Nat) (cy : Nat → ClassId) (ad : Nat → Nat) (sz : Nat) (N : Nat) (iT : Nat → Int32) (wT : Int64) (tx : Nat → Int32) (q : Int32 × Int32 × Int64) (h : f_T_takeRow N (iT 1) (iT 2) (iT 3) (iT 4) wT tx = some q) : Met l yX5_takeRow wsX5_takeRow ({ frames := 1, cells := 0, slots := 0, locals := 21 } : Room) (cP (dC, dI) cy [.ref (ad 0)] (zzT ad cy iT wT tx) sz) (cQv (dC, dI) cy (zzT ad cy (us iT [(2, q.1), (4, q.2.1)]) q.2.2 tx) (va_A (zzT ad cy iT wT tx) sz)) 0 0 (va_A (zzT ad cy iT wT tx) sz) := by
  refine Met.ofW (cc := cX5_takeRow) (maxL := 2) (ret := none) (by decide) rfl ?_
  intro p e s m args below meth c s₁ B hml hv
  obtain ⟨hav, hsz, hP, hK, hD0, hN⟩ := hv
  have hx := B.exec
  have hb := B.bytes
  have hr := B.returns
  have hts := atoms_spec (ws := wsX5_takeRow) B.pre
  have hown : s.vm.findClass RX5 = some m.cls := findClass_of_methodNamed B.named
  have hlocks := B.notSynchronized
  subst hsz
  have hD := hD0.self (sz := s.heap.size)
  generalize hAe : va_A (zzT ad cy iT wT tx) s.heap.size = A at hD ⊢
  have hA : ∀ q : Nat, s.heap.size ≤ q → A q := fun q h => by rw [← hAe]; exact Or.inr h
  have hS : va_S A s.heap s.heap [] := va_S.rf
  generalize hWQ : (zzT ad cy (us iT [(2, q.1), (4, q.2.1)]) q.2.2 tx) = WQ
  generalize hQQ : MQ below (cQv (dC, dI) cy WQ A) args s 0 0 A = QQ
  have hl := lv_entry ([.ref (ad 0)] : List Value) (n := 2) (Nat.le_of_ble_eq_true rfl)
  have hfr := lg_entry_eq m ([.ref (ad 0)] : List Value) 2
  rw [← hav] at hfr
  rw [hfr]
  clear hfr hav
  generalize (lg_sl ([.ref (ad 0)] : List Value) ++ List.replicate (2 - (lg_sl ([.ref (ad 0)] : List Value)).length) Slot.unset).toArray = ls at hl ⊢
  have hl : lv_has ls 2 [(0, .ref (ad 0))] := hl
  have kf37 := hts _ (List.mem_cons_of_mem _ m_fl_X5_37)
  have ki5 := (fun w h => List.mem_cons_of_mem _ (i_X5 w h) : ∀ w ∈ u_ws RX5 TX5 6, w ∈ wsX5_takeRow)
  have kf9 := hts _ (List.mem_cons_of_mem _ m_fl_X5_9)
  have kf25 := hts _ (List.mem_cons_of_mem _ m_fl_X5_25)
  have kf41 := hts _ (List.mem_cons_of_mem _ m_fl_X5_41)
  have kf34 := hts _ (List.mem_cons_of_mem _ m_fl_X5_34)
  have kf21 := hts _ (List.mem_cons_of_mem _ m_fl_X5_21)
  refine (?_ : ∀ (H : Heap) (locs : List Loc), va_P (dC, dI) vwCl (zzT ad cy iT wT tx) H → va_D A (zzT ad cy iT wT tx) → va_S A s.heap H locs → W p l e ({ frames := 1, cells := 0, slots := 0, locals := 21 } : Room) s m args below meth c H locs 0 0 QQ (F0 m 0 ls [])) s.heap [] hP hD hS
  clear hP hD hS
  have B54 : ∀ (v1 : Int32) (x_iT2 : Int32) (x_wT : Int64) (k13 : Int32 → Int64 → Option (Int32 × Int32 × Int64)) (hk13 : ∀ (x_iT2' : Int32) (x_wT' : Int64) (H : Heap) (locs : List Loc) (ls : Array Slot), k13 x_iT2' x_wT' = some q → va_P (dC, dI) vwCl (zzT ad cy (us iT [(2, x_iT2')]) x_wT' tx) H → va_D A (zzT ad cy (us iT [(2, x_iT2')]) x_wT' tx) → va_S A s.heap H locs → lv_has ls 2 [(0, .ref (ad 0)), (1, .int v1)] → W p l e ({ frames := 1, cells := 0, slots := 0, locals := 21 } : Room) s m args below meth c H locs 0 0 QQ (F0 m 13 ls [])) (H : Heap) (locs : List Loc) (ls : Array Slot), f_T_takeRow_54 N (iT 1) (iT 2) (iT 3) (iT 4) wT tx k13 v1 x_iT2 x_wT = some q → va_P (dC, dI) vwCl (zzT ad cy (us iT [(2, x_iT2)]) x_wT tx) H → va_D A (zzT ad cy (us iT [(2, x_iT2)]) x_wT tx) → va_S A s.heap H locs → lv_has ls 2 [(0, .ref (ad 0)), (1, .int v1)] → W p l e ({ frames := 1, cells := 0, slots := 0, locals := 21 } : Room) s m args below meth c H locs 0 0 QQ (F0 m 54 ls []) := by
    intro v1 x_iT2 x_wT k13 hk13 H locs ls h hP hD hS hl
    unfold f_T_takeRow_54 at h
    refine lv_aload_n hx hb dX5_takeRow_54 rfl (lv_at hl 0 rfl) ?_
    refine lv_aload_n hx hb dX5_takeRow_55 rfl (lv_at hl 0 rfl) ?_
    refine va_get (D := (dC, dI)) (ci := 5) (v := .long x_wT) (C := RX5) (T := TX5) (N := 6) hx hb hts ki5 hown hK hP 0 rfl rfl 5 (by decide) kf37 (fun _ h9 => h9) rfl dX5_takeRow_56 ?_
    refine lv_bipush (v := 8) hx hb dX5_takeRow_59 (by decide) ?_
    refine lv_lshl (v := (x_wT <<< (((8 : Int32)).toInt64 &&& 63))) hx hb dX5_takeRow_61 rfl ?_
    refine lv_aload_n hx hb dX5_takeRow_62 rfl (lv_at hl 0 rfl) ?_
    refine va_get (D := (dC, dI)) (ci := 5) (v := .ref (ad 1)) (C := RX5) (T := TX5) (N := 6) hx hb hts ki5 hown hK hP 0 rfl rfl 0 (by decide) kf9 (fun _ h9 => h9) rfl dX5_takeRow_63 ?_
    refine lv_aload_n hx hb dX5_takeRow_66 rfl (lv_at hl 0 rfl) ?_
    refine va_get (D := (dC, dI)) (ci := 5) (v := .int x_iT2) (C := RX5) (T := TX5) (N := 6) hx hb hts ki5 hown hK hP 0 rfl rfl 2 (by decide) kf25 (fun _ h9 => h9) rfl dX5_takeRow_67 ?_
    obtain ⟨g_2, h⟩ := g_n h
    refine va_bald (f := tx) hx hb hK hP 1 1 rfl rfl g_2 dX5_takeRow_70 ?_
    refine lv_i2l (v := ((tx x_iT2.toNatClampNeg)).toInt64) hx hb dX5_takeRow_71 rfl ?_
    refine lv_lor hx hb dX5_takeRow_72 ?_
    refine va_put (D := (dC, dI)) (ci := 5) (v := .long (((x_wT <<< (((8 : Int32)).toInt64 &&& 63)) ||| ((tx x_iT2.toNatClampNeg)).toInt64))) (ty := .long) (C := RX5) (T := TX5) (N := 6) hx hb hts ki5 tyX5 tyX5_ok nmX5 hown hK hP hD hS 0 rfl rfl 5 (by decide) kf37 (fun _ h9 => h9) rfl (by decide +kernel) rfl rfl (Nat.le_of_ble_eq_true rfl) dX5_takeRow_73 (fun H locs hP hD hS => ?_)
    have hP : va_P (dC, dI) vwCl (zzT ad cy (us iT [(2, x_iT2)]) ((x_wT <<< (((8 : Int32)).toInt64 &&& 63)) ||| ((tx x_iT2.toNatClampNeg)).toInt64) tx) H := hP
    have hD : va_D A (zzT ad cy (us iT [(2, x_iT2)]) ((x_wT <<< (((8 : Int32)).toInt64 &&& 63)) ||| ((tx x_iT2.toNatClampNeg)).toInt64) tx) := hD
    refine lv_aload_n hx hb dX5_takeRow_76 rfl (lv_at hl 0 rfl) ?_
    refine lv_dup hx hb dX5_takeRow_77 rfl ?_
    refine va_get (D := (dC, dI)) (ci := 5) (v := .int x_iT2) (C := RX5) (T := TX5) (N := 6) hx hb hts ki5 hown hK hP 0 rfl rfl 2 (by decide) kf25 (fun _ h9 => h9) rfl dX5_takeRow_78 ?_
    refine lv_iconst (v := 1) hx hb dX5_takeRow_81 (by decide) ?_
    refine lv_iadd hx hb dX5_takeRow_82 ?_
    refine va_put (D := (dC, dI)) (ci := 5) (v := .int ((x_iT2 + (1 : Int32)))) (ty := .int) (C := RX5) (T := TX5) (N := 6) hx hb hts ki5 tyX5 tyX5_ok nmX5 hown hK hP hD hS 0 rfl rfl 2 (by decide) kf25 (fun _ h9 => h9) rfl (by decide +kernel) rfl rfl (Nat.le_of_ble_eq_true rfl) dX5_takeRow_83 (fun H locs hP hD hS => ?_)
    have hP : va_P (dC, dI) vwCl (zzT ad cy (us iT [(2, (x_iT2 + (1 : Int32)))]) ((x_wT <<< (((8 : Int32)).toInt64 &&& 63)) ||| ((tx x_iT2.toNatClampNeg)).toInt64) tx) H := Eq.mp (congrArg (fun w => va_P (dC, dI) vwCl w H) (stT_iT2 ad cy iT ((x_wT <<< (((8 : Int32)).toInt64 &&& 63)) ||| ((tx x_iT2.toNatClampNeg)).toInt64) tx [(2, x_iT2)] ((x_iT2 + (1 : Int32))))) hP
    have hD : va_D A (zzT ad cy (us iT [(2, (x_iT2 + (1 : Int32)))]) ((x_wT <<< (((8 : Int32)).toInt64 &&& 63)) ||| ((tx x_iT2.toNatClampNeg)).toInt64) tx) := Eq.mp (congrArg (fun w => va_D A w) (stT_iT2 ad cy iT ((x_wT <<< (((8 : Int32)).toInt64 &&& 63)) ||| ((tx x_iT2.toNatClampNeg)).toInt64) tx [(2, x_iT2)] ((x_iT2 + (1 : Int32))))) hD
    refine lv_goto (tgt := 13) hx hb dX5_takeRow_86 (by decide) ?_
    exact hk13 ((x_iT2 + (1 : Int32))) (((x_wT <<< (((8 : Int32)).toInt64 &&& 63)) ||| ((tx x_iT2.toNatClampNeg)).toInt64)) H locs ls h hP hD hS (lv_sub hl [0, 1] rfl)
  have B107 : ∀ (x_iT2 : Int32) (x_wT : Int64) (H : Heap) (locs : List Loc) (ls : Array Slot), f_T_takeRow_107 N (iT 1) (iT 2) (iT 3) (iT 4) wT tx x_iT2 x_wT = some q → va_P (dC, dI) vwCl (zzT ad cy (us iT [(2, x_iT2)]) x_wT tx) H → va_D A (zzT ad cy (us iT [(2, x_iT2)]) x_wT tx) → va_S A s.heap H locs → lv_has ls 2 [(0, .ref (ad 0))] → W p l e ({ frames := 1, cells := 0, slots := 0, locals := 21 } : Room) s m args below meth c H locs 0 0 QQ (F0 m 107 ls []) := by
    intro x_iT2 x_wT H locs ls h hP hD hS hl
    unfold f_T_takeRow_107 at h
    refine lv_aload_n hx hb dX5_takeRow_107 rfl (lv_at hl 0 rfl) ?_
    refine lv_lconst (v := 0) hx hb dX5_takeRow_108 (by decide) ?_
    refine va_put (D := (dC, dI)) (ci := 5) (v := .long ((0 : Int64))) (ty := .long) (C := RX5) (T := TX5) (N := 6) hx hb hts ki5 tyX5 tyX5_ok nmX5 hown hK hP hD hS 0 rfl rfl 5 (by decide) kf37 (fun _ h9 => h9) rfl (by decide +kernel) rfl rfl (Nat.le_of_ble_eq_true rfl) dX5_takeRow_109 (fun H locs hP hD hS => ?_)
    have hP : va_P (dC, dI) vwCl (zzT ad cy (us iT [(2, x_iT2)]) (0 : Int64) tx) H := hP
    have hD : va_D A (zzT ad cy (us iT [(2, x_iT2)]) (0 : Int64) tx) := hD
    refine lv_aload_n hx hb dX5_takeRow_112 rfl (lv_at hl 0 rfl) ?_
    refine lv_iconst (v := 0) hx hb dX5_takeRow_113 (by decide) ?_
    refine va_put (D := (dC, dI)) (ci := 5) (v := .int ((0 : Int32))) (ty := .int) (C := RX5) (T := TX5) (N := 6) hx hb hts ki5 tyX5 tyX5_ok nmX5 hown hK hP hD hS 0 rfl rfl 4 (by decide) kf41 (fun _ h9 => h9) rfl (by decide +kernel) rfl rfl (Nat.le_of_ble_eq_true rfl) dX5_takeRow_114 (fun H locs hP hD hS => ?_)
    have hP : va_P (dC, dI) vwCl (zzT ad cy (us iT [(2, x_iT2), (4, (0 : Int32))]) (0 : Int64) tx) H := Eq.mp (congrArg (fun w => va_P (dC, dI) vwCl w H) (stT_iT4 ad cy iT (0 : Int64) tx [(2, x_iT2)] ((0 : Int32)))) hP
    have hD : va_D A (zzT ad cy (us iT [(2, x_iT2), (4, (0 : Int32))]) (0 : Int64) tx) := Eq.mp (congrArg (fun w => va_D A w) (stT_iT4 ad cy iT (0 : Int64) tx [(2, x_iT2)] ((0 : Int32)))) hD
    refine lv_goto (tgt := 139) hx hb dX5_takeRow_117 (by decide) ?_
    have h' := Option.some.inj h
    rw [← hQQ]
    exact W.vret hx hb hr (fun t ht hW => ⟨⟨(), rfl, trivial, by rw [← hWQ, ← h', ht]; exact hP, va_K.moved hW.alike hK⟩, hS.F ht⟩) hS.2.2 dX5_takeRow_139
  have B136 : ∀ (s1 : Int32) (x_iT2 : Int32) (x_wT : Int64) (H : Heap) (locs : List Loc) (ls : Array Slot), f_T_takeRow_136 N (iT 1) (iT 2) (iT 3) (iT 4) wT tx s1 x_iT2 x_wT = some q → va_P (dC, dI) vwCl (zzT ad cy (us iT [(2, x_iT2)]) x_wT tx) H → va_D A (zzT ad cy (us iT [(2, x_iT2)]) x_wT tx) → va_S A s.heap H locs → lv_has ls 2 [] → W p l e ({ frames := 1, cells := 0, slots := 0, locals := 21 } : Room) s m args below meth c H locs 0 0 QQ (F0 m 136 ls [.int s1, .ref (ad 0)]) := by
    intro s1 x_iT2 x_wT H locs ls h hP hD hS hl
    unfold f_T_takeRow_136 at h
    refine va_put (D := (dC, dI)) (ci := 5) (v := .int s1) (ty := .int) (C := RX5) (T := TX5) (N := 6) hx hb hts ki5 tyX5 tyX5_ok nmX5 hown hK hP hD hS 0 rfl rfl 4 (by decide) kf41 (fun _ h9 => h9) rfl (by decide +kernel) rfl rfl (Nat.le_of_ble_eq_true rfl) dX5_takeRow_136 (fun H locs hP hD hS => ?_)
    have hP : va_P (dC, dI) vwCl (zzT ad cy (us iT [(2, x_iT2), (4, s1)]) x_wT tx) H := Eq.mp (congrArg (fun w => va_P (dC, dI) vwCl w H) (stT_iT4 ad cy iT x_wT tx [(2, x_iT2)] s1)) hP
    have hD : va_D A (zzT ad cy (us iT [(2, x_iT2), (4, s1)]) x_wT tx) := Eq.mp (congrArg (fun w => va_D A w) (stT_iT4 ad cy iT x_wT tx [(2, x_iT2)] s1)) hD
    have h' := Option.some.inj h
    rw [← hQQ]
    exact W.vret hx hb hr (fun t ht hW => ⟨⟨(), rfl, trivial, by rw [← hWQ, ← h', ht]; exact hP, va_K.moved hW.alike hK⟩, hS.F ht⟩) hS.2.2 dX5_takeRow_139
  have B89 : ∀ (v1 : Int32) (x_iT2 : Int32) (x_wT : Int64) (H : Heap) (locs : List Loc) (ls : Array Slot), f_T_takeRow_89 N (iT 1) (iT 2) (iT 3) (iT 4) wT tx v1 x_iT2 x_wT = some q → va_P (dC, dI) vwCl (zzT ad cy (us iT [(2, x_iT2)]) x_wT tx) H → va_D A (zzT ad cy (us iT [(2, x_iT2)]) x_wT tx) → va_S A s.heap H locs → lv_has ls 2 [(0, .ref (ad 0)), (1, .int v1)] → W p l e ({ frames := 1, cells := 0, slots := 0, locals := 21 } : Room) s m args below meth c H locs 0 0 QQ (F0 m 89 ls []) := by
    intro v1 x_iT2 x_wT H locs ls h hP hD hS hl
    unfold f_T_takeRow_89 at h
    refine lv_iload_n hx hb dX5_takeRow_89 rfl (lv_at hl 1 rfl) ?_
    refine lv_if_eq (tgt := 107) hx hb dX5_takeRow_90 (by decide) (fun cz => ?_) (fun cz => ?_)
    · have h := g_t h cz
      exact B107 x_iT2 x_wT H locs ls h hP hD hS (lv_sub hl [0] rfl)
    · have h := g_f h cz
      refine lv_aload_n hx hb dX5_takeRow_93 rfl (lv_at hl 0 rfl) ?_
      refine va_get (D := (dC, dI)) (ci := 5) (v := .int x_iT2) (C := RX5) (T := TX5) (N := 6) hx hb hts ki5 hown hK hP 0 rfl rfl 2 (by decide) kf25 (fun _ h9 => h9) rfl dX5_takeRow_94 ?_
      refine lv_aload_n hx hb dX5_takeRow_97 rfl (lv_at hl 0 rfl) ?_
      refine va_get (D := (dC, dI)) (ci := 5) (v := .int (iT 3)) (C := RX5) (T := TX5) (N := 6) hx hb hts ki5 hown hK hP 0 rfl rfl 3 (by decide) kf34 (fun _ h9 => h9) rfl dX5_takeRow_98 ?_
      refine lv_isub hx hb dX5_takeRow_101 ?_
      refine lv_bipush (v := 8) hx hb dX5_takeRow_102 (by decide) ?_
      refine lv_icmp_le (tgt := 120) hx hb dX5_takeRow_104 (by decide) (fun cz => ?_) (fun cz => ?_)
      · have h := g_t h cz
        refine lv_aload_n hx hb dX5_takeRow_120 rfl (lv_at hl 0 rfl) ?_
        refine lv_aload_n hx hb dX5_takeRow_121 rfl (lv_at hl 0 rfl) ?_
        refine va_get (D := (dC, dI)) (ci := 5) (v := .long x_wT) (C := RX5) (T := TX5) (N := 6) hx hb hts ki5 hown hK hP 0 rfl rfl 5 (by decide) kf37 (fun _ h9 => h9) rfl dX5_takeRow_122 ?_
        obtain ⟨q125, e125, h⟩ := g_b h
        refine callSi (cc := cX5_takeRow) (ws' := zzT ad cy (us iT [(2, x_iT2)]) x_wT tx) (As := [.long x_wT]) (rest := [.ref (ad 0)]) ⟨hx, hb, hml, hown, hts⟩ (c_T_isKeyword l dC dI cy ad H.size x_wT q125 e125) (va_cwS 1 hts (goodS m_ml_X5_57 m_st_X5_isKeyword m_in_X5 m_cd_X5_isKeyword) rfl rfl rfl (by decide +kernel) ⟨Nat.le_of_ble_eq_true rfl, Nat.le_of_ble_eq_true rfl⟩) hN hK hP hD hS hA [] [none, none] rfl rfl rfl rfl rfl rfl rfl hl.1 rfl (Nat.le_of_ble_eq_true rfl) dX5_takeRow_125 ⟨Nat.zero_le _, Nat.zero_le _⟩ (fun H locs hP hD hS => ?_)
        refine lv_if_eq (tgt := 135) hx hb dX5_takeRow_128 (by decide) (fun cz => ?_) (fun cz => ?_)
        · have h := g_t h cz
          refine lv_iconst (v := 4) hx hb dX5_takeRow_135 (by decide) ?_
          exact B136 ((4 : Int32)) x_iT2 x_wT H locs ls h hP hD hS (lv_sub hl [] rfl)
        · have h := g_f h cz
          refine lv_iconst (v := 3) hx hb dX5_takeRow_131 (by decide) ?_
          refine lv_goto (tgt := 136) hx hb dX5_takeRow_132 (by decide) ?_
          exact B136 ((3 : Int32)) x_iT2 x_wT H locs ls h hP hD hS (lv_sub hl [] rfl)
      · have h := g_f h cz
        exact B107 x_iT2 x_wT H locs ls h hP hD hS (lv_sub hl [0] rfl)
  have B13 : ∀ (n : Nat) (v1 : Int32) (x_iT2 : Int32) (x_wT : Int64) (H : Heap) (locs : List Loc) (ls : Array Slot), f_T_takeRow_13 N (iT 1) (iT 2) (iT 3) (iT 4) wT tx v1 n x_iT2 x_wT = some q → va_P (dC, dI) vwCl (zzT ad cy (us iT [(2, x_iT2)]) x_wT tx) H → va_D A (zzT ad cy (us iT [(2, x_iT2)]) x_wT tx) → va_S A s.heap H locs → lv_has ls 2 [(0, .ref (ad 0)), (1, .int v1)] → W p l e ({ frames := 1, cells := 0, slots := 0, locals := 21 } : Room) s m args below meth c H locs 0 0 QQ (F0 m 13 ls []) := by
    intro n
    induction n with
    | zero =>
      intro v1 x_iT2 x_wT H locs ls h hP hD hS hl
      rw [f_T_takeRow_13] at h
      cases h
    | succ n ih =>
      intro v1 x_iT2 x_wT H locs ls h hP hD hS hl
      rw [f_T_takeRow_13] at h
      refine lv_aload_n hx hb dX5_takeRow_13 rfl (lv_at hl 0 rfl) ?_
      refine va_get (D := (dC, dI)) (ci := 5) (v := .int x_iT2) (C := RX5) (T := TX5) (N := 6) hx hb hts ki5 hown hK hP 0 rfl rfl 2 (by decide) kf25 (fun _ h9 => h9) rfl dX5_takeRow_14 ?_
      refine lv_aload_n hx hb dX5_takeRow_17 rfl (lv_at hl 0 rfl) ?_
      refine va_get (D := (dC, dI)) (ci := 5) (v := .int (iT 1)) (C := RX5) (T := TX5) (N := 6) hx hb hts ki5 hown hK hP 0 rfl rfl 1 (by decide) kf21 (fun _ h9 => h9) rfl dX5_takeRow_18 ?_
      refine lv_icmp_ge (tgt := 89) hx hb dX5_takeRow_21 (by decide) (fun cz => ?_) (fun cz => ?_)
      · have h := g_t h cz
        exact B89 v1 x_iT2 x_wT H locs ls h hP hD hS (lv_sub hl [0, 1] rfl)
      · have h := g_f h cz
        refine lv_aload_n hx hb dX5_takeRow_24 rfl (lv_at hl 0 rfl) ?_
        refine va_get (D := (dC, dI)) (ci := 5) (v := .ref (ad 1)) (C := RX5) (T := TX5) (N := 6) hx hb hts ki5 hown hK hP 0 rfl rfl 0 (by decide) kf9 (fun _ h9 => h9) rfl dX5_takeRow_25 ?_
        refine lv_aload_n hx hb dX5_takeRow_28 rfl (lv_at hl 0 rfl) ?_
        refine va_get (D := (dC, dI)) (ci := 5) (v := .int x_iT2) (C := RX5) (T := TX5) (N := 6) hx hb hts ki5 hown hK hP 0 rfl rfl 2 (by decide) kf25 (fun _ h9 => h9) rfl dX5_takeRow_29 ?_
        obtain ⟨g_2, h⟩ := g_n h
        refine va_bald (f := tx) hx hb hK hP 1 1 rfl rfl g_2 dX5_takeRow_32 ?_
        obtain ⟨q33, e33, h⟩ := g_b h
        refine callSi (cc := cX5_takeRow) (ws' := zzT ad cy (us iT [(2, x_iT2)]) x_wT tx) (As := [.int ((tx x_iT2.toNatClampNeg))]) (rest := []) ⟨hx, hb, hml, hown, hts⟩ (c_T_isLetter l dC dI cy ad H.size ((tx x_iT2.toNatClampNeg)) q33 e33) (va_cwS 1 hts (goodS m_ml_X5_44 m_st_X5_isLetter m_in_X5 m_cd_X5_isLetter) rfl rfl rfl (by decide +kernel) ⟨Nat.le_of_ble_eq_true rfl, Nat.le_of_ble_eq_true rfl⟩) hN hK hP hD hS hA [] [none, none] rfl rfl rfl rfl rfl rfl rfl hl.1 rfl (Nat.le_of_ble_eq_true rfl) dX5_takeRow_33 ⟨Nat.zero_le _, Nat.zero_le _⟩ (fun H locs hP hD hS => ?_)
        refine lv_if_ne (tgt := 54) hx hb dX5_takeRow_36 (by decide) (fun cz => ?_) (fun cz => ?_)
        · have h := g_f h cz
          exact B54 v1 x_iT2 x_wT (f_T_takeRow_13 N (iT 1) (iT 2) (iT 3) (iT 4) wT tx v1 n) (ih v1) H locs ls h hP hD hS (lv_sub hl [0, 1] rfl)
        · have h := g_t h cz
          refine lv_aload_n hx hb dX5_takeRow_39 rfl (lv_at hl 0 rfl) ?_
          refine va_get (D := (dC, dI)) (ci := 5) (v := .ref (ad 1)) (C := RX5) (T := TX5) (N := 6) hx hb hts ki5 hown hK hP 0 rfl rfl 0 (by decide) kf9 (fun _ h9 => h9) rfl dX5_takeRow_40 ?_
          refine lv_aload_n hx hb dX5_takeRow_43 rfl (lv_at hl 0 rfl) ?_
          refine va_get (D := (dC, dI)) (ci := 5) (v := .int x_iT2) (C := RX5) (T := TX5) (N := 6) hx hb hts ki5 hown hK hP 0 rfl rfl 2 (by decide) kf25 (fun _ h9 => h9) rfl dX5_takeRow_44 ?_
          refine va_bald (f := tx) hx hb hK hP 1 1 rfl rfl g_2 dX5_takeRow_47 ?_
          obtain ⟨q48, e48, h⟩ := g_b h
          refine callSi (cc := cX5_takeRow) (ws' := zzT ad cy (us iT [(2, x_iT2)]) x_wT tx) (As := [.int ((tx x_iT2.toNatClampNeg))]) (rest := []) ⟨hx, hb, hml, hown, hts⟩ (c_T_isDigit l dC dI cy ad H.size ((tx x_iT2.toNatClampNeg)) q48 e48) (va_cwS 1 hts (goodS m_ml_X5_48 m_st_X5_isDigit m_in_X5 m_cd_X5_isDigit) rfl rfl rfl (by decide +kernel) ⟨Nat.le_of_ble_eq_true rfl, Nat.le_of_ble_eq_true rfl⟩) hN hK hP hD hS hA [] [none, none] rfl rfl rfl rfl rfl rfl rfl hl.1 rfl (Nat.le_of_ble_eq_true rfl) dX5_takeRow_48 ⟨Nat.zero_le _, Nat.zero_le _⟩ (fun H locs hP hD hS => ?_)
          refine lv_if_eq (tgt := 89) hx hb dX5_takeRow_51 (by decide) (fun cz => ?_) (fun cz => ?_)
          · have h := g_t h cz
            exact B89 v1 x_iT2 x_wT H locs ls h hP hD hS (lv_sub hl [0, 1] rfl)
          · have h := g_f h cz
            exact B54 v1 x_iT2 x_wT (f_T_takeRow_13 N (iT 1) (iT 2) (iT 3) (iT 4) wT tx v1 n) (ih v1) H locs ls h hP hD hS (lv_sub hl [0, 1] rfl)
  intro H locs hP hD hS
  unfold f_T_takeRow at h
  refine lv_aload_n hx hb dX5_takeRow_0 rfl (lv_at hl 0 rfl) ?_
  refine va_get (D := (dC, dI)) (ci := 5) (v := .ref (ad 1)) (C := RX5) (T := TX5) (N := 6) hx hb hts ki5 hown hK hP 0 rfl rfl 0 (by decide) kf9 (fun _ h9 => h9) rfl dX5_takeRow_1 ?_
  refine lv_aload_n hx hb dX5_takeRow_4 rfl (lv_at hl 0 rfl) ?_
  refine va_get (D := (dC, dI)) (ci := 5) (v := .int (iT 3)) (C := RX5) (T := TX5) (N := 6) hx hb hts ki5 hown hK hP 0 rfl rfl 3 (by decide) kf34 (fun _ h9 => h9) rfl dX5_takeRow_5 ?_
  obtain ⟨g_3, h⟩ := g_n h
  refine va_bald (f := tx) hx hb hK hP 1 1 rfl rfl g_3 dX5_takeRow_8 ?_
  obtain ⟨q9, e9, h⟩ := g_b h
  refine callSi (cc := cX5_takeRow) (ws' := zzT ad cy iT wT tx) (As := [.int ((tx (iT 3).toNatClampNeg))]) (rest := []) ⟨hx, hb, hml, hown, hts⟩ (c_T_isLetter l dC dI cy ad H.size ((tx (iT 3).toNatClampNeg)) q9 e9) (va_cwS 1 hts (goodS m_ml_X5_44 m_st_X5_isLetter m_in_X5 m_cd_X5_isLetter) rfl rfl rfl (by decide +kernel) ⟨Nat.le_of_ble_eq_true rfl, Nat.le_of_ble_eq_true rfl⟩) hN hK hP hD hS hA [] [none, none] rfl rfl rfl rfl rfl rfl rfl hl.1 rfl (Nat.le_of_ble_eq_true rfl) dX5_takeRow_9 ⟨Nat.zero_le _, Nat.zero_le _⟩ (fun H locs hP hD hS => ?_)
  refine lv_istore_n (lv' := [(1, .int q9), (0, .ref (ad 0))]) hx hb dX5_takeRow_12 rfl hl (by decide) rfl (fun ls hl => ?_)
  exact B13 N q9 (iT 2) wT H locs ls h hP hD hS (lv_sub hl [1, 0] rfl)
set_option maxHeartbeats 8000000 in
set_option maxRecDepth 100000 in
theorem c_T_takeSign (l : Launch) (dC : Nat → ClassId) (dI : Nat → Nat → Nat) (cy : Nat → ClassId) (ad : Nat → Nat) (sz : Nat) (iT : Nat → Int32) (wT : Int64) (tx : Nat → Int32) (q : Int32 × Int32 × Int64) (h : f_T_takeSign (iT 2) (iT 4) wT tx = some q) : Met l yX5_takeSign wsX5_takeSign ({ frames := 0, cells := 0, slots := 0, locals := 0 } : Room) (cP (dC, dI) cy [.ref (ad 0)] (zzT ad cy iT wT tx) sz) (cQv (dC, dI) cy (zzT ad cy (us iT [(2, q.1), (4, q.2.1)]) q.2.2 tx) (va_A (zzT ad cy iT wT tx) sz)) 0 0 (va_A (zzT ad cy iT wT tx) sz) := by
  refine Met.ofW (cc := cX5_takeSign) (maxL := 2) (ret := none) (by decide) rfl ?_
  intro p e s m args below meth c s₁ B hml hv
  obtain ⟨hav, hsz, hP, hK, hD0, hN⟩ := hv
  have hx := B.exec
  have hb := B.bytes
  have hr := B.returns
  have hts := atoms_spec (ws := wsX5_takeSign) B.pre
  have hown : s.vm.findClass RX5 = some m.cls := findClass_of_methodNamed B.named
  have hlocks := B.notSynchronized
  subst hsz
  have hD := hD0.self (sz := s.heap.size)
  generalize hAe : va_A (zzT ad cy iT wT tx) s.heap.size = A at hD ⊢
  have hA : ∀ q : Nat, s.heap.size ≤ q → A q := fun q h => by rw [← hAe]; exact Or.inr h
  have hS : va_S A s.heap s.heap [] := va_S.rf
  generalize hWQ : (zzT ad cy (us iT [(2, q.1), (4, q.2.1)]) q.2.2 tx) = WQ
  generalize hQQ : MQ below (cQv (dC, dI) cy WQ A) args s 0 0 A = QQ
  have hl := lv_entry ([.ref (ad 0)] : List Value) (n := 2) (Nat.le_of_ble_eq_true rfl)
  have hfr := lg_entry_eq m ([.ref (ad 0)] : List Value) 2
  rw [← hav] at hfr
  rw [hfr]
  clear hfr hav
  generalize (lg_sl ([.ref (ad 0)] : List Value) ++ List.replicate (2 - (lg_sl ([.ref (ad 0)] : List Value)).length) Slot.unset).toArray = ls at hl ⊢
  have hl : lv_has ls 2 [(0, .ref (ad 0))] := hl
  have kf37 := hts _ (List.mem_cons_of_mem _ m_fl_X5_37)
  have ki5 := (fun w h => List.mem_cons_of_mem _ (i_X5 w h) : ∀ w ∈ u_ws RX5 TX5 6, w ∈ wsX5_takeSign)
  have kf41 := hts _ (List.mem_cons_of_mem _ m_fl_X5_41)
  have kf9 := hts _ (List.mem_cons_of_mem _ m_fl_X5_9)
  have kf25 := hts _ (List.mem_cons_of_mem _ m_fl_X5_25)
  have kc61 := hts _ (List.mem_cons_of_mem _ m_kl_X5_61)
  have kc63 := hts _ (List.mem_cons_of_mem _ m_kl_X5_63)
  have kc65 := hts _ (List.mem_cons_of_mem _ m_kl_X5_65)
  have kc67 := hts _ (List.mem_cons_of_mem _ m_kl_X5_67)
  have kc69 := hts _ (List.mem_cons_of_mem _ m_kl_X5_69)
  refine (?_ : ∀ (H : Heap) (locs : List Loc), va_P (dC, dI) vwCl (zzT ad cy iT wT tx) H → va_D A (zzT ad cy iT wT tx) → va_S A s.heap H locs → W p l e ({ frames := 0, cells := 0, slots := 0, locals := 0 } : Room) s m args below meth c H locs 0 0 QQ (F0 m 0 ls [])) s.heap [] hP hD hS
  clear hP hD hS
  have B65 : ∀ (v1 : Int32) (x_iT2 : Int32) (H : Heap) (locs : List Loc) (ls : Array Slot), f_T_takeSign_65 (iT 2) (iT 4) wT tx v1 x_iT2 = some q → va_P (dC, dI) vwCl (zzT ad cy (us iT [(2, x_iT2)]) wT tx) H → va_D A (zzT ad cy (us iT [(2, x_iT2)]) wT tx) → va_S A s.heap H locs → lv_has ls 2 [(0, .ref (ad 0)), (1, .int v1)] → W p l e ({ frames := 0, cells := 0, slots := 0, locals := 0 } : Room) s m args below meth c H locs 0 0 QQ (F0 m 65 ls []) := by
    intro v1 x_iT2 H locs ls h hP hD hS hl
    unfold f_T_takeSign_65 at h
    refine lv_aload_n hx hb dX5_takeSign_65 rfl (lv_at hl 0 rfl) ?_
    refine lv_iload_n hx hb dX5_takeSign_66 rfl (lv_at hl 1 rfl) ?_
    refine lv_i2l (v := (v1).toInt64) hx hb dX5_takeSign_67 rfl ?_
    refine va_put (D := (dC, dI)) (ci := 5) (v := .long (v1).toInt64) (ty := .long) (C := RX5) (T := TX5) (N := 6) hx hb hts ki5 tyX5 tyX5_ok nmX5 hown hK hP hD hS 0 rfl rfl 5 (by decide) kf37 (fun _ h9 => h9) rfl (by decide +kernel) rfl rfl (Nat.le_of_ble_eq_true rfl) dX5_takeSign_68 (fun H locs hP hD hS => ?_)
    have hP : va_P (dC, dI) vwCl (zzT ad cy (us iT [(2, x_iT2)]) (v1).toInt64 tx) H := hP
    have hD : va_D A (zzT ad cy (us iT [(2, x_iT2)]) (v1).toInt64 tx) := hD
    refine lv_aload_n hx hb dX5_takeSign_71 rfl (lv_at hl 0 rfl) ?_
    refine lv_iconst (v := 2) hx hb dX5_takeSign_72 (by decide) ?_
    refine va_put (D := (dC, dI)) (ci := 5) (v := .int ((2 : Int32))) (ty := .int) (C := RX5) (T := TX5) (N := 6) hx hb hts ki5 tyX5 tyX5_ok nmX5 hown hK hP hD hS 0 rfl rfl 4 (by decide) kf41 (fun _ h9 => h9) rfl (by decide +kernel) rfl rfl (Nat.le_of_ble_eq_true rfl) dX5_takeSign_73 (fun H locs hP hD hS => ?_)
    have hP : va_P (dC, dI) vwCl (zzT ad cy (us iT [(2, x_iT2), (4, (2 : Int32))]) (v1).toInt64 tx) H := Eq.mp (congrArg (fun w => va_P (dC, dI) vwCl w H) (stT_iT4 ad cy iT (v1).toInt64 tx [(2, x_iT2)] ((2 : Int32)))) hP
    have hD : va_D A (zzT ad cy (us iT [(2, x_iT2), (4, (2 : Int32))]) (v1).toInt64 tx) := Eq.mp (congrArg (fun w => va_D A w) (stT_iT4 ad cy iT (v1).toInt64 tx [(2, x_iT2)] ((2 : Int32)))) hD
    refine lv_goto (tgt := 84) hx hb dX5_takeSign_76 (by decide) ?_
    have h' := Option.some.inj h
    rw [← hQQ]
    exact W.vret hx hb hr (fun t ht hW => ⟨⟨(), rfl, trivial, by rw [← hWQ, ← h', ht]; exact hP, va_K.moved hW.alike hK⟩, hS.F ht⟩) hS.2.2 dX5_takeSign_84
  intro H locs hP hD hS
  unfold f_T_takeSign at h
  refine lv_aload_n hx hb dX5_takeSign_0 rfl (lv_at hl 0 rfl) ?_
  refine va_get (D := (dC, dI)) (ci := 5) (v := .ref (ad 1)) (C := RX5) (T := TX5) (N := 6) hx hb hts ki5 hown hK hP 0 rfl rfl 0 (by decide) kf9 (fun _ h9 => h9) rfl dX5_takeSign_1 ?_
  refine lv_aload_n hx hb dX5_takeSign_4 rfl (lv_at hl 0 rfl) ?_
  refine va_get (D := (dC, dI)) (ci := 5) (v := .int (iT 2)) (C := RX5) (T := TX5) (N := 6) hx hb hts ki5 hown hK hP 0 rfl rfl 2 (by decide) kf25 (fun _ h9 => h9) rfl dX5_takeSign_5 ?_
  obtain ⟨g_4, h⟩ := g_n h
  refine va_bald (f := tx) hx hb hK hP 1 1 rfl rfl g_4 dX5_takeSign_8 ?_
  refine lv_istore_n (lv' := [(1, .int ((tx (iT 2).toNatClampNeg))), (0, .ref (ad 0))]) hx hb dX5_takeSign_9 rfl hl (by decide) rfl (fun ls hl => ?_)
  refine lv_aload_n hx hb dX5_takeSign_10 rfl (lv_at hl 1 rfl) ?_
  refine lv_dup hx hb dX5_takeSign_11 rfl ?_
  refine va_get (D := (dC, dI)) (ci := 5) (v := .int (iT 2)) (C := RX5) (T := TX5) (N := 6) hx hb hts ki5 hown hK hP 0 rfl rfl 2 (by decide) kf25 (fun _ h9 => h9) rfl dX5_takeSign_12 ?_
  refine lv_iconst (v := 1) hx hb dX5_takeSign_15 (by decide) ?_
  refine lv_iadd hx hb dX5_takeSign_16 ?_
  refine va_put (D := (dC, dI)) (ci := 5) (v := .int (((iT 2) + (1 : Int32)))) (ty := .int) (C := RX5) (T := TX5) (N := 6) hx hb hts ki5 tyX5 tyX5_ok nmX5 hown hK hP hD hS 0 rfl rfl 2 (by decide) kf25 (fun _ h9 => h9) rfl (by decide +kernel) rfl rfl (Nat.le_of_ble_eq_true rfl) dX5_takeSign_17 (fun H locs hP hD hS => ?_)
  have hP : va_P (dC, dI) vwCl (zzT ad cy (us iT [(2, ((iT 2) + (1 : Int32)))]) wT tx) H := Eq.mp (congrArg (fun w => va_P (dC, dI) vwCl w H) (sfT_iT2 ad cy iT wT tx (((iT 2) + (1 : Int32))))) hP
  have hD : va_D A (zzT ad cy (us iT [(2, ((iT 2) + (1 : Int32)))]) wT tx) := Eq.mp (congrArg (fun w => va_D A w) (sfT_iT2 ad cy iT wT tx (((iT 2) + (1 : Int32))))) hD
  refine lv_iload_n hx hb dX5_takeSign_20 rfl (lv_at hl 0 rfl) ?_
  refine lv_i2l (v := ((tx (iT 2).toNatClampNeg)).toInt64) hx hb dX5_takeSign_21 rfl ?_
  refine lv_ldc2 (v := 60) hx hb hown kc61 dX5_takeSign_22 ?_
  refine W.lcmp hx hb dX5_takeSign_25 ?_
  refine lv_if_eq (tgt := 65) hx hb dX5_takeSign_26 (by decide) (fun cz => ?_) (fun cz => ?_)
  · have h := g_t h (lg_cmp0.mp cz)
    exact B65 ((tx (iT 2).toNatClampNeg)) (((iT 2) + (1 : Int32))) H locs ls h hP hD hS (lv_sub hl [1, 0] rfl)
  · have h := g_f h (fun z => cz (lg_cmp0.mpr z))
    refine lv_iload_n hx hb dX5_takeSign_29 rfl (lv_at hl 0 rfl) ?_
    refine lv_i2l (v := ((tx (iT 2).toNatClampNeg)).toInt64) hx hb dX5_takeSign_30 rfl ?_
    refine lv_ldc2 (v := 61) hx hb hown kc63 dX5_takeSign_31 ?_
    refine W.lcmp hx hb dX5_takeSign_34 ?_
    refine lv_if_eq (tgt := 65) hx hb dX5_takeSign_35 (by decide) (fun cz => ?_) (fun cz => ?_)
    · have h := g_t h (lg_cmp0.mp cz)
      exact B65 ((tx (iT 2).toNatClampNeg)) (((iT 2) + (1 : Int32))) H locs ls h hP hD hS (lv_sub hl [1, 0] rfl)
    · have h := g_f h (fun z => cz (lg_cmp0.mpr z))
      refine lv_iload_n hx hb dX5_takeSign_38 rfl (lv_at hl 0 rfl) ?_
      refine lv_i2l (v := ((tx (iT 2).toNatClampNeg)).toInt64) hx hb dX5_takeSign_39 rfl ?_
      refine lv_ldc2 (v := 59) hx hb hown kc65 dX5_takeSign_40 ?_
      refine W.lcmp hx hb dX5_takeSign_43 ?_
      refine lv_if_eq (tgt := 65) hx hb dX5_takeSign_44 (by decide) (fun cz => ?_) (fun cz => ?_)
      · have h := g_t h (lg_cmp0.mp cz)
        exact B65 ((tx (iT 2).toNatClampNeg)) (((iT 2) + (1 : Int32))) H locs ls h hP hD hS (lv_sub hl [1, 0] rfl)
      · have h := g_f h (fun z => cz (lg_cmp0.mpr z))
        refine lv_iload_n hx hb dX5_takeSign_47 rfl (lv_at hl 0 rfl) ?_
        refine lv_i2l (v := ((tx (iT 2).toNatClampNeg)).toInt64) hx hb dX5_takeSign_48 rfl ?_
        refine lv_ldc2 (v := 40) hx hb hown kc67 dX5_takeSign_49 ?_
        refine W.lcmp hx hb dX5_takeSign_52 ?_
        refine lv_if_eq (tgt := 65) hx hb dX5_takeSign_53 (by decide) (fun cz => ?_) (fun cz => ?_)
        · have h := g_t h (lg_cmp0.mp cz)
          exact B65 ((tx (iT 2).toNatClampNeg)) (((iT 2) + (1 : Int32))) H locs ls h hP hD hS (lv_sub hl [1, 0] rfl)
        · have h := g_f h (fun z => cz (lg_cmp0.mpr z))
          refine lv_iload_n hx hb dX5_takeSign_56 rfl (lv_at hl 0 rfl) ?_
          refine lv_i2l (v := ((tx (iT 2).toNatClampNeg)).toInt64) hx hb dX5_takeSign_57 rfl ?_
          refine lv_ldc2 (v := 41) hx hb hown kc69 dX5_takeSign_58 ?_
          refine W.lcmp hx hb dX5_takeSign_61 ?_
          refine lv_if_ne (tgt := 79) hx hb dX5_takeSign_62 (by decide) (fun cz => ?_) (fun cz => ?_)
          · have h := g_f h (fun z => cz (lg_cmp0.mpr z))
            refine lv_aload_n hx hb dX5_takeSign_79 rfl (lv_at hl 1 rfl) ?_
            refine lv_iconst (v := 0) hx hb dX5_takeSign_80 (by decide) ?_
            refine va_put (D := (dC, dI)) (ci := 5) (v := .int ((0 : Int32))) (ty := .int) (C := RX5) (T := TX5) (N := 6) hx hb hts ki5 tyX5 tyX5_ok nmX5 hown hK hP hD hS 0 rfl rfl 4 (by decide) kf41 (fun _ h9 => h9) rfl (by decide +kernel) rfl rfl (Nat.le_of_ble_eq_true rfl) dX5_takeSign_81 (fun H locs hP hD hS => ?_)
            have hP : va_P (dC, dI) vwCl (zzT ad cy (us iT [(2, ((iT 2) + (1 : Int32))), (4, (0 : Int32))]) wT tx) H := Eq.mp (congrArg (fun w => va_P (dC, dI) vwCl w H) (stT_iT4 ad cy iT wT tx [(2, ((iT 2) + (1 : Int32)))] ((0 : Int32)))) hP
            have hD : va_D A (zzT ad cy (us iT [(2, ((iT 2) + (1 : Int32))), (4, (0 : Int32))]) wT tx) := Eq.mp (congrArg (fun w => va_D A w) (stT_iT4 ad cy iT wT tx [(2, ((iT 2) + (1 : Int32)))] ((0 : Int32)))) hD
            have h' := Option.some.inj h
            rw [← hQQ]
            exact W.vret hx hb hr (fun t ht hW => ⟨⟨(), rfl, trivial, by rw [← hWQ, ← h', ht]; exact hP, va_K.moved hW.alike hK⟩, hS.F ht⟩) hS.2.2 dX5_takeSign_84
          · have h := g_t h (lg_cmp0.mp cz)
            exact B65 ((tx (iT 2).toNatClampNeg)) (((iT 2) + (1 : Int32))) H locs ls h hP hD hS (lv_sub hl [1, 0] rfl)
set_option maxHeartbeats 8000000 in
set_option maxRecDepth 100000 in
theorem c_T_step (l : Launch) (dC : Nat → ClassId) (dI : Nat → Nat → Nat) (cy : Nat → ClassId) (ad : Nat → Nat) (sz : Nat) (N : Nat) (iT : Nat → Int32) (wT : Int64) (tx : Nat → Int32) (q : Int32 × Int32 × Int32 × Int64) (h : f_T_step N (iT 1) (iT 2) (iT 3) (iT 4) wT tx = some q) : Met l yX5_step wsX5_step ({ frames := 2, cells := 0, slots := 0, locals := 42 } : Room) (cP (dC, dI) cy [.ref (ad 0)] (zzT ad cy iT wT tx) sz) (cQv (dC, dI) cy (zzT ad cy (us iT [(2, q.1), (3, q.2.1), (4, q.2.2.1)]) q.2.2.2 tx) (va_A (zzT ad cy iT wT tx) sz)) 0 0 (va_A (zzT ad cy iT wT tx) sz) := by
  refine Met.ofW (cc := cX5_step) (maxL := 1) (ret := none) (by decide) rfl ?_
  intro p e s m args below meth c s₁ B hml hv
  obtain ⟨hav, hsz, hP, hK, hD0, hN⟩ := hv
  have hx := B.exec
  have hb := B.bytes
  have hr := B.returns
  have hts := atoms_spec (ws := wsX5_step) B.pre
  have hown : s.vm.findClass RX5 = some m.cls := findClass_of_methodNamed B.named
  have hlocks := B.notSynchronized
  subst hsz
  have hD := hD0.self (sz := s.heap.size)
  generalize hAe : va_A (zzT ad cy iT wT tx) s.heap.size = A at hD ⊢
  have hA : ∀ q : Nat, s.heap.size ≤ q → A q := fun q h => by rw [← hAe]; exact Or.inr h
  have hS : va_S A s.heap s.heap [] := va_S.rf
  generalize hWQ : (zzT ad cy (us iT [(2, q.1), (3, q.2.1), (4, q.2.2.1)]) q.2.2.2 tx) = WQ
  generalize hQQ : MQ below (cQv (dC, dI) cy WQ A) args s 0 0 A = QQ
  have hl := lv_entry ([.ref (ad 0)] : List Value) (n := 1) (Nat.le_of_ble_eq_true rfl)
  have hfr := lg_entry_eq m ([.ref (ad 0)] : List Value) 1
  rw [← hav] at hfr
  rw [hfr]
  clear hfr hav
  generalize (lg_sl ([.ref (ad 0)] : List Value) ++ List.replicate (1 - (lg_sl ([.ref (ad 0)] : List Value)).length) Slot.unset).toArray = ls at hl ⊢
  have hl : lv_has ls 1 [(0, .ref (ad 0))] := hl
  have kf25 := hts _ (List.mem_cons_of_mem _ m_fl_X5_25)
  have ki5 := (fun w h => List.mem_cons_of_mem _ (i_X5 w h) : ∀ w ∈ u_ws RX5 TX5 6, w ∈ wsX5_step)
  have kf34 := hts _ (List.mem_cons_of_mem _ m_fl_X5_34)
  have kf37 := hts _ (List.mem_cons_of_mem _ m_fl_X5_37)
  have kf21 := hts _ (List.mem_cons_of_mem _ m_fl_X5_21)
  have kf9 := hts _ (List.mem_cons_of_mem _ m_fl_X5_9)
  have kf41 := hts _ (List.mem_cons_of_mem _ m_fl_X5_41)
  refine (?_ : ∀ (H : Heap) (locs : List Loc), va_P (dC, dI) vwCl (zzT ad cy iT wT tx) H → va_D A (zzT ad cy iT wT tx) → va_S A s.heap H locs → W p l e ({ frames := 2, cells := 0, slots := 0, locals := 42 } : Room) s m args below meth c H locs 0 0 QQ (F0 m 0 ls [])) s.heap [] hP hD hS
  clear hP hD hS
  have B66 : ∀ (x_iT2 : Int32) (x_iT3 : Int32) (x_wT : Int64) (H : Heap) (locs : List Loc) (ls : Array Slot), f_T_step_66 N (iT 1) (iT 2) (iT 3) (iT 4) wT tx x_iT2 x_iT3 x_wT = some q → va_P (dC, dI) vwCl (zzT ad cy (us iT [(2, x_iT2), (3, x_iT3)]) x_wT tx) H → va_D A (zzT ad cy (us iT [(2, x_iT2), (3, x_iT3)]) x_wT tx) → va_S A s.heap H locs → lv_has ls 1 [(0, .ref (ad 0))] → W p l e ({ frames := 2, cells := 0, slots := 0, locals := 42 } : Room) s m args below meth c H locs 0 0 QQ (F0 m 66 ls []) := by
    intro x_iT2 x_iT3 x_wT H locs ls h hP hD hS hl
    unfold f_T_step_66 at h
    refine lv_aload_n hx hb dX5_step_66 rfl (lv_at hl 0 rfl) ?_
    obtain ⟨q67, e67, h⟩ := g_b h
    refine callVvs (cc := cX5_step) (w1 := zzT ad cy (us iT [(2, q67.1), (3, x_iT3), (4, q67.2.1)]) q67.2.2 tx) (As := []) (rest := []) ⟨hx, hb, hml, hown, hts⟩ (c_T_takeRow l dC dI cy ad H.size N ((us iT [(2, x_iT2), (3, x_iT3)])) x_wT tx q67 e67) (cwV 0 hts (goodV m_ml_X5_51 m_im_X5_takeRow m_se_X5_takeRow m_in_X5 m_cd_X5_takeRow) rfl rfl rfl (by decide +kernel) ⟨Nat.le_of_ble_eq_true rfl, Nat.le_of_ble_eq_true rfl⟩) hN hK hP hD hS hA rfl 0 rfl rfl rfl hl.1 rfl (Nat.le_of_ble_eq_true rfl) dX5_step_67 ⟨Nat.zero_le _, Nat.zero_le _⟩ (fun H locs hP hD hS => ?_)
    refine lv_goto (tgt := 77) hx hb dX5_step_70 (by decide) ?_
    have h' := Option.some.inj h
    rw [← hQQ]
    exact W.vret hx hb hr (fun t ht hW => ⟨⟨(), rfl, trivial, by rw [← hWQ, ← h', ht]; exact hP, va_K.moved hW.alike hK⟩, hS.F ht⟩) hS.2.2 dX5_step_77
  intro H locs hP hD hS
  unfold f_T_step at h
  refine lv_aload_n hx hb dX5_step_0 rfl (lv_at hl 0 rfl) ?_
  obtain ⟨q1, e1, h⟩ := g_b h
  refine callVvs (cc := cX5_step) (w1 := zzT ad cy (us iT [(2, q1)]) wT tx) (As := []) (rest := []) ⟨hx, hb, hml, hown, hts⟩ (c_T_skipBlanks l dC dI cy ad H.size N iT wT tx q1 e1) (cwV 0 hts (goodV m_ml_X5_31 m_im_X5_skipBlanks m_se_X5_skipBlanks m_in_X5 m_cd_X5_skipBlanks) rfl rfl rfl (by decide +kernel) ⟨Nat.le_of_ble_eq_true rfl, Nat.le_of_ble_eq_true rfl⟩) hN hK hP hD hS hA rfl 0 rfl rfl rfl hl.1 rfl (Nat.le_of_ble_eq_true rfl) dX5_step_1 ⟨Nat.zero_le _, Nat.zero_le _⟩ (fun H locs hP hD hS => ?_)
  refine lv_aload_n hx hb dX5_step_4 rfl (lv_at hl 0 rfl) ?_
  refine lv_aload_n hx hb dX5_step_5 rfl (lv_at hl 0 rfl) ?_
  refine va_get (D := (dC, dI)) (ci := 5) (v := .int q1) (C := RX5) (T := TX5) (N := 6) hx hb hts ki5 hown hK hP 0 rfl rfl 2 (by decide) kf25 (fun _ h9 => h9) rfl dX5_step_6 ?_
  refine va_put (D := (dC, dI)) (ci := 5) (v := .int q1) (ty := .int) (C := RX5) (T := TX5) (N := 6) hx hb hts ki5 tyX5 tyX5_ok nmX5 hown hK hP hD hS 0 rfl rfl 3 (by decide) kf34 (fun _ h9 => h9) rfl (by decide +kernel) rfl rfl (Nat.le_of_ble_eq_true rfl) dX5_step_9 (fun H locs hP hD hS => ?_)
  have hP : va_P (dC, dI) vwCl (zzT ad cy (us iT [(2, q1), (3, q1)]) wT tx) H := Eq.mp (congrArg (fun w => va_P (dC, dI) vwCl w H) (stT_iT3 ad cy iT wT tx [(2, q1)] q1)) hP
  have hD : va_D A (zzT ad cy (us iT [(2, q1), (3, q1)]) wT tx) := Eq.mp (congrArg (fun w => va_D A w) (stT_iT3 ad cy iT wT tx [(2, q1)] q1)) hD
  refine lv_aload_n hx hb dX5_step_12 rfl (lv_at hl 0 rfl) ?_
  refine lv_lconst (v := 0) hx hb dX5_step_13 (by decide) ?_
  refine va_put (D := (dC, dI)) (ci := 5) (v := .long ((0 : Int64))) (ty := .long) (C := RX5) (T := TX5) (N := 6) hx hb hts ki5 tyX5 tyX5_ok nmX5 hown hK hP hD hS 0 rfl rfl 5 (by decide) kf37 (fun _ h9 => h9) rfl (by decide +kernel) rfl rfl (Nat.le_of_ble_eq_true rfl) dX5_step_14 (fun H locs hP hD hS => ?_)
  have hP : va_P (dC, dI) vwCl (zzT ad cy (us iT [(2, q1), (3, q1)]) (0 : Int64) tx) H := hP
  have hD : va_D A (zzT ad cy (us iT [(2, q1), (3, q1)]) (0 : Int64) tx) := hD
  refine lv_aload_n hx hb dX5_step_17 rfl (lv_at hl 0 rfl) ?_
  refine va_get (D := (dC, dI)) (ci := 5) (v := .int q1) (C := RX5) (T := TX5) (N := 6) hx hb hts ki5 hown hK hP 0 rfl rfl 2 (by decide) kf25 (fun _ h9 => h9) rfl dX5_step_18 ?_
  refine lv_aload_n hx hb dX5_step_21 rfl (lv_at hl 0 rfl) ?_
  refine va_get (D := (dC, dI)) (ci := 5) (v := .int (iT 1)) (C := RX5) (T := TX5) (N := 6) hx hb hts ki5 hown hK hP 0 rfl rfl 1 (by decide) kf21 (fun _ h9 => h9) rfl dX5_step_22 ?_
  refine lv_icmp_lt (tgt := 36) hx hb dX5_step_25 (by decide) (fun cz => ?_) (fun cz => ?_)
  · have h := g_t h cz
    refine lv_aload_n hx hb dX5_step_36 rfl (lv_at hl 0 rfl) ?_
    refine va_get (D := (dC, dI)) (ci := 5) (v := .ref (ad 1)) (C := RX5) (T := TX5) (N := 6) hx hb hts ki5 hown hK hP 0 rfl rfl 0 (by decide) kf9 (fun _ h9 => h9) rfl dX5_step_37 ?_
    refine lv_aload_n hx hb dX5_step_40 rfl (lv_at hl 0 rfl) ?_
    refine va_get (D := (dC, dI)) (ci := 5) (v := .int q1) (C := RX5) (T := TX5) (N := 6) hx hb hts ki5 hown hK hP 0 rfl rfl 2 (by decide) kf25 (fun _ h9 => h9) rfl dX5_step_41 ?_
    obtain ⟨g_5, h⟩ := g_n h
    refine va_bald (f := tx) hx hb hK hP 1 1 rfl rfl g_5 dX5_step_44 ?_
    obtain ⟨q45, e45, h⟩ := g_b h
    refine callSi (cc := cX5_step) (ws' := zzT ad cy (us iT [(2, q1), (3, q1)]) (0 : Int64) tx) (As := [.int ((tx q1.toNatClampNeg))]) (rest := []) ⟨hx, hb, hml, hown, hts⟩ (c_T_isLetter l dC dI cy ad H.size ((tx q1.toNatClampNeg)) q45 e45) (va_cwS 1 hts (goodS m_ml_X5_44 m_st_X5_isLetter m_in_X5 m_cd_X5_isLetter) rfl rfl rfl (by decide +kernel) ⟨Nat.le_of_ble_eq_true rfl, Nat.le_of_ble_eq_true rfl⟩) hN hK hP hD hS hA [] [none, none] rfl rfl rfl rfl rfl rfl rfl hl.1 rfl (Nat.le_of_ble_eq_true rfl) dX5_step_45 ⟨Nat.zero_le _, Nat.zero_le _⟩ (fun H locs hP hD hS => ?_)
    refine lv_if_ne (tgt := 66) hx hb dX5_step_48 (by decide) (fun cz => ?_) (fun cz => ?_)
    · have h := g_f h cz
      exact B66 q1 q1 ((0 : Int64)) H locs ls h hP hD hS (lv_sub hl [0] rfl)
    · have h := g_t h cz
      refine lv_aload_n hx hb dX5_step_51 rfl (lv_at hl 0 rfl) ?_
      refine va_get (D := (dC, dI)) (ci := 5) (v := .ref (ad 1)) (C := RX5) (T := TX5) (N := 6) hx hb hts ki5 hown hK hP 0 rfl rfl 0 (by decide) kf9 (fun _ h9 => h9) rfl dX5_step_52 ?_
      refine lv_aload_n hx hb dX5_step_55 rfl (lv_at hl 0 rfl) ?_
      refine va_get (D := (dC, dI)) (ci := 5) (v := .int q1) (C := RX5) (T := TX5) (N := 6) hx hb hts ki5 hown hK hP 0 rfl rfl 2 (by decide) kf25 (fun _ h9 => h9) rfl dX5_step_56 ?_
      refine va_bald (f := tx) hx hb hK hP 1 1 rfl rfl g_5 dX5_step_59 ?_
      obtain ⟨q60, e60, h⟩ := g_b h
      refine callSi (cc := cX5_step) (ws' := zzT ad cy (us iT [(2, q1), (3, q1)]) (0 : Int64) tx) (As := [.int ((tx q1.toNatClampNeg))]) (rest := []) ⟨hx, hb, hml, hown, hts⟩ (c_T_isDigit l dC dI cy ad H.size ((tx q1.toNatClampNeg)) q60 e60) (va_cwS 1 hts (goodS m_ml_X5_48 m_st_X5_isDigit m_in_X5 m_cd_X5_isDigit) rfl rfl rfl (by decide +kernel) ⟨Nat.le_of_ble_eq_true rfl, Nat.le_of_ble_eq_true rfl⟩) hN hK hP hD hS hA [] [none, none] rfl rfl rfl rfl rfl rfl rfl hl.1 rfl (Nat.le_of_ble_eq_true rfl) dX5_step_60 ⟨Nat.zero_le _, Nat.zero_le _⟩ (fun H locs hP hD hS => ?_)
      refine lv_if_eq (tgt := 73) hx hb dX5_step_63 (by decide) (fun cz => ?_) (fun cz => ?_)
      · have h := g_t h cz
        refine lv_aload_n hx hb dX5_step_73 rfl (lv_at hl 0 rfl) ?_
        obtain ⟨q74, e74, h⟩ := g_b h
        refine callVvs (cc := cX5_step) (w1 := zzT ad cy (us iT [(2, q74.1), (3, q1), (4, q74.2.1)]) q74.2.2 tx) (As := []) (rest := []) ⟨hx, hb, hml, hown, hts⟩ (c_T_takeSign l dC dI cy ad H.size ((us iT [(2, q1), (3, q1)])) ((0 : Int64)) tx q74 e74) (cwV 0 hts (goodV m_ml_X5_54 m_im_X5_takeSign m_se_X5_takeSign m_in_X5 m_cd_X5_takeSign) rfl rfl rfl (by decide +kernel) ⟨Nat.le_of_ble_eq_true rfl, Nat.le_of_ble_eq_true rfl⟩) hN hK hP hD hS hA rfl 0 rfl rfl rfl hl.1 rfl (Nat.le_of_ble_eq_true rfl) dX5_step_74 ⟨Nat.zero_le _, Nat.zero_le _⟩ (fun H locs hP hD hS => ?_)
        have h' := Option.some.inj h
        rw [← hQQ]
        exact W.vret hx hb hr (fun t ht hW => ⟨⟨(), rfl, trivial, by rw [← hWQ, ← h', ht]; exact hP, va_K.moved hW.alike hK⟩, hS.F ht⟩) hS.2.2 dX5_step_77
      · have h := g_f h cz
        exact B66 q1 q1 ((0 : Int64)) H locs ls h hP hD hS (lv_sub hl [0] rfl)
  · have h := g_f h cz
    refine lv_aload_n hx hb dX5_step_28 rfl (lv_at hl 0 rfl) ?_
    refine lv_iconst (v := 1) hx hb dX5_step_29 (by decide) ?_
    refine va_put (D := (dC, dI)) (ci := 5) (v := .int ((1 : Int32))) (ty := .int) (C := RX5) (T := TX5) (N := 6) hx hb hts ki5 tyX5 tyX5_ok nmX5 hown hK hP hD hS 0 rfl rfl 4 (by decide) kf41 (fun _ h9 => h9) rfl (by decide +kernel) rfl rfl (Nat.le_of_ble_eq_true rfl) dX5_step_30 (fun H locs hP hD hS => ?_)
    have hP : va_P (dC, dI) vwCl (zzT ad cy (us iT [(2, q1), (3, q1), (4, (1 : Int32))]) (0 : Int64) tx) H := Eq.mp (congrArg (fun w => va_P (dC, dI) vwCl w H) (stT_iT4 ad cy iT (0 : Int64) tx [(2, q1), (3, q1)] ((1 : Int32)))) hP
    have hD : va_D A (zzT ad cy (us iT [(2, q1), (3, q1), (4, (1 : Int32))]) (0 : Int64) tx) := Eq.mp (congrArg (fun w => va_D A w) (stT_iT4 ad cy iT (0 : Int64) tx [(2, q1), (3, q1)] ((1 : Int32)))) hD
    refine lv_goto (tgt := 77) hx hb dX5_step_33 (by decide) ?_
    have h' := Option.some.inj h
    rw [← hQQ]
    exact W.vret hx hb hr (fun t ht hW => ⟨⟨(), rfl, trivial, by rw [← hWQ, ← h', ht]; exact hP, va_K.moved hW.alike hK⟩, hS.F ht⟩) hS.2.2 dX5_step_77
set_option maxHeartbeats 8000000 in
set_option maxRecDepth 100000 in
theorem c_T_start (l : Launch) (dC : Nat → ClassId) (dI : Nat → Nat → Nat) (cy : Nat → ClassId) (ad : Nat → Nat) (sz : Nat) (N : Nat) (a1 : Int32) (iT : Nat → Int32) (wT : Int64) (tx : Nat → Int32) (q : Int32 × Int32 × Int32 × Int32 × Int64) (h : f_T_start N a1 (iT 1) (iT 2) (iT 3) (iT 4) wT tx = some q) : Met l yX5_start wsX5_start ({ frames := 3, cells := 0, slots := 0, locals := 62 } : Room) (cP (dC, dI) cy [.ref (ad 0), .int a1] (zzT ad cy iT wT tx) sz) (cQv (dC, dI) cy (zzT ad cy (us iT [(1, q.1), (2, q.2.1), (3, q.2.2.1), (4, q.2.2.2.1)]) q.2.2.2.2 tx) (va_A (zzT ad cy iT wT tx) sz)) 0 0 (va_A (zzT ad cy iT wT tx) sz) := by
  refine Met.ofW (cc := cX5_start) (maxL := 2) (ret := none) (by decide) rfl ?_
  intro p e s m args below meth c s₁ B hml hv
  obtain ⟨hav, hsz, hP, hK, hD0, hN⟩ := hv
  have hx := B.exec
  have hb := B.bytes
  have hr := B.returns
  have hts := atoms_spec (ws := wsX5_start) B.pre
  have hown : s.vm.findClass RX5 = some m.cls := findClass_of_methodNamed B.named
  have hlocks := B.notSynchronized
  subst hsz
  have hD := hD0.self (sz := s.heap.size)
  generalize hAe : va_A (zzT ad cy iT wT tx) s.heap.size = A at hD ⊢
  have hA : ∀ q : Nat, s.heap.size ≤ q → A q := fun q h => by rw [← hAe]; exact Or.inr h
  have hS : va_S A s.heap s.heap [] := va_S.rf
  generalize hWQ : (zzT ad cy (us iT [(1, q.1), (2, q.2.1), (3, q.2.2.1), (4, q.2.2.2.1)]) q.2.2.2.2 tx) = WQ
  generalize hQQ : MQ below (cQv (dC, dI) cy WQ A) args s 0 0 A = QQ
  have hl := lv_entry ([.ref (ad 0), .int a1] : List Value) (n := 2) (Nat.le_of_ble_eq_true rfl)
  have hfr := lg_entry_eq m ([.ref (ad 0), .int a1] : List Value) 2
  rw [← hav] at hfr
  rw [hfr]
  clear hfr hav
  generalize (lg_sl ([.ref (ad 0), .int a1] : List Value) ++ List.replicate (2 - (lg_sl ([.ref (ad 0), .int a1] : List Value)).length) Slot.unset).toArray = ls at hl ⊢
  have hl : lv_has ls 2 [(0, .ref (ad 0)), (1, .int a1)] := hl
  have kf9 := hts _ (List.mem_cons_of_mem _ m_fl_X5_9)
  have ki5 := (fun w h => List.mem_cons_of_mem _ (i_X5 w h) : ∀ w ∈ u_ws RX5 TX5 6, w ∈ wsX5_start)
  have km1 := hts _ (List.mem_cons_of_mem _ m_ml_X5_15)
  have km2 := hts _ (List.mem_cons_of_mem _ m_st_java_lang_Math_min)
  have km3 := hts _ (List.mem_cons_of_mem _ m_in_java_lang_Math)
  have km4 := hts _ (List.mem_cons_of_mem _ m_cd_java_lang_Math_min)
  have kf21 := hts _ (List.mem_cons_of_mem _ m_fl_X5_21)
  have kf25 := hts _ (List.mem_cons_of_mem _ m_fl_X5_25)
  refine (?_ : ∀ (H : Heap) (locs : List Loc), va_P (dC, dI) vwCl (zzT ad cy iT wT tx) H → va_D A (zzT ad cy iT wT tx) → va_S A s.heap H locs → W p l e ({ frames := 3, cells := 0, slots := 0, locals := 62 } : Room) s m args below meth c H locs 0 0 QQ (F0 m 0 ls [])) s.heap [] hP hD hS
  clear hP hD hS
  intro H locs hP hD hS
  unfold f_T_start at h
  refine lv_aload_n hx hb dX5_start_0 rfl (lv_at hl 0 rfl) ?_
  refine lv_iload_n hx hb dX5_start_1 rfl (lv_at hl 1 rfl) ?_
  refine lv_aload_n hx hb dX5_start_2 rfl (lv_at hl 0 rfl) ?_
  refine va_get (D := (dC, dI)) (ci := 5) (v := .ref (ad 1)) (C := RX5) (T := TX5) (N := 6) hx hb hts ki5 hown hK hP 0 rfl rfl 0 (by decide) kf9 (fun _ h9 => h9) rfl dX5_start_3 ?_
  refine va_alen (v := (2000 : Int32)) hx hb hK hP 1 1 rfl rfl rfl dX5_start_6 ?_
  refine va_mmin hx hb (by rw [hml]; exact hl.1.symm) hown km1 km2 km3 km4 (Nat.le_of_ble_eq_true rfl) (Nat.le_of_ble_eq_true rfl) (Nat.zero_le _) (Nat.zero_le _) dX5_start_7 ?_
  refine va_put (D := (dC, dI)) (ci := 5) (v := .int ((if (2000 : Int32) < a1 then (2000 : Int32) else a1))) (ty := .int) (C := RX5) (T := TX5) (N := 6) hx hb hts ki5 tyX5 tyX5_ok nmX5 hown hK hP hD hS 0 rfl rfl 1 (by decide) kf21 (fun _ h9 => h9) rfl (by decide +kernel) rfl rfl (Nat.le_of_ble_eq_true rfl) dX5_start_10 (fun H locs hP hD hS => ?_)
  have hP : va_P (dC, dI) vwCl (zzT ad cy (us iT [(1, (if (2000 : Int32) < a1 then (2000 : Int32) else a1))]) wT tx) H := Eq.mp (congrArg (fun w => va_P (dC, dI) vwCl w H) (sfT_iT1 ad cy iT wT tx ((if (2000 : Int32) < a1 then (2000 : Int32) else a1)))) hP
  have hD : va_D A (zzT ad cy (us iT [(1, (if (2000 : Int32) < a1 then (2000 : Int32) else a1))]) wT tx) := Eq.mp (congrArg (fun w => va_D A w) (sfT_iT1 ad cy iT wT tx ((if (2000 : Int32) < a1 then (2000 : Int32) else a1)))) hD
  refine lv_aload_n hx hb dX5_start_13 rfl (lv_at hl 0 rfl) ?_
  refine lv_iconst (v := 0) hx hb dX5_start_14 (by decide) ?_
  refine va_put (D := (dC, dI)) (ci := 5) (v := .int ((0 : Int32))) (ty := .int) (C := RX5) (T := TX5) (N := 6) hx hb hts ki5 tyX5 tyX5_ok nmX5 hown hK hP hD hS 0 rfl rfl 2 (by decide) kf25 (fun _ h9 => h9) rfl (by decide +kernel) rfl rfl (Nat.le_of_ble_eq_true rfl) dX5_start_15 (fun H locs hP hD hS => ?_)
  have hP : va_P (dC, dI) vwCl (zzT ad cy (us iT [(1, (if (2000 : Int32) < a1 then (2000 : Int32) else a1)), (2, (0 : Int32))]) wT tx) H := Eq.mp (congrArg (fun w => va_P (dC, dI) vwCl w H) (stT_iT2 ad cy iT wT tx [(1, (if (2000 : Int32) < a1 then (2000 : Int32) else a1))] ((0 : Int32)))) hP
  have hD : va_D A (zzT ad cy (us iT [(1, (if (2000 : Int32) < a1 then (2000 : Int32) else a1)), (2, (0 : Int32))]) wT tx) := Eq.mp (congrArg (fun w => va_D A w) (stT_iT2 ad cy iT wT tx [(1, (if (2000 : Int32) < a1 then (2000 : Int32) else a1))] ((0 : Int32)))) hD
  refine lv_aload_n hx hb dX5_start_18 rfl (lv_at hl 0 rfl) ?_
  obtain ⟨q19, e19, h⟩ := g_b h
  refine callVvs (cc := cX5_start) (w1 := zzT ad cy (us iT [(1, (if (2000 : Int32) < a1 then (2000 : Int32) else a1)), (2, q19.1), (3, q19.2.1), (4, q19.2.2.1)]) q19.2.2.2 tx) (As := []) (rest := []) ⟨hx, hb, hml, hown, hts⟩ (c_T_step l dC dI cy ad H.size N ((us iT [(1, (if (2000 : Int32) < a1 then (2000 : Int32) else a1)), (2, (0 : Int32))])) wT tx q19 e19) (cwV 0 hts (goodV m_ml_X5_28 m_im_X5_step m_se_X5_step m_in_X5 m_cd_X5_step) rfl rfl rfl (by decide +kernel) ⟨Nat.le_of_ble_eq_true rfl, Nat.le_of_ble_eq_true rfl⟩) hN hK hP hD hS hA rfl 0 rfl rfl rfl hl.1 rfl (Nat.le_of_ble_eq_true rfl) dX5_start_19 ⟨Nat.zero_le _, Nat.zero_le _⟩ (fun H locs hP hD hS => ?_)
  have h' := Option.some.inj h
  rw [← hQQ]
  exact W.vret hx hb hr (fun t ht hW => ⟨⟨(), rfl, trivial, by rw [← hWQ, ← h', ht]; exact hP, va_K.moved hW.alike hK⟩, hS.F ht⟩) hS.2.2 dX5_start_22
set_option maxHeartbeats 8000000 in
set_option maxRecDepth 100000 in
theorem c_T_holdsConcept (l : Launch) (dC : Nat → ClassId) (dI : Nat → Nat → Nat) (cy : Nat → ClassId) (ad : Nat → Nat) (sz : Nat) (iT : Nat → Int32) (wT : Int64) (tx : Nat → Int32) (q : Int32) (h : f_T_holdsConcept wT = some q) : Met l yX5_holdsConcept wsX5_holdsConcept ({ frames := 0, cells := 0, slots := 0, locals := 0 } : Room) (cP (dC, dI) cy [.ref (ad 0)] (zzT ad cy iT wT tx) sz) (cQi (dC, dI) cy q (zzT ad cy iT wT tx) (va_A (zzT ad cy iT wT tx) sz)) 0 0 (va_A (zzT ad cy iT wT tx) sz) := by
  refine Met.ofW (cc := cX5_holdsConcept) (maxL := 1) (ret := (some .boolean)) (by decide) rfl ?_
  intro p e s m args below meth c s₁ B hml hv
  obtain ⟨hav, hsz, hP, hK, hD0, hN⟩ := hv
  have hx := B.exec
  have hb := B.bytes
  have hr := B.returns
  have hts := atoms_spec (ws := wsX5_holdsConcept) B.pre
  have hown : s.vm.findClass RX5 = some m.cls := findClass_of_methodNamed B.named
  have hlocks := B.notSynchronized
  subst hsz
  have hD := hD0.self (sz := s.heap.size)
  generalize hAe : va_A (zzT ad cy iT wT tx) s.heap.size = A at hD ⊢
  have hA : ∀ q : Nat, s.heap.size ≤ q → A q := fun q h => by rw [← hAe]; exact Or.inr h
  have hS : va_S A s.heap s.heap [] := va_S.rf
  generalize hWQ : (zzT ad cy iT wT tx) = WQ
  generalize hQQ : MQ below (cQi (dC, dI) cy q WQ A) args s 0 0 A = QQ
  have hl := lv_entry ([.ref (ad 0)] : List Value) (n := 1) (Nat.le_of_ble_eq_true rfl)
  have hfr := lg_entry_eq m ([.ref (ad 0)] : List Value) 1
  rw [← hav] at hfr
  rw [hfr]
  clear hfr hav
  generalize (lg_sl ([.ref (ad 0)] : List Value) ++ List.replicate (1 - (lg_sl ([.ref (ad 0)] : List Value)).length) Slot.unset).toArray = ls at hl ⊢
  have hl : lv_has ls 1 [(0, .ref (ad 0))] := hl
  have kf37 := hts _ (List.mem_cons_of_mem _ m_fl_X5_37)
  have ki5 := (fun w h => List.mem_cons_of_mem _ (i_X5 w h) : ∀ w ∈ u_ws RX5 TX5 6, w ∈ wsX5_holdsConcept)
  have kc81 := hts _ (List.mem_cons_of_mem _ m_kl_X5_81)
  have kc83 := hts _ (List.mem_cons_of_mem _ m_kl_X5_83)
  have kc85 := hts _ (List.mem_cons_of_mem _ m_kl_X5_85)
  have kc67 := hts _ (List.mem_cons_of_mem _ m_kl_X5_67)
  refine (?_ : ∀ (H : Heap) (locs : List Loc), va_P (dC, dI) vwCl (zzT ad cy iT wT tx) H → va_D A (zzT ad cy iT wT tx) → va_S A s.heap H locs → W p l e ({ frames := 0, cells := 0, slots := 0, locals := 0 } : Room) s m args below meth c H locs 0 0 QQ (F0 m 0 ls [])) s.heap [] hP hD hS
  clear hP hD hS
  intro H locs hP hD hS
  unfold f_T_holdsConcept at h
  refine lv_aload_n hx hb dX5_holdsConcept_0 rfl (lv_at hl 0 rfl) ?_
  refine va_get (D := (dC, dI)) (ci := 5) (v := .long wT) (C := RX5) (T := TX5) (N := 6) hx hb hts ki5 hown hK hP 0 rfl rfl 5 (by decide) kf37 (fun _ h9 => h9) rfl dX5_holdsConcept_1 ?_
  refine lv_ldc2 (v := 7237492) hx hb hown kc81 dX5_holdsConcept_4 ?_
  refine W.lcmp hx hb dX5_holdsConcept_7 ?_
  refine lv_if_eq (tgt := 44) hx hb dX5_holdsConcept_8 (by decide) (fun cz => ?_) (fun cz => ?_)
  · have h := g_t h (lg_cmp0.mp cz)
    refine lv_iconst (v := 1) hx hb dX5_holdsConcept_44 (by decide) ?_
    refine lv_goto (tgt := 49) hx hb dX5_holdsConcept_45 (by decide) ?_
    have h' := Option.some.inj h
    rw [← hQQ]
    exact W.zret (v := (1 : Int32)) hx hb hr rfl (fun t ht hW => ⟨⟨(1 : Int32), (), rfl, by rw [← h'], by rw [← hWQ, ht]; exact hP, va_K.moved hW.alike hK⟩, hS.F ht⟩) hS.2.2 dX5_holdsConcept_49
  · have h := g_f h (fun z => cz (lg_cmp0.mpr z))
    refine lv_aload_n hx hb dX5_holdsConcept_11 rfl (lv_at hl 0 rfl) ?_
    refine va_get (D := (dC, dI)) (ci := 5) (v := .long wT) (C := RX5) (T := TX5) (N := 6) hx hb hts ki5 hown hK hP 0 rfl rfl 5 (by decide) kf37 (fun _ h9 => h9) rfl dX5_holdsConcept_12 ?_
    refine lv_ldc2 (v := 1936682341) hx hb hown kc83 dX5_holdsConcept_15 ?_
    refine W.lcmp hx hb dX5_holdsConcept_18 ?_
    refine lv_if_eq (tgt := 44) hx hb dX5_holdsConcept_19 (by decide) (fun cz => ?_) (fun cz => ?_)
    · have h := g_t h (lg_cmp0.mp cz)
      refine lv_iconst (v := 1) hx hb dX5_holdsConcept_44 (by decide) ?_
      refine lv_goto (tgt := 49) hx hb dX5_holdsConcept_45 (by decide) ?_
      have h' := Option.some.inj h
      rw [← hQQ]
      exact W.zret (v := (1 : Int32)) hx hb hr rfl (fun t ht hW => ⟨⟨(1 : Int32), (), rfl, by rw [← h'], by rw [← hWQ, ht]; exact hP, va_K.moved hW.alike hK⟩, hS.F ht⟩) hS.2.2 dX5_holdsConcept_49
    · have h := g_f h (fun z => cz (lg_cmp0.mpr z))
      refine lv_aload_n hx hb dX5_holdsConcept_22 rfl (lv_at hl 0 rfl) ?_
      refine va_get (D := (dC, dI)) (ci := 5) (v := .long wT) (C := RX5) (T := TX5) (N := 6) hx hb hts ki5 hown hK hP 0 rfl rfl 5 (by decide) kf37 (fun _ h9 => h9) rfl dX5_holdsConcept_23 ?_
      refine lv_ldc2 (v := 435778056825) hx hb hown kc85 dX5_holdsConcept_26 ?_
      refine W.lcmp hx hb dX5_holdsConcept_29 ?_
      refine lv_if_eq (tgt := 44) hx hb dX5_holdsConcept_30 (by decide) (fun cz => ?_) (fun cz => ?_)
      · have h := g_t h (lg_cmp0.mp cz)
        refine lv_iconst (v := 1) hx hb dX5_holdsConcept_44 (by decide) ?_
        refine lv_goto (tgt := 49) hx hb dX5_holdsConcept_45 (by decide) ?_
        have h' := Option.some.inj h
        rw [← hQQ]
        exact W.zret (v := (1 : Int32)) hx hb hr rfl (fun t ht hW => ⟨⟨(1 : Int32), (), rfl, by rw [← h'], by rw [← hWQ, ht]; exact hP, va_K.moved hW.alike hK⟩, hS.F ht⟩) hS.2.2 dX5_holdsConcept_49
      · have h := g_f h (fun z => cz (lg_cmp0.mpr z))
        refine lv_aload_n hx hb dX5_holdsConcept_33 rfl (lv_at hl 0 rfl) ?_
        refine va_get (D := (dC, dI)) (ci := 5) (v := .long wT) (C := RX5) (T := TX5) (N := 6) hx hb hts ki5 hown hK hP 0 rfl rfl 5 (by decide) kf37 (fun _ h9 => h9) rfl dX5_holdsConcept_34 ?_
        refine lv_ldc2 (v := 40) hx hb hown kc67 dX5_holdsConcept_37 ?_
        refine W.lcmp hx hb dX5_holdsConcept_40 ?_
        refine lv_if_ne (tgt := 48) hx hb dX5_holdsConcept_41 (by decide) (fun cz => ?_) (fun cz => ?_)
        · have h := g_f h (fun z => cz (lg_cmp0.mpr z))
          refine lv_iconst (v := 0) hx hb dX5_holdsConcept_48 (by decide) ?_
          have h' := Option.some.inj h
          rw [← hQQ]
          exact W.zret (v := (0 : Int32)) hx hb hr rfl (fun t ht hW => ⟨⟨(0 : Int32), (), rfl, by rw [← h'], by rw [← hWQ, ht]; exact hP, va_K.moved hW.alike hK⟩, hS.F ht⟩) hS.2.2 dX5_holdsConcept_49
        · have h := g_t h (lg_cmp0.mp cz)
          refine lv_iconst (v := 1) hx hb dX5_holdsConcept_44 (by decide) ?_
          refine lv_goto (tgt := 49) hx hb dX5_holdsConcept_45 (by decide) ?_
          have h' := Option.some.inj h
          rw [← hQQ]
          exact W.zret (v := (1 : Int32)) hx hb hr rfl (fun t ht hW => ⟨⟨(1 : Int32), (), rfl, by rw [← h'], by rw [← hWQ, ht]; exact hP, va_K.moved hW.alike hK⟩, hS.F ht⟩) hS.2.2 dX5_holdsConcept_49
set_option maxHeartbeats 8000000 in
set_option maxRecDepth 100000 in
theorem c_T_beginsConcept (l : Launch) (dC : Nat → ClassId) (dI : Nat → Nat → Nat) (cy : Nat → ClassId) (ad : Nat → Nat) (sz : Nat) (iT : Nat → Int32) (wT : Int64) (tx : Nat → Int32) (q : Int32) (h : f_T_beginsConcept (iT 4) wT = some q) : Met l yX5_beginsConcept wsX5_beginsConcept ({ frames := 1, cells := 0, slots := 0, locals := 20 } : Room) (cP (dC, dI) cy [.ref (ad 0)] (zzT ad cy iT wT tx) sz) (cQi (dC, dI) cy q (zzT ad cy iT wT tx) (va_A (zzT ad cy iT wT tx) sz)) 0 0 (va_A (zzT ad cy iT wT tx) sz) := by
  refine Met.ofW (cc := cX5_beginsConcept) (maxL := 1) (ret := (some .boolean)) (by decide) rfl ?_
  intro p e s m args below meth c s₁ B hml hv
  obtain ⟨hav, hsz, hP, hK, hD0, hN⟩ := hv
  have hx := B.exec
  have hb := B.bytes
  have hr := B.returns
  have hts := atoms_spec (ws := wsX5_beginsConcept) B.pre
  have hown : s.vm.findClass RX5 = some m.cls := findClass_of_methodNamed B.named
  have hlocks := B.notSynchronized
  subst hsz
  have hD := hD0.self (sz := s.heap.size)
  generalize hAe : va_A (zzT ad cy iT wT tx) s.heap.size = A at hD ⊢
  have hA : ∀ q : Nat, s.heap.size ≤ q → A q := fun q h => by rw [← hAe]; exact Or.inr h
  have hS : va_S A s.heap s.heap [] := va_S.rf
  generalize hWQ : (zzT ad cy iT wT tx) = WQ
  generalize hQQ : MQ below (cQi (dC, dI) cy q WQ A) args s 0 0 A = QQ
  have hl := lv_entry ([.ref (ad 0)] : List Value) (n := 1) (Nat.le_of_ble_eq_true rfl)
  have hfr := lg_entry_eq m ([.ref (ad 0)] : List Value) 1
  rw [← hav] at hfr
  rw [hfr]
  clear hfr hav
  generalize (lg_sl ([.ref (ad 0)] : List Value) ++ List.replicate (1 - (lg_sl ([.ref (ad 0)] : List Value)).length) Slot.unset).toArray = ls at hl ⊢
  have hl : lv_has ls 1 [(0, .ref (ad 0))] := hl
  have kf41 := hts _ (List.mem_cons_of_mem _ m_fl_X5_41)
  have ki5 := (fun w h => List.mem_cons_of_mem _ (i_X5 w h) : ∀ w ∈ u_ws RX5 TX5 6, w ∈ wsX5_beginsConcept)
  have kf37 := hts _ (List.mem_cons_of_mem _ m_fl_X5_37)
  have kc87 := hts _ (List.mem_cons_of_mem _ m_kl_X5_87)
  have kc89 := hts _ (List.mem_cons_of_mem _ m_kl_X5_89)
  refine (?_ : ∀ (H : Heap) (locs : List Loc), va_P (dC, dI) vwCl (zzT ad cy iT wT tx) H → va_D A (zzT ad cy iT wT tx) → va_S A s.heap H locs → W p l e ({ frames := 1, cells := 0, slots := 0, locals := 20 } : Room) s m args below meth c H locs 0 0 QQ (F0 m 0 ls [])) s.heap [] hP hD hS
  clear hP hD hS
  intro H locs hP hD hS
  unfold f_T_beginsConcept at h
  refine lv_aload_n hx hb dX5_beginsConcept_0 rfl (lv_at hl 0 rfl) ?_
  refine va_get (D := (dC, dI)) (ci := 5) (v := .int (iT 4)) (C := RX5) (T := TX5) (N := 6) hx hb hts ki5 hown hK hP 0 rfl rfl 4 (by decide) kf41 (fun _ h9 => h9) rfl dX5_beginsConcept_1 ?_
  refine lv_iconst (v := 4) hx hb dX5_beginsConcept_4 (by decide) ?_
  refine lv_icmp_eq (tgt := 37) hx hb dX5_beginsConcept_5 (by decide) (fun cz => ?_) (fun cz => ?_)
  · have h := g_t h cz
    refine lv_iconst (v := 1) hx hb dX5_beginsConcept_37 (by decide) ?_
    refine lv_goto (tgt := 42) hx hb dX5_beginsConcept_38 (by decide) ?_
    have h' := Option.some.inj h
    rw [← hQQ]
    exact W.zret (v := (1 : Int32)) hx hb hr rfl (fun t ht hW => ⟨⟨(1 : Int32), (), rfl, by rw [← h'], by rw [← hWQ, ht]; exact hP, va_K.moved hW.alike hK⟩, hS.F ht⟩) hS.2.2 dX5_beginsConcept_42
  · have h := g_f h cz
    refine lv_aload_n hx hb dX5_beginsConcept_8 rfl (lv_at hl 0 rfl) ?_
    refine va_get (D := (dC, dI)) (ci := 5) (v := .long wT) (C := RX5) (T := TX5) (N := 6) hx hb hts ki5 hown hK hP 0 rfl rfl 5 (by decide) kf37 (fun _ h9 => h9) rfl dX5_beginsConcept_9 ?_
    refine lv_ldc2 (v := 7630704) hx hb hown kc87 dX5_beginsConcept_12 ?_
    refine W.lcmp hx hb dX5_beginsConcept_15 ?_
    refine lv_if_eq (tgt := 37) hx hb dX5_beginsConcept_16 (by decide) (fun cz => ?_) (fun cz => ?_)
    · have h := g_t h (lg_cmp0.mp cz)
      refine lv_iconst (v := 1) hx hb dX5_beginsConcept_37 (by decide) ?_
      refine lv_goto (tgt := 42) hx hb dX5_beginsConcept_38 (by decide) ?_
      have h' := Option.some.inj h
      rw [← hQQ]
      exact W.zret (v := (1 : Int32)) hx hb hr rfl (fun t ht hW => ⟨⟨(1 : Int32), (), rfl, by rw [← h'], by rw [← hWQ, ht]; exact hP, va_K.moved hW.alike hK⟩, hS.F ht⟩) hS.2.2 dX5_beginsConcept_42
    · have h := g_f h (fun z => cz (lg_cmp0.mpr z))
      refine lv_aload_n hx hb dX5_beginsConcept_19 rfl (lv_at hl 0 rfl) ?_
      refine va_get (D := (dC, dI)) (ci := 5) (v := .long wT) (C := RX5) (T := TX5) (N := 6) hx hb hts ki5 hown hK hP 0 rfl rfl 5 (by decide) kf37 (fun _ h9 => h9) rfl dX5_beginsConcept_20 ?_
      refine lv_ldc2 (v := 108230834679661) hx hb hown kc89 dX5_beginsConcept_23 ?_
      refine W.lcmp hx hb dX5_beginsConcept_26 ?_
      refine lv_if_eq (tgt := 37) hx hb dX5_beginsConcept_27 (by decide) (fun cz => ?_) (fun cz => ?_)
      · have h := g_t h (lg_cmp0.mp cz)
        refine lv_iconst (v := 1) hx hb dX5_beginsConcept_37 (by decide) ?_
        refine lv_goto (tgt := 42) hx hb dX5_beginsConcept_38 (by decide) ?_
        have h' := Option.some.inj h
        rw [← hQQ]
        exact W.zret (v := (1 : Int32)) hx hb hr rfl (fun t ht hW => ⟨⟨(1 : Int32), (), rfl, by rw [← h'], by rw [← hWQ, ht]; exact hP, va_K.moved hW.alike hK⟩, hS.F ht⟩) hS.2.2 dX5_beginsConcept_42
      · have h := g_f h (fun z => cz (lg_cmp0.mpr z))
        refine lv_aload_n hx hb dX5_beginsConcept_30 rfl (lv_at hl 0 rfl) ?_
        obtain ⟨q31, e31, h⟩ := g_b h
        refine callVis (cc := cX5_beginsConcept) (w1 := zzT ad cy iT wT tx) (As := []) (rest := []) ⟨hx, hb, hml, hown, hts⟩ (c_T_holdsConcept l dC dI cy ad H.size iT wT tx q31 e31) (cwV 0 hts (goodV m_ml_X5_91 m_im_X5_holdsConcept m_se_X5_holdsConcept m_in_X5 m_cd_X5_holdsConcept) rfl rfl rfl (by decide +kernel) ⟨Nat.le_of_ble_eq_true rfl, Nat.le_of_ble_eq_true rfl⟩) hN hK hP hD hS hA rfl 0 rfl rfl rfl hl.1 rfl (Nat.le_of_ble_eq_true rfl) dX5_beginsConcept_31 ⟨Nat.zero_le _, Nat.zero_le _⟩ (fun H locs hP hD hS => ?_)
        refine lv_if_eq (tgt := 41) hx hb dX5_beginsConcept_34 (by decide) (fun cz => ?_) (fun cz => ?_)
        · have h := g_t h cz
          refine lv_iconst (v := 0) hx hb dX5_beginsConcept_41 (by decide) ?_
          have h' := Option.some.inj h
          rw [← hQQ]
          exact W.zret (v := (0 : Int32)) hx hb hr rfl (fun t ht hW => ⟨⟨(0 : Int32), (), rfl, by rw [← h'], by rw [← hWQ, ht]; exact hP, va_K.moved hW.alike hK⟩, hS.F ht⟩) hS.2.2 dX5_beginsConcept_42
        · have h := g_f h cz
          refine lv_iconst (v := 1) hx hb dX5_beginsConcept_37 (by decide) ?_
          refine lv_goto (tgt := 42) hx hb dX5_beginsConcept_38 (by decide) ?_
          have h' := Option.some.inj h
          rw [← hQQ]
          exact W.zret (v := (1 : Int32)) hx hb hr rfl (fun t ht hW => ⟨⟨(1 : Int32), (), rfl, by rw [← h'], by rw [← hWQ, ht]; exact hP, va_K.moved hW.alike hK⟩, hS.F ht⟩) hS.2.2 dX5_beginsConcept_42
set_option maxHeartbeats 8000000 in
set_option maxRecDepth 100000 in
theorem c_B_find (l : Launch) (dC : Nat → ClassId) (dI : Nat → Nat → Nat) (cy : Nat → ClassId) (ad : Nat → Nat) (sz : Nat) (N : Nat) (ln : Nat) (a1 : Int32) (a2 : Int64) (la : Nat → Int64) (q : Int32) (h : f_B_find N ln a1 a2 la = some q) : Met l yX0_find wsX0_find ({ frames := 0, cells := 0, slots := 0, locals := 0 } : Room) (cP (dC, dI) cy [.ref (ad 0), .int a1, .long a2] (zzA ad cy ln la) sz) (cQi (dC, dI) cy q (zzA ad cy ln la) (va_A (zzA ad cy ln la) sz)) 0 0 (va_A (zzA ad cy ln la) sz) := by
  refine Met.ofW (cc := cX0_find) (maxL := 5) (ret := (some .int)) (by decide) rfl ?_
  intro p e s m args below meth c s₁ B hml hv
  obtain ⟨hav, hsz, hP, hK, hD0, hN⟩ := hv
  have hx := B.exec
  have hb := B.bytes
  have hr := B.returns
  have hts := atoms_spec (ws := wsX0_find) B.pre
  have hown : s.vm.findClass RX0 = some m.cls := findClass_of_methodNamed B.named
  have hlocks := B.notSynchronized
  subst hsz
  have hD := hD0.self (sz := s.heap.size)
  generalize hAe : va_A (zzA ad cy ln la) s.heap.size = A at hD ⊢
  have hA : ∀ q : Nat, s.heap.size ≤ q → A q := fun q h => by rw [← hAe]; exact Or.inr h
  have hS : va_S A s.heap s.heap [] := va_S.rf
  generalize hWQ : (zzA ad cy ln la) = WQ
  generalize hQQ : MQ below (cQi (dC, dI) cy q WQ A) args s 0 0 A = QQ
  have hl := lv_entry ([.ref (ad 0), .int a1, .long a2] : List Value) (n := 5) (Nat.le_of_ble_eq_true rfl)
  have hfr := lg_entry_eq m ([.ref (ad 0), .int a1, .long a2] : List Value) 5
  rw [← hav] at hfr
  rw [hfr]
  clear hfr hav
  generalize (lg_sl ([.ref (ad 0), .int a1, .long a2] : List Value) ++ List.replicate (5 - (lg_sl ([.ref (ad 0), .int a1, .long a2] : List Value)).length) Slot.unset).toArray = ls at hl ⊢
  have hl : lv_has ls 5 [(0, .ref (ad 0)), (1, .int a1), (2, .long a2)] := hl
  refine (?_ : ∀ (H : Heap) (locs : List Loc), va_P (dC, dI) vwCl (zzA ad cy ln la) H → va_D A (zzA ad cy ln la) → va_S A s.heap H locs → W p l e ({ frames := 0, cells := 0, slots := 0, locals := 0 } : Room) s m args below meth c H locs 0 0 QQ (F0 m 0 ls [])) s.heap [] hP hD hS
  clear hP hD hS
  have B3 : ∀ (n : Nat) (v1 : Int32) (v2 : Int64) (v4 : Int32) (H : Heap) (locs : List Loc) (ls : Array Slot), f_B_find_3 N ln la v1 v2 n v4 = some q → va_P (dC, dI) vwCl (zzA ad cy ln la) H → va_D A (zzA ad cy ln la) → va_S A s.heap H locs → lv_has ls 5 [(0, .ref (ad 0)), (1, .int v1), (2, .long v2), (4, .int v4)] → W p l e ({ frames := 0, cells := 0, slots := 0, locals := 0 } : Room) s m args below meth c H locs 0 0 QQ (F0 m 3 ls []) := by
    intro n
    induction n with
    | zero =>
      intro v1 v2 v4 H locs ls h hP hD hS hl
      rw [f_B_find_3] at h
      cases h
    | succ n ih =>
      intro v1 v2 v4 H locs ls h hP hD hS hl
      rw [f_B_find_3] at h
      refine lv_iload hx hb dX0_find_3 (lv_at hl 3 rfl) ?_
      refine lv_iload_n hx hb dX0_find_5 rfl (lv_at hl 1 rfl) ?_
      refine lv_icmp_ge (tgt := 34) hx hb dX0_find_6 (by decide) (fun cz => ?_) (fun cz => ?_)
      · have h := g_t h cz
        refine lv_iconst (v := (-1)) hx hb dX0_find_34 (by decide) ?_
        have h' := Option.some.inj h
        rw [← hQQ]
        exact W.iret (v := (-1 : Int32)) hx hb hr (fun t ht hW => ⟨⟨(-1 : Int32), (), rfl, by rw [← h'], by rw [← hWQ, ht]; exact hP, va_K.moved hW.alike hK⟩, hS.F ht⟩) hS.2.2 dX0_find_35
      · have h := g_f h cz
        refine lv_iload hx hb dX0_find_9 (lv_at hl 3 rfl) ?_
        refine lv_aload_n hx hb dX0_find_11 rfl (lv_at hl 0 rfl) ?_
        refine va_alen (v := (Int32.ofNat ln)) hx hb hK hP 0 2 rfl rfl rfl dX0_find_12 ?_
        refine lv_icmp_ge (tgt := 34) hx hb dX0_find_13 (by decide) (fun cz => ?_) (fun cz => ?_)
        · have h := g_t h cz
          refine lv_iconst (v := (-1)) hx hb dX0_find_34 (by decide) ?_
          have h' := Option.some.inj h
          rw [← hQQ]
          exact W.iret (v := (-1 : Int32)) hx hb hr (fun t ht hW => ⟨⟨(-1 : Int32), (), rfl, by rw [← h'], by rw [← hWQ, ht]; exact hP, va_K.moved hW.alike hK⟩, hS.F ht⟩) hS.2.2 dX0_find_35
        · have h := g_f h cz
          refine lv_aload_n hx hb dX0_find_16 rfl (lv_at hl 0 rfl) ?_
          refine lv_iload hx hb dX0_find_17 (lv_at hl 3 rfl) ?_
          obtain ⟨g_6, h⟩ := g_n h
          refine va_lald (f := la) hx hb hK hP 0 2 rfl rfl g_6 dX0_find_19 ?_
          refine lv_lload_n hx hb dX0_find_20 rfl (lv_at hl 2 rfl) ?_
          refine W.lcmp hx hb dX0_find_21 ?_
          refine lv_if_ne (tgt := 28) hx hb dX0_find_22 (by decide) (fun cz => ?_) (fun cz => ?_)
          · have h := g_f h (fun z => cz (lg_cmp0.mpr z))
            refine lv_iinc (v := (v4 + (1 : Int32))) (lv' := [(4, .int ((v4 + (1 : Int32)))), (0, .ref (ad 0)), (1, .int v1), (2, .long v2)]) hx hb dX0_find_28 hl (k := 3) rfl rfl (by decide) rfl (fun ls hl => ?_)
            refine lv_goto (tgt := 3) hx hb dX0_find_31 (by decide) ?_
            exact ih v1 v2 ((v4 + (1 : Int32))) H locs ls h hP hD hS (lv_sub hl [1, 2, 3, 0] rfl)
          · have h := g_t h (lg_cmp0.mp cz)
            refine lv_iload hx hb dX0_find_25 (lv_at hl 3 rfl) ?_
            have h' := Option.some.inj h
            rw [← hQQ]
            exact W.iret (v := v4) hx hb hr (fun t ht hW => ⟨⟨v4, (), rfl, by rw [← h'], by rw [← hWQ, ht]; exact hP, va_K.moved hW.alike hK⟩, hS.F ht⟩) hS.2.2 dX0_find_27
  intro H locs hP hD hS
  unfold f_B_find at h
  refine lv_iconst (v := 0) hx hb dX0_find_0 (by decide) ?_
  refine lv_istore (lv' := [(4, .int ((0 : Int32))), (0, .ref (ad 0)), (1, .int a1), (2, .long a2)]) hx hb dX0_find_1 hl (by decide) rfl (fun ls hl => ?_)
  exact B3 N a1 a2 ((0 : Int32)) H locs ls h hP hD hS (lv_sub hl [1, 2, 3, 0] rfl)
set_option maxHeartbeats 8000000 in
set_option maxRecDepth 100000 in
theorem c_B_findRole (l : Launch) (dC : Nat → ClassId) (dI : Nat → Nat → Nat) (cy : Nat → ClassId) (ad : Nat → Nat) (sz : Nat) (N : Nat) (a1 : Int64) (iB : Nat → Int32) (lB : Nat → Nat → Int64) (aB : Nat → Nat → Int32) (iC : Nat → Int32) (aC : Nat → Nat → Int32) (q : Int32) (h : f_B_findRole N a1 (iB 5) (lB 4) = some q) : Met l yX0_findRole wsX0_findRole ({ frames := 1, cells := 0, slots := 0, locals := 24 } : Room) (cP (dC, dI) cy [.ref (ad 0), .long a1] (zzB ad cy iB lB aB iC aC) sz) (cQi (dC, dI) cy q (zzB ad cy iB lB aB iC aC) (va_A (zzB ad cy iB lB aB iC aC) sz)) 0 0 (va_A (zzB ad cy iB lB aB iC aC) sz) := by
  refine Met.ofW (cc := cX0_findRole) (maxL := 3) (ret := (some .int)) (by decide) rfl ?_
  intro p e s m args below meth c s₁ B hml hv
  obtain ⟨hav, hsz, hP, hK, hD0, hN⟩ := hv
  have hx := B.exec
  have hb := B.bytes
  have hr := B.returns
  have hts := atoms_spec (ws := wsX0_findRole) B.pre
  have hown : s.vm.findClass RX0 = some m.cls := findClass_of_methodNamed B.named
  have hlocks := B.notSynchronized
  subst hsz
  have hD := hD0.self (sz := s.heap.size)
  generalize hAe : va_A (zzB ad cy iB lB aB iC aC) s.heap.size = A at hD ⊢
  have hA : ∀ q : Nat, s.heap.size ≤ q → A q := fun q h => by rw [← hAe]; exact Or.inr h
  have hS : va_S A s.heap s.heap [] := va_S.rf
  generalize hWQ : (zzB ad cy iB lB aB iC aC) = WQ
  generalize hQQ : MQ below (cQi (dC, dI) cy q WQ A) args s 0 0 A = QQ
  have hl := lv_entry ([.ref (ad 0), .long a1] : List Value) (n := 3) (Nat.le_of_ble_eq_true rfl)
  have hfr := lg_entry_eq m ([.ref (ad 0), .long a1] : List Value) 3
  rw [← hav] at hfr
  rw [hfr]
  clear hfr hav
  generalize (lg_sl ([.ref (ad 0), .long a1] : List Value) ++ List.replicate (3 - (lg_sl ([.ref (ad 0), .long a1] : List Value)).length) Slot.unset).toArray = ls at hl ⊢
  have hl : lv_has ls 3 [(0, .ref (ad 0)), (1, .long a1)] := hl
  have kf22 := hts _ (List.mem_cons_of_mem _ m_fl_X0_22)
  have ki0 := (fun w h => List.mem_cons_of_mem _ (i_X0 w h) : ∀ w ∈ u_ws RX0 TX0 15, w ∈ wsX0_findRole)
  have kf48 := hts _ (List.mem_cons_of_mem _ m_fl_X0_48)
  refine (?_ : ∀ (H : Heap) (locs : List Loc), va_P (dC, dI) vwCl (zzB ad cy iB lB aB iC aC) H → va_D A (zzB ad cy iB lB aB iC aC) → va_S A s.heap H locs → W p l e ({ frames := 1, cells := 0, slots := 0, locals := 24 } : Room) s m args below meth c H locs 0 0 QQ (F0 m 0 ls [])) s.heap [] hP hD hS
  clear hP hD hS
  intro H locs hP hD hS
  unfold f_B_findRole at h
  refine lv_aload_n hx hb dX0_findRole_0 rfl (lv_at hl 0 rfl) ?_
  refine va_get (D := (dC, dI)) (ci := 0) (v := .ref (ad 2)) (C := RX0) (T := TX0) (N := 15) hx hb hts ki0 hown hK hP 0 rfl rfl 4 (by decide) kf22 (fun _ h9 => h9) rfl dX0_findRole_1 ?_
  refine lv_aload_n hx hb dX0_findRole_4 rfl (lv_at hl 0 rfl) ?_
  refine va_get (D := (dC, dI)) (ci := 0) (v := .int (iB 5)) (C := RX0) (T := TX0) (N := 15) hx hb hts ki0 hown hK hP 0 rfl rfl 5 (by decide) kf48 (fun _ h9 => h9) rfl dX0_findRole_5 ?_
  refine lv_lload_n hx hb dX0_findRole_8 rfl (lv_at hl 1 rfl) ?_
  obtain ⟨q9, e9, h⟩ := g_b h
  refine callSi (cc := cX0_findRole) (ws' := zzB ad cy iB lB aB iC aC) (As := [.ref (ad 2), .int (iB 5), .long a1]) (rest := []) ⟨hx, hb, hml, hown, hts⟩ (c_B_find l dC dI cy (fun i => ad (i + 2)) H.size N 3 (iB 5) a1 (lB 4) q9 e9) (va_cwS 3 hts (goodS m_ml_X0_66 m_st_X0_find m_in_X0 m_cd_X0_find) rfl rfl rfl (by decide +kernel) ⟨Nat.le_of_ble_eq_true rfl, Nat.le_of_ble_eq_true rfl⟩) hN hK hP hD hS hA [2] [none, none, some 0, none, none, none, none, none, none, none, none, none, none, none, none, none] rfl rfl rfl rfl rfl rfl rfl hl.1 rfl (Nat.le_of_ble_eq_true rfl) dX0_findRole_9 ⟨Nat.zero_le _, Nat.zero_le _⟩ (fun H locs hP hD hS => ?_)
  have h' := Option.some.inj h
  rw [← hQQ]
  exact W.iret (v := q9) hx hb hr (fun t ht hW => ⟨⟨q9, (), rfl, by rw [← h'], by rw [← hWQ, ht]; exact hP, va_K.moved hW.alike hK⟩, hS.F ht⟩) hS.2.2 dX0_findRole_12
