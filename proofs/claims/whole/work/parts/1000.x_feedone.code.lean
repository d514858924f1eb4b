def f_X_feedOne_3 (N : Nat) (iX1 : Int32) (tx : Nat → Int32) (v1 : Int32) : Nat → Int32 → Int32 → (Nat → Int32) → Option (Int32 × (Nat → Int32))
  | 0, _, _, _ => none
  | n + 1, v2, x_iX1, x_tx => if v2 < 0 then (some (x_iX1, x_tx)) else (if x_iX1 < 0 then (f_X_feedOne_3 N iX1 tx v1 n ((v2 + (-8 : Int32))) x_iX1 x_tx) else (if (2000 : Int32) ≤ x_iX1 then (f_X_feedOne_3 N iX1 tx v1 n ((v2 + (-8 : Int32))) x_iX1 x_tx) else (if x_iX1 < 0 ∨ 2000 ≤ x_iX1.toNatClampNeg then none else (f_X_feedOne_3 N iX1 tx v1 n ((v2 + (-8 : Int32))) ((x_iX1 + (1 : Int32))) ((upd x_tx x_iX1.toNatClampNeg (vp_nar .byte (((v1 >>> (v2 &&& 31))).toInt8.toInt32))))))))
def f_X_feedOne (N : Nat) (a1 : Int32) (iX1 : Int32) (tx : Nat → Int32) : Option (Int32 × (Nat → Int32)) := f_X_feedOne_3 N iX1 tx a1 N ((24 : Int32)) iX1 tx
set_option maxHeartbeats 8000000 in
set_option maxRecDepth 100000 in
theorem c_X_feedOne (l : Launch) (dC : Nat → ClassId) (dI : Nat → Nat → Nat) (cy : Nat → ClassId) (ad : Nat → Nat) (sz : Nat) (rb : Nat) (rc : Nat) (pb : Nat) (N : Nat) (a1 : Int32) (iX : Nat → Int32) (iR : Nat → Int32) (iT : Nat → Int32) (wT : Int64) (tx : Nat → Int32) (iB : Nat → Int32) (lB : Nat → Nat → Int64) (aB : Nat → Nat → Int32) (iC : Nat → Int32) (aC : Nat → Nat → Int32) (iD : Nat → Int32) (lD : Nat → Nat → Int64) (aD : Nat → Nat → Int32) (iE : Nat → Int32) (aE : Nat → Nat → Int32) (iK : Nat → Int32) (lK : Nat → Nat → Int64) (aK : Nat → Nat → Int32) (iW : Nat → Int32) (aW : Nat → Nat → Int32) (iP : Nat → Int32) (aP : Nat → Nat → Int32) (q : Int32 × (Nat → Int32)) (h : f_X_feedOne N a1 (iX 1) tx = some q) : Met l yX7_feedOne wsX7_feedOne ({ frames := 0, cells := 0, slots := 0, locals := 0 } : Room) (cP (dC, dI) cy [.ref (ad 0), .int a1] (zzX ad cy rb rc (ad 4) (ad 11) pb (ad 4) (ad 20) iX iR iT wT tx iB lB aB iC aC iD lD aD iE aE iK lK aK iW aW iP aP) sz) (cQv (dC, dI) cy (zzX ad cy rb rc (ad 4) (ad 11) pb (ad 4) (ad 20) (us iX [(1, q.1)]) iR iT wT q.2 iB lB aB iC aC iD lD aD iE aE iK lK aK iW aW iP aP) (va_A (zzX ad cy rb rc (ad 4) (ad 11) pb (ad 4) (ad 20) iX iR iT wT tx iB lB aB iC aC iD lD aD iE aE iK lK aK iW aW iP aP) sz)) 0 0 (va_A (zzX ad cy rb rc (ad 4) (ad 11) pb (ad 4) (ad 20) iX iR iT wT tx iB lB aB iC aC iD lD aD iE aE iK lK aK iW aW iP aP) sz) := by
  refine Met.ofW (cc := cX7_feedOne) (maxL := 3) (ret := none) (by decide) rfl ?_
  intro p e s m args below meth c s₁ B hml hv
  obtain ⟨hav, hsz, hP, hK, hD0, hN⟩ := hv
  have hx := B.exec
  have hb := B.bytes
  have hr := B.returns
  have hts := atoms_spec (ws := wsX7_feedOne) B.pre
  have hown : s.vm.findClass RX7 = some m.cls := findClass_of_methodNamed B.named
  have hlocks := B.notSynchronized
  subst hsz
  have hD := hD0.self (sz := s.heap.size)
  generalize hAe : va_A (zzX ad cy rb rc (ad 4) (ad 11) pb (ad 4) (ad 20) iX iR iT wT tx iB lB aB iC aC iD lD aD iE aE iK lK aK iW aW iP aP) s.heap.size = A at hD ⊢
  have hA : ∀ q : Nat, s.heap.size ≤ q → A q := fun q h => by rw [← hAe]; exact Or.inr h
  have hS : va_S A s.heap s.heap [] := va_S.rf
  generalize hWQ : (zzX ad cy rb rc (ad 4) (ad 11) pb (ad 4) (ad 20) (us iX [(1, q.1)]) iR iT wT q.2 iB lB aB iC aC iD lD aD iE aE iK lK aK iW aW iP aP) = WQ
  generalize hQQ : MQ below (cQv (dC, dI) cy WQ A) args s 0 0 A = QQ
  have hl := lv_entry ([.ref (ad 0), .int a1] : List Value) (n := 3) (Nat.le_of_ble_eq_true rfl)
  have hfr := lg_entry_eq m ([.ref (ad 0), .int a1] : List Value) 3
  rw [← hav] at hfr
  rw [hfr]
  clear hfr hav
  generalize (lg_sl ([.ref (ad 0), .int a1] : List Value) ++ List.replicate (3 - (lg_sl ([.ref (ad 0), .int a1] : List Value)).length) Slot.unset).toArray = ls at hl ⊢
  have hl : lv_has ls 3 [(0, .ref (ad 0)), (1, .int a1)] := hl
  have kf55 := hts _ (List.mem_cons_of_mem _ m_fl_X7_55)
  have ki7 := (fun w h => List.mem_cons_of_mem _ (i_X7 w h) : ∀ w ∈ u_ws RX7 TX7 9, w ∈ wsX7_feedOne)
  have kf9 := hts _ (List.mem_cons_of_mem _ m_fl_X7_9)
  refine (?_ : ∀ (H : Heap) (locs : List Loc), va_P (dC, dI) vwCl (zzX ad cy rb rc (ad 4) (ad 11) pb (ad 4) (ad 20) iX iR iT wT tx iB lB aB iC aC iD lD aD iE aE iK lK aK iW aW iP aP) H → va_D A (zzX ad cy rb rc (ad 4) (ad 11) pb (ad 4) (ad 20) iX iR iT wT tx iB lB aB iC aC iD lD aD iE aE iK lK aK iW aW iP aP) → va_S A s.heap H locs → W p l e ({ frames := 0, cells := 0, slots := 0, locals := 0 } : Room) s m args below meth c H locs 0 0 QQ (F0 m 0 ls [])) s.heap [] hP hD hS
  clear hP hD hS
  have B3 : ∀ (n : Nat) (v1 : Int32) (v2 : Int32) (x_iX1 : Int32) (x_tx : Nat → Int32) (H : Heap) (locs : List Loc) (ls : Array Slot), f_X_feedOne_3 N (iX 1) tx v1 n v2 x_iX1 x_tx = some q → va_P (dC, dI) vwCl (zzX ad cy rb rc (ad 4) (ad 11) pb (ad 4) (ad 20) (us iX [(1, x_iX1)]) iR iT wT x_tx iB lB aB iC aC iD lD aD iE aE iK lK aK iW aW iP aP) H → va_D A (zzX ad cy rb rc (ad 4) (ad 11) pb (ad 4) (ad 20) (us iX [(1, x_iX1)]) iR iT wT x_tx iB lB aB iC aC iD lD aD iE aE iK lK aK iW aW iP aP) → va_S A s.heap H locs → lv_has ls 3 [(0, .ref (ad 0)), (1, .int v1), (2, .int v2)] → W p l e ({ frames := 0, cells := 0, slots := 0, locals := 0 } : Room) s m args below meth c H locs 0 0 QQ (F0 m 3 ls []) := by
    intro n
    induction n with
    | zero =>
      intro v1 v2 x_iX1 x_tx H locs ls h hP hD hS hl
      rw [f_X_feedOne_3] at h
      cases h
    | succ n ih =>
      intro v1 v2 x_iX1 x_tx H locs ls h hP hD hS hl
      rw [f_X_feedOne_3] at h
      refine lv_iload_n hx hb dX7_feedOne_3 rfl (lv_at hl 2 rfl) ?_
      refine lv_if_lt (tgt := 55) hx hb dX7_feedOne_4 (by decide) (fun cz => ?_) (fun cz => ?_)
      · have h := g_t h cz
        have h' := Option.some.inj h
        rw [← hQQ]
        exact W.vret hx hb hr (fun t ht hW => ⟨⟨(), rfl, trivial, by rw [← hWQ, ← h', ht]; exact hP, va_K.moved hW.alike hK⟩, hS.F ht⟩) hS.2.2 dX7_feedOne_55
      · have h := g_f h cz
        refine lv_aload_n hx hb dX7_feedOne_7 rfl (lv_at hl 0 rfl) ?_
        refine va_get (D := (dC, dI)) (ci := 7) (v := .int x_iX1) (C := RX7) (T := TX7) (N := 9) hx hb hts ki7 hown hK hP 0 rfl rfl 1 (by decide) kf55 (fun _ h9 => h9) rfl dX7_feedOne_8 ?_
        refine lv_if_lt (tgt := 49) hx hb dX7_feedOne_11 (by decide) (fun cz => ?_) (fun cz => ?_)
        · have h := g_t h cz
          refine lv_iinc (v := (v2 + (-8 : Int32))) (lv' := [(2, .int ((v2 + (-8 : Int32)))), (0, .ref (ad 0)), (1, .int v1)]) hx hb dX7_feedOne_49 hl (k := 2) rfl rfl (by decide) rfl (fun ls hl => ?_)
          refine lv_goto (tgt := 3) hx hb dX7_feedOne_52 (by decide) ?_
          exact ih v1 ((v2 + (-8 : Int32))) x_iX1 x_tx H locs ls h hP hD hS (lv_sub hl [1, 2, 0] rfl)
        · have h := g_f h cz
          refine lv_aload_n hx hb dX7_feedOne_14 rfl (lv_at hl 0 rfl) ?_
          refine va_get (D := (dC, dI)) (ci := 7) (v := .int x_iX1) (C := RX7) (T := TX7) (N := 9) hx hb hts ki7 hown hK hP 0 rfl rfl 1 (by decide) kf55 (fun _ h9 => h9) rfl dX7_feedOne_15 ?_
          refine lv_aload_n hx hb dX7_feedOne_18 rfl (lv_at hl 0 rfl) ?_
          refine va_get (D := (dC, dI)) (ci := 7) (v := .ref (ad 3)) (C := RX7) (T := TX7) (N := 9) hx hb hts ki7 hown hK hP 0 rfl rfl 0 (by decide) kf9 (fun _ h9 => h9) rfl dX7_feedOne_19 ?_
          refine va_alen (v := (2000 : Int32)) hx hb hK hP 3 1 rfl rfl rfl dX7_feedOne_22 ?_
          refine lv_icmp_ge (tgt := 49) hx hb dX7_feedOne_23 (by decide) (fun cz => ?_) (fun cz => ?_)
          · have h := g_t h cz
            refine lv_iinc (v := (v2 + (-8 : Int32))) (lv' := [(2, .int ((v2 + (-8 : Int32)))), (0, .ref (ad 0)), (1, .int v1)]) hx hb dX7_feedOne_49 hl (k := 2) rfl rfl (by decide) rfl (fun ls hl => ?_)
            refine lv_goto (tgt := 3) hx hb dX7_feedOne_52 (by decide) ?_
            exact ih v1 ((v2 + (-8 : Int32))) x_iX1 x_tx H locs ls h hP hD hS (lv_sub hl [1, 2, 0] rfl)
          · have h := g_f h cz
            refine lv_aload_n hx hb dX7_feedOne_26 rfl (lv_at hl 0 rfl) ?_
            refine va_get (D := (dC, dI)) (ci := 7) (v := .ref (ad 3)) (C := RX7) (T := TX7) (N := 9) hx hb hts ki7 hown hK hP 0 rfl rfl 0 (by decide) kf9 (fun _ h9 => h9) rfl dX7_feedOne_27 ?_
            refine lv_aload_n hx hb dX7_feedOne_30 rfl (lv_at hl 0 rfl) ?_
            refine va_get (D := (dC, dI)) (ci := 7) (v := .int x_iX1) (C := RX7) (T := TX7) (N := 9) hx hb hts ki7 hown hK hP 0 rfl rfl 1 (by decide) kf55 (fun _ h9 => h9) rfl dX7_feedOne_31 ?_
            refine lv_iload_n hx hb dX7_feedOne_34 rfl (lv_at hl 1 rfl) ?_
            refine lv_iload_n hx hb dX7_feedOne_35 rfl (lv_at hl 2 rfl) ?_
            refine lv_ishr hx hb dX7_feedOne_36 ?_
            refine lv_i2b (v := ((v1 >>> (v2 &&& 31))).toInt8.toInt32) hx hb dX7_feedOne_37 rfl ?_
            obtain ⟨g_0, h⟩ := g_n h
            refine va_bast (f := x_tx) hx hb hK hP hD hS 3 1 rfl rfl g_0 dX7_feedOne_38 (fun H locs hP hD hS => ?_)
            have hP : va_P (dC, dI) vwCl (zzX ad cy rb rc (ad 4) (ad 11) pb (ad 4) (ad 20) (us iX [(1, x_iX1)]) iR iT wT (upd x_tx x_iX1.toNatClampNeg (vp_nar .byte (((v1 >>> (v2 &&& 31))).toInt8.toInt32))) iB lB aB iC aC iD lD aD iE aE iK lK aK iW aW iP aP) H := hP
            have hD : va_D A (zzX ad cy rb rc (ad 4) (ad 11) pb (ad 4) (ad 20) (us iX [(1, x_iX1)]) iR iT wT (upd x_tx x_iX1.toNatClampNeg (vp_nar .byte (((v1 >>> (v2 &&& 31))).toInt8.toInt32))) iB lB aB iC aC iD lD aD iE aE iK lK aK iW aW iP aP) := hD
            refine lv_aload_n hx hb dX7_feedOne_39 rfl (lv_at hl 0 rfl) ?_
            refine lv_dup hx hb dX7_feedOne_40 rfl ?_
            refine va_get (D := (dC, dI)) (ci := 7) (v := .int x_iX1) (C := RX7) (T := TX7) (N := 9) hx hb hts ki7 hown hK hP 0 rfl rfl 1 (by decide) kf55 (fun _ h9 => h9) rfl dX7_feedOne_41 ?_
            refine lv_iconst (v := 1) hx hb dX7_feedOne_44 (by decide) ?_
            refine lv_iadd hx hb dX7_feedOne_45 ?_
            refine va_put (D := (dC, dI)) (ci := 7) (v := .int ((x_iX1 + (1 : Int32)))) (ty := .int) (C := RX7) (T := TX7) (N := 9) hx hb hts ki7 tyX7 tyX7_ok nmX7 hown hK hP hD hS 0 rfl rfl 1 (by decide) kf55 (fun _ h9 => h9) rfl (by decide +kernel) rfl rfl (Nat.le_of_ble_eq_true rfl) dX7_feedOne_46 (fun H locs hP hD hS => ?_)
            have hP : va_P (dC, dI) vwCl (zzX ad cy rb rc (ad 4) (ad 11) pb (ad 4) (ad 20) (us iX [(1, (x_iX1 + (1 : Int32)))]) iR iT wT (upd x_tx x_iX1.toNatClampNeg (vp_nar .byte (((v1 >>> (v2 &&& 31))).toInt8.toInt32))) iB lB aB iC aC iD lD aD iE aE iK lK aK iW aW iP aP) H := Eq.mp (congrArg (fun w => va_P (dC, dI) vwCl w H) (stX_iX1 ad cy rb rc (ad 4) (ad 11) pb (ad 4) (ad 20) iX iR iT wT (upd x_tx x_iX1.toNatClampNeg (vp_nar .byte (((v1 >>> (v2 &&& 31))).toInt8.toInt32))) iB lB aB iC aC iD lD aD iE aE iK lK aK iW aW iP aP [(1, x_iX1)] ((x_iX1 + (1 : Int32))))) hP
            have hD : va_D A (zzX ad cy rb rc (ad 4) (ad 11) pb (ad 4) (ad 20) (us iX [(1, (x_iX1 + (1 : Int32)))]) iR iT wT (upd x_tx x_iX1.toNatClampNeg (vp_nar .byte (((v1 >>> (v2 &&& 31))).toInt8.toInt32))) iB lB aB iC aC iD lD aD iE aE iK lK aK iW aW iP aP) := Eq.mp (congrArg (fun w => va_D A w) (stX_iX1 ad cy rb rc (ad 4) (ad 11) pb (ad 4) (ad 20) iX iR iT wT (upd x_tx x_iX1.toNatClampNeg (vp_nar .byte (((v1 >>> (v2 &&& 31))).toInt8.toInt32))) iB lB aB iC aC iD lD aD iE aE iK lK aK iW aW iP aP [(1, x_iX1)] ((x_iX1 + (1 : Int32))))) hD
            refine lv_iinc (v := (v2 + (-8 : Int32))) (lv' := [(2, .int ((v2 + (-8 : Int32)))), (0, .ref (ad 0)), (1, .int v1)]) hx hb dX7_feedOne_49 hl (k := 2) rfl rfl (by decide) rfl (fun ls hl => ?_)
            refine lv_goto (tgt := 3) hx hb dX7_feedOne_52 (by decide) ?_
            exact ih v1 ((v2 + (-8 : Int32))) ((x_iX1 + (1 : Int32))) ((upd x_tx x_iX1.toNatClampNeg (vp_nar .byte (((v1 >>> (v2 &&& 31))).toInt8.toInt32)))) H locs ls h hP hD hS (lv_sub hl [1, 2, 0] rfl)
  intro H locs hP hD hS
  unfold f_X_feedOne at h
  refine lv_bipush (v := 24) hx hb dX7_feedOne_0 (by decide) ?_
  refine lv_istore_n (lv' := [(2, .int ((24 : Int32))), (0, .ref (ad 0)), (1, .int a1)]) hx hb dX7_feedOne_2 rfl hl (by decide) rfl (fun ls hl => ?_)
  exact B3 N a1 ((24 : Int32)) (iX 1) tx H locs ls h hP hD hS (lv_sub hl [1, 2, 0] rfl)
