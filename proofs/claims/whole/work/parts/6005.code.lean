set_option maxHeartbeats 8000000 in
set_option maxRecDepth 100000 in
theorem c_W_clear (l : Launch) (dC : Nat → ClassId) (dI : Nat → Nat → Nat) (cy : Nat → ClassId) (ad : Nat → Nat) (sz : Nat) (N : Nat) (iW : Nat → Int32) (aW : Nat → Nat → Int32) (q : Int32 × Int32 × (Nat → Int32)) (h : f_W_clear N (iW 1) (iW 4) (aW 2) = some q) : Met l yX6_clear wsX6_clear ({ frames := 0, cells := 0, slots := 0, locals := 0 } : Room) (cP (dC, dI) cy [.ref (ad 0)] (zzw ad cy iW aW) sz) (cQv (dC, dI) cy (zzw ad cy (us iW [(1, q.1), (4, q.2.1)]) (us aW [(2, q.2.2)])) (va_A (zzw ad cy iW aW) sz)) 0 0 (va_A (zzw ad cy iW aW) sz) := by
  refine Met.ofW (cc := cX6_clear) (maxL := 2) (ret := none) (by decide) rfl ?_
  intro p e s m args below meth c s₁ B hml hv
  obtain ⟨hav, hsz, hP, hK, hD0, hN⟩ := hv
  have hx := B.exec
  have hb := B.bytes
  have hr := B.returns
  have hts := atoms_spec (ws := wsX6_clear) B.pre
  have hown : s.vm.findClass RX6 = some m.cls := findClass_of_methodNamed B.named
  have hlocks := B.notSynchronized
  subst hsz
  have hD := hD0.self (sz := s.heap.size)
  generalize hAe : va_A (zzw ad cy iW aW) s.heap.size = A at hD ⊢
  have hA : ∀ q : Nat, s.heap.size ≤ q → A q := fun q h => by rw [← hAe]; exact Or.inr h
  have hS : va_S A s.heap s.heap [] := va_S.rf
  generalize hWQ : (zzw ad cy (us iW [(1, q.1), (4, q.2.1)]) (us aW [(2, q.2.2)])) = WQ
  generalize hQQ : MQ below (cQv (dC, dI) cy WQ A) args s 0 0 A = QQ
  have hl := lv_entry ([.ref (ad 0)] : List Value) (n := 2) (Nat.le_of_ble_eq_true rfl)
  have hfr := lg_entry_eq m ([.ref (ad 0)] : List Value) 2
  rw [← hav] at hfr
  rw [hfr]
  clear hfr hav
  generalize (lg_sl ([.ref (ad 0)] : List Value) ++ List.replicate (2 - (lg_sl ([.ref (ad 0)] : List Value)).length) Slot.unset).toArray = ls at hl ⊢
  have hl : lv_has ls 2 [(0, .ref (ad 0))] := hl
  have kf15 := hts _ (List.mem_cons_of_mem _ m_fl_X6_15)
  have ki6 := (fun w h => List.mem_cons_of_mem _ (i_X6 w h) : ∀ w ∈ u_ws RX6 TX6 5, w ∈ wsX6_clear)
  have kf22 := hts _ (List.mem_cons_of_mem _ m_fl_X6_22)
  have kf26 := hts _ (List.mem_cons_of_mem _ m_fl_X6_26)
  refine (?_ : ∀ (H : Heap) (locs : List Loc), va_P (dC, dI) vwCl (zzw ad cy iW aW) H → va_D A (zzw ad cy iW aW) → va_S A s.heap H locs → W p l e ({ frames := 0, cells := 0, slots := 0, locals := 0 } : Room) s m args below meth c H locs 0 0 QQ (F0 m 0 ls [])) s.heap [] hP hD hS
  clear hP hD hS
  have B12 : ∀ (n : Nat) (x_iW1 : Int32) (x_iW4 : Int32) (v1 : Int32) (x_aW2 : Nat → Int32) (H : Heap) (locs : List Loc) (ls : Array Slot), f_W_clear_12 N (iW 1) (iW 4) (aW 2) x_iW1 x_iW4 n v1 x_aW2 = some q → va_P (dC, dI) vwCl (zzw ad cy (us iW [(1, x_iW1), (4, x_iW4)]) (us aW [(2, x_aW2)])) H → va_D A (zzw ad cy (us iW [(1, x_iW1), (4, x_iW4)]) (us aW [(2, x_aW2)])) → va_S A s.heap H locs → lv_has ls 2 [(0, .ref (ad 0)), (1, .int v1)] → W p l e ({ frames := 0, cells := 0, slots := 0, locals := 0 } : Room) s m args below meth c H locs 0 0 QQ (F0 m 12 ls []) := by
    intro n
    induction n with
    | zero =>
      intro x_iW1 x_iW4 v1 x_aW2 H locs ls h hP hD hS hl
      rw [f_W_clear_12] at h
      cases h
    | succ n ih =>
      intro x_iW1 x_iW4 v1 x_aW2 H locs ls h hP hD hS hl
      rw [f_W_clear_12] at h
      refine lv_iload_n hx hb dX6_clear_12 rfl (lv_at hl 1 rfl) ?_
      refine lv_sipush (v := 512) hx hb dX6_clear_13 (by decide) ?_
      refine lv_icmp_ge (tgt := 32) hx hb dX6_clear_16 (by decide) (fun cz => ?_) (fun cz => ?_)
      · have h := g_t h cz
        have h' := Option.some.inj h
        rw [← hQQ]
        exact W.vret hx hb hr (fun t ht hW => ⟨⟨(), rfl, trivial, by rw [← hWQ, ← h', ht]; exact hP, va_K.moved hW.alike hK⟩, hS.F ht⟩) hS.2.2 dX6_clear_32
      · have h := g_f h cz
        refine lv_aload_n hx hb dX6_clear_19 rfl (lv_at hl 0 rfl) ?_
        refine va_get (D := (dC, dI)) (ci := 6) (v := .ref (ad 2)) (C := RX6) (T := TX6) (N := 5) hx hb hts ki6 hown hK hP 0 rfl rfl 2 (by decide) kf15 (fun _ h9 => h9) rfl dX6_clear_20 ?_
        refine lv_iload_n hx hb dX6_clear_23 rfl (lv_at hl 1 rfl) ?_
        refine lv_iconst (v := (-1)) hx hb dX6_clear_24 (by decide) ?_
        obtain ⟨g_32, h⟩ := g_n h
        refine va_sast (f := x_aW2) hx hb hK hP hD hS 2 3 rfl rfl g_32 dX6_clear_25 (fun H locs hP hD hS => ?_)
        have hP : va_P (dC, dI) vwCl (zzw ad cy (us iW [(1, x_iW1), (4, x_iW4)]) (us aW [(2, (upd x_aW2 v1.toNatClampNeg (vp_nar .short ((-1 : Int32)))))])) H := Eq.mp (congrArg (fun w => va_P (dC, dI) vwCl w H) (stw_aW2 ad cy (us iW [(1, x_iW1), (4, x_iW4)]) aW [(2, x_aW2)] ((upd x_aW2 v1.toNatClampNeg (vp_nar .short ((-1 : Int32))))))) hP
        have hD : va_D A (zzw ad cy (us iW [(1, x_iW1), (4, x_iW4)]) (us aW [(2, (upd x_aW2 v1.toNatClampNeg (vp_nar .short ((-1 : Int32)))))])) := Eq.mp (congrArg (fun w => va_D A w) (stw_aW2 ad cy (us iW [(1, x_iW1), (4, x_iW4)]) aW [(2, x_aW2)] ((upd x_aW2 v1.toNatClampNeg (vp_nar .short ((-1 : Int32))))))) hD
        refine lv_iinc (v := (v1 + (1 : Int32))) (lv' := [(1, .int ((v1 + (1 : Int32)))), (0, .ref (ad 0))]) hx hb dX6_clear_26 hl (k := 1) rfl rfl (by decide) rfl (fun ls hl => ?_)
        refine lv_goto (tgt := 12) hx hb dX6_clear_29 (by decide) ?_
        exact ih x_iW1 x_iW4 ((v1 + (1 : Int32))) ((upd x_aW2 v1.toNatClampNeg (vp_nar .short ((-1 : Int32))))) H locs ls h hP hD hS (lv_sub hl [1, 0] rfl)
  intro H locs hP hD hS
  unfold f_W_clear at h
  refine lv_aload_n hx hb dX6_clear_0 rfl (lv_at hl 0 rfl) ?_
  refine lv_iconst (v := 0) hx hb dX6_clear_1 (by decide) ?_
  refine va_put (D := (dC, dI)) (ci := 6) (v := .int ((0 : Int32))) (ty := .int) (C := RX6) (T := TX6) (N := 5) hx hb hts ki6 tyX6 tyX6_ok nmX6 hown hK hP hD hS 0 rfl rfl 1 (by decide) kf22 (fun _ h9 => h9) rfl (by decide +kernel) rfl rfl (Nat.le_of_ble_eq_true rfl) dX6_clear_2 (fun H locs hP hD hS => ?_)
  have hP : va_P (dC, dI) vwCl (zzw ad cy (us iW [(1, (0 : Int32))]) aW) H := Eq.mp (congrArg (fun w => va_P (dC, dI) vwCl w H) (sfw_iW1 ad cy iW aW ((0 : Int32)))) hP
  have hD : va_D A (zzw ad cy (us iW [(1, (0 : Int32))]) aW) := Eq.mp (congrArg (fun w => va_D A w) (sfw_iW1 ad cy iW aW ((0 : Int32)))) hD
  refine lv_aload_n hx hb dX6_clear_5 rfl (lv_at hl 0 rfl) ?_
  refine lv_iconst (v := 0) hx hb dX6_clear_6 (by decide) ?_
  refine va_put (D := (dC, dI)) (ci := 6) (v := .int ((0 : Int32))) (ty := .int) (C := RX6) (T := TX6) (N := 5) hx hb hts ki6 tyX6 tyX6_ok nmX6 hown hK hP hD hS 0 rfl rfl 4 (by decide) kf26 (fun _ h9 => h9) rfl (by decide +kernel) rfl rfl (Nat.le_of_ble_eq_true rfl) dX6_clear_7 (fun H locs hP hD hS => ?_)
  have hP : va_P (dC, dI) vwCl (zzw ad cy (us iW [(1, (0 : Int32)), (4, (0 : Int32))]) aW) H := Eq.mp (congrArg (fun w => va_P (dC, dI) vwCl w H) (stw_iW4 ad cy iW aW [(1, (0 : Int32))] ((0 : Int32)))) hP
  have hD : va_D A (zzw ad cy (us iW [(1, (0 : Int32)), (4, (0 : Int32))]) aW) := Eq.mp (congrArg (fun w => va_D A w) (stw_iW4 ad cy iW aW [(1, (0 : Int32))] ((0 : Int32)))) hD
  refine lv_iconst (v := 0) hx hb dX6_clear_10 (by decide) ?_
  refine lv_istore_n (lv' := [(1, .int ((0 : Int32))), (0, .ref (ad 0))]) hx hb dX6_clear_11 rfl hl (by decide) rfl (fun ls hl => ?_)
  exact B12 N ((0 : Int32)) ((0 : Int32)) ((0 : Int32)) (aW 2) H locs ls h hP hD hS (lv_sub hl [1, 0] rfl)
set_option maxHeartbeats 8000000 in
set_option maxRecDepth 100000 in
theorem c_X_read (l : Launch) (dC : Nat → ClassId) (dI : Nat → Nat → Nat) (cy : Nat → ClassId) (ad : Nat → Nat) (sz : Nat) (rb : Nat) (rc : Nat) (pb : Nat) (N : Nat) (iX : Nat → Int32) (iR : Nat → Int32) (iT : Nat → Int32) (wT : Int64) (tx : Nat → Int32) (iB : Nat → Int32) (lB : Nat → Nat → Int64) (aB : Nat → Nat → Int32) (iC : Nat → Int32) (aC : Nat → Nat → Int32) (iD : Nat → Int32) (lD : Nat → Nat → Int64) (aD : Nat → Nat → Int32) (iE : Nat → Int32) (aE : Nat → Nat → Int32) (iK : Nat → Int32) (lK : Nat → Nat → Int64) (aK : Nat → Nat → Int32) (iW : Nat → Int32) (aW : Nat → Nat → Int32) (iP : Nat → Int32) (aP : Nat → Nat → Int32) (q : Int32 × (Nat → Int32) × (Nat → Int32) × (Nat → Int32) × Int64 × (Nat → Int32) × (Nat → Nat → Int64) × (Nat → Nat → Int32) × (Nat → Int32) × (Nat → Nat → Int32) × (Nat → Int32) × (Nat → Nat → Int64) × (Nat → Nat → Int32) × (Nat → Int32) × (Nat → Nat → Int32) × Bool) (h : f_X_read N iX iR iT wT tx iB lB aB iC aC iD lD aD iE aE iK lK aK iW aW iP aP = some q) : Met l yX7_read wsX7_read ({ frames := 91, cells := 0, slots := 0, locals := 2184 } : Room) (cP (dC, dI) cy [.ref (ad 0)] (zzX ad cy rb rc (ad 4) (ad 11) pb (ad 4) (ad 20) iX iR iT wT tx iB lB aB iC aC iD lD aD iE aE iK lK aK iW aW iP aP) sz) (cQi (dC, dI) cy q.1 (cond q.2.2.2.2.2.2.2.2.2.2.2.2.2.2.2 (zzX ad cy (ad 20) (ad 27) (ad 20) (ad 27) pb (ad 20) (ad 4) q.2.1 q.2.2.1 q.2.2.2.1 q.2.2.2.2.1 tx iB lB aB iC aC q.2.2.2.2.2.1 q.2.2.2.2.2.2.1 q.2.2.2.2.2.2.2.1 q.2.2.2.2.2.2.2.2.1 q.2.2.2.2.2.2.2.2.2.1 q.2.2.2.2.2.2.2.2.2.2.1 q.2.2.2.2.2.2.2.2.2.2.2.1 q.2.2.2.2.2.2.2.2.2.2.2.2.1 q.2.2.2.2.2.2.2.2.2.2.2.2.2.1 q.2.2.2.2.2.2.2.2.2.2.2.2.2.2.1 iP aP) (zzX ad cy (ad 20) (ad 27) (ad 4) (ad 11) pb (ad 4) (ad 20) q.2.1 q.2.2.1 q.2.2.2.1 q.2.2.2.2.1 tx iB lB aB iC aC q.2.2.2.2.2.1 q.2.2.2.2.2.2.1 q.2.2.2.2.2.2.2.1 q.2.2.2.2.2.2.2.2.1 q.2.2.2.2.2.2.2.2.2.1 q.2.2.2.2.2.2.2.2.2.2.1 q.2.2.2.2.2.2.2.2.2.2.2.1 q.2.2.2.2.2.2.2.2.2.2.2.2.1 q.2.2.2.2.2.2.2.2.2.2.2.2.2.1 q.2.2.2.2.2.2.2.2.2.2.2.2.2.2.1 iP aP)) (va_A (zzX ad cy rb rc (ad 4) (ad 11) pb (ad 4) (ad 20) iX iR iT wT tx iB lB aB iC aC iD lD aD iE aE iK lK aK iW aW iP aP) sz)) 0 0 (va_A (zzX ad cy rb rc (ad 4) (ad 11) pb (ad 4) (ad 20) iX iR iT wT tx iB lB aB iC aC iD lD aD iE aE iK lK aK iW aW iP aP) sz) := by
  refine Met.ofW (cc := cX7_read) (maxL := 3) (ret := (some .int)) (by decide) rfl ?_
  intro p e s m args below meth c s₁ B hml hv
  obtain ⟨hav, hsz, hP, hK, hD0, hN⟩ := hv
  have hx := B.exec
  have hb := B.bytes
  have hr := B.returns
  have hts := atoms_spec (ws := wsX7_read) B.pre
  have hown : s.vm.findClass RX7 = some m.cls := findClass_of_methodNamed B.named
  have hlocks := B.notSynchronized
  subst hsz
  have hD := hD0.self (sz := s.heap.size)
  generalize hAe : va_A (zzX ad cy rb rc (ad 4) (ad 11) pb (ad 4) (ad 20) iX iR iT wT tx iB lB aB iC aC iD lD aD iE aE iK lK aK iW aW iP aP) s.heap.size = A at hD ⊢
  have hA : ∀ q : Nat, s.heap.size ≤ q → A q := fun q h => by rw [← hAe]; exact Or.inr h
  have hS : va_S A s.heap s.heap [] := va_S.rf
  generalize hWQ : (cond q.2.2.2.2.2.2.2.2.2.2.2.2.2.2.2 (zzX ad cy (ad 20) (ad 27) (ad 20) (ad 27) pb (ad 20) (ad 4) q.2.1 q.2.2.1 q.2.2.2.1 q.2.2.2.2.1 tx iB lB aB iC aC q.2.2.2.2.2.1 q.2.2.2.2.2.2.1 q.2.2.2.2.2.2.2.1 q.2.2.2.2.2.2.2.2.1 q.2.2.2.2.2.2.2.2.2.1 q.2.2.2.2.2.2.2.2.2.2.1 q.2.2.2.2.2.2.2.2.2.2.2.1 q.2.2.2.2.2.2.2.2.2.2.2.2.1 q.2.2.2.2.2.2.2.2.2.2.2.2.2.1 q.2.2.2.2.2.2.2.2.2.2.2.2.2.2.1 iP aP) (zzX ad cy (ad 20) (ad 27) (ad 4) (ad 11) pb (ad 4) (ad 20) q.2.1 q.2.2.1 q.2.2.2.1 q.2.2.2.2.1 tx iB lB aB iC aC q.2.2.2.2.2.1 q.2.2.2.2.2.2.1 q.2.2.2.2.2.2.2.1 q.2.2.2.2.2.2.2.2.1 q.2.2.2.2.2.2.2.2.2.1 q.2.2.2.2.2.2.2.2.2.2.1 q.2.2.2.2.2.2.2.2.2.2.2.1 q.2.2.2.2.2.2.2.2.2.2.2.2.1 q.2.2.2.2.2.2.2.2.2.2.2.2.2.1 q.2.2.2.2.2.2.2.2.2.2.2.2.2.2.1 iP aP)) = WQ
  generalize hQQ : MQ below (cQi (dC, dI) cy q.1 WQ A) args s 0 0 A = QQ
  have hl := lv_entry ([.ref (ad 0)] : List Value) (n := 3) (Nat.le_of_ble_eq_true rfl)
  have hfr := lg_entry_eq m ([.ref (ad 0)] : List Value) 3
  rw [← hav] at hfr
  rw [hfr]
  clear hfr hav
  generalize (lg_sl ([.ref (ad 0)] : List Value) ++ List.replicate (3 - (lg_sl ([.ref (ad 0)] : List Value)).length) Slot.unset).toArray = ls at hl ⊢
  have hl : lv_has ls 3 [(0, .ref (ad 0))] := hl
  have kf28 := hts _ (List.mem_cons_of_mem _ m_fl_X7_28)
  have ki7 := (fun w h => List.mem_cons_of_mem _ (i_X7 w h) : ∀ w ∈ u_ws RX7 TX7 9, w ∈ wsX7_read)
  have kf55 := hts _ (List.mem_cons_of_mem _ m_fl_X7_55)
  have kf20 := hts _ (List.mem_cons_of_mem _ m_fl_X7_20)
  have kf16 := hts _ (List.mem_cons_of_mem _ m_fl_X7_16)
  have kf70 := hts _ (List.mem_cons_of_mem _ m_fl_X7_70)
  have kf37 := hts _ (List.mem_cons_of_mem _ m_fl_X7_37)
  have kf44 := hts _ (List.mem_cons_of_mem _ m_fl_X7_44)
  have kf80 := hts _ (List.mem_cons_of_mem _ m_fl_X7_80)
  have ki0 := (fun w h => List.mem_cons_of_mem _ (i_X0 w h) : ∀ w ∈ u_ws RX0 TX0 15, w ∈ wsX7_read)
  have kf67 := hts _ (List.mem_cons_of_mem _ m_fl_X7_67)
  have ki4 := (fun w h => List.mem_cons_of_mem _ (i_X4 w h) : ∀ w ∈ u_ws RX4 TX4 5, w ∈ wsX7_read)
  refine (?_ : ∀ (H : Heap) (locs : List Loc), va_P (dC, dI) vwCl (zzX ad cy rb rc (ad 4) (ad 11) pb (ad 4) (ad 20) iX iR iT wT tx iB lB aB iC aC iD lD aD iE aE iK lK aK iW aW iP aP) H → va_D A (zzX ad cy rb rc (ad 4) (ad 11) pb (ad 4) (ad 20) iX iR iT wT tx iB lB aB iC aC iD lD aD iE aE iK lK aK iW aW iP aP) → va_S A s.heap H locs → W p l e ({ frames := 91, cells := 0, slots := 0, locals := 2184 } : Room) s m args below meth c H locs 0 0 QQ (F0 m 0 ls [])) s.heap [] hP hD hS
  clear hP hD hS
  intro H locs hP hD hS
  unfold f_X_read at h
  refine lv_aload_n hx hb dX7_read_0 rfl (lv_at hl 0 rfl) ?_
  refine va_get (D := (dC, dI)) (ci := 7) (v := .ref (ad 1)) (C := RX7) (T := TX7) (N := 9) hx hb hts ki7 hown hK hP 0 rfl rfl 2 (by decide) kf28 (fun _ h9 => h9) rfl dX7_read_1 ?_
  refine lv_aload_n hx hb dX7_read_4 rfl (lv_at hl 0 rfl) ?_
  refine va_get (D := (dC, dI)) (ci := 7) (v := .int ((iX 1))) (C := RX7) (T := TX7) (N := 9) hx hb hts ki7 hown hK hP 0 rfl rfl 1 (by decide) kf55 (fun _ h9 => h9) rfl dX7_read_5 ?_
  refine lv_aload_n hx hb dX7_read_8 rfl (lv_at hl 0 rfl) ?_
  refine va_get (D := (dC, dI)) (ci := 7) (v := .ref (ad 20)) (C := RX7) (T := TX7) (N := 9) hx hb hts ki7 hown hK hP 0 rfl rfl 4 (by decide) kf20 (fun _ h9 => h9) rfl dX7_read_9 ?_
  obtain ⟨q12, e12, h⟩ := g_b h
  refine callVi (cc := cX7_read) (ws' := zzX ad cy (ad 20) (ad 27) (ad 4) (ad 11) pb (ad 4) (ad 20) iX q12.2.1 q12.2.2.1 q12.2.2.2.1 tx iB lB aB iC aC q12.2.2.2.2.1 q12.2.2.2.2.2.1 q12.2.2.2.2.2.2.1 q12.2.2.2.2.2.2.2.1 q12.2.2.2.2.2.2.2.2 iK lK aK iW aW iP aP) (As := [.int ((iX 1)), .ref (ad 20)]) (rest := []) ⟨hx, hb, hml, hown, hts⟩ (c_R_takeIn l dC dI cy (fun i => ad (([1, 2, 3, 20, 21, 22, 23, 24, 25, 26, 27, 28, 29, 30, 31, 32, 33, 34, 35] : List Nat).getD i 0)) H.size rb rc N ((iX 1)) iR iT wT tx iD lD aD iE aE q12 e12) (cwV 2 hts (goodV m_ml_X7_63 m_im_X4_takeIn m_se_X4_takeIn m_in_X4 m_cd_X4_takeIn) rfl rfl rfl (by decide +kernel) ⟨Nat.le_of_ble_eq_true rfl, Nat.le_of_ble_eq_true rfl⟩) hN hK hP hD hS hA [1, 2, 3, 20, 21, 22, 23, 24, 25, 26, 27, 28, 29, 30, 31, 32, 33, 34, 35] [none, some 0, some 1, some 2, none, none, none, none, none, none, none, none, none, none, none, none, none, none, none, none, some 3, some 4, some 5, some 6, some 7, some 8, some 9, some 10, some 11, some 12, some 13, some 14, some 15, some 16, some 17, some 18, none, none, none, none, none, none, none, none, none, none, none, none, none, none, none, none, none, none] rfl rfl rfl rfl rfl rfl 1 rfl rfl rfl hl.1 rfl (Nat.le_of_ble_eq_true rfl) dX7_read_12 ⟨Nat.zero_le _, Nat.zero_le _⟩ (fun H locs hP hD hS => ?_)
  refine lv_istore_n (lv' := [(1, .int q12.1), (0, .ref (ad 0))]) hx hb dX7_read_15 rfl hl (by decide) rfl (fun ls hl => ?_)
  refine lv_aload_n hx hb dX7_read_16 rfl (lv_at hl 1 rfl) ?_
  refine lv_iconst (v := 0) hx hb dX7_read_17 (by decide) ?_
  refine va_put (D := (dC, dI)) (ci := 7) (v := .int ((0 : Int32))) (ty := .int) (C := RX7) (T := TX7) (N := 9) hx hb hts ki7 tyX7 tyX7_ok nmX7 hown hK hP hD hS 0 rfl rfl 1 (by decide) kf55 (fun _ h9 => h9) rfl (by decide +kernel) rfl rfl (Nat.le_of_ble_eq_true rfl) dX7_read_18 (fun H locs hP hD hS => ?_)
  have hP : va_P (dC, dI) vwCl (zzX ad cy (ad 20) (ad 27) (ad 4) (ad 11) pb (ad 4) (ad 20) (us iX [(1, (0 : Int32))]) q12.2.1 q12.2.2.1 q12.2.2.2.1 tx iB lB aB iC aC q12.2.2.2.2.1 q12.2.2.2.2.2.1 q12.2.2.2.2.2.2.1 q12.2.2.2.2.2.2.2.1 q12.2.2.2.2.2.2.2.2 iK lK aK iW aW iP aP) H := Eq.mp (congrArg (fun w => va_P (dC, dI) vwCl w H) (sfX_iX1 ad cy (ad 20) (ad 27) (ad 4) (ad 11) pb (ad 4) (ad 20) iX q12.2.1 q12.2.2.1 q12.2.2.2.1 tx iB lB aB iC aC q12.2.2.2.2.1 q12.2.2.2.2.2.1 q12.2.2.2.2.2.2.1 q12.2.2.2.2.2.2.2.1 q12.2.2.2.2.2.2.2.2 iK lK aK iW aW iP aP ((0 : Int32)))) hP
  have hD : va_D A (zzX ad cy (ad 20) (ad 27) (ad 4) (ad 11) pb (ad 4) (ad 20) (us iX [(1, (0 : Int32))]) q12.2.1 q12.2.2.1 q12.2.2.2.1 tx iB lB aB iC aC q12.2.2.2.2.1 q12.2.2.2.2.2.1 q12.2.2.2.2.2.2.1 q12.2.2.2.2.2.2.2.1 q12.2.2.2.2.2.2.2.2 iK lK aK iW aW iP aP) := Eq.mp (congrArg (fun w => va_D A w) (sfX_iX1 ad cy (ad 20) (ad 27) (ad 4) (ad 11) pb (ad 4) (ad 20) iX q12.2.1 q12.2.2.1 q12.2.2.2.1 tx iB lB aB iC aC q12.2.2.2.2.1 q12.2.2.2.2.2.1 q12.2.2.2.2.2.2.1 q12.2.2.2.2.2.2.2.1 q12.2.2.2.2.2.2.2.2 iK lK aK iW aW iP aP ((0 : Int32)))) hD
  refine lv_iload_n hx hb dX7_read_21 rfl (lv_at hl 0 rfl) ?_
  refine lv_if_ne (tgt := 34) hx hb dX7_read_22 (by decide) (fun cz => ?_) (fun cz => ?_)
  · have h := g_f h cz
    refine lv_aload_n hx hb dX7_read_34 rfl (lv_at hl 1 rfl) ?_
    refine va_get (D := (dC, dI)) (ci := 7) (v := .ref (ad 4)) (C := RX7) (T := TX7) (N := 9) hx hb hts ki7 hown hK hP 0 rfl rfl 3 (by decide) kf16 (fun _ h9 => h9) rfl dX7_read_35 ?_
    refine lv_astore_n (lv' := [(2, .ref (ad 4)), (1, .int q12.1), (0, .ref (ad 0))]) hx hb dX7_read_38 rfl hl (by decide) rfl (fun ls hl => ?_)
    refine lv_aload_n hx hb dX7_read_39 rfl (lv_at hl 2 rfl) ?_
    refine lv_aload_n hx hb dX7_read_40 rfl (lv_at hl 2 rfl) ?_
    refine va_get (D := (dC, dI)) (ci := 7) (v := .ref (ad 20)) (C := RX7) (T := TX7) (N := 9) hx hb hts ki7 hown hK hP 0 rfl rfl 4 (by decide) kf20 (fun _ h9 => h9) rfl dX7_read_41 ?_
    refine va_put (D := (dC, dI)) (ci := 7) (v := .ref (ad 20)) (ty := (.object "TypeCourt$Book")) (C := RX7) (T := TX7) (N := 9) hx hb hts ki7 tyX7 tyX7_ok nmX7 hown hK hP hD hS 0 rfl rfl 3 (by decide) kf16 (fun _ h9 => h9) rfl (by decide +kernel) rfl rfl (Nat.le_of_ble_eq_true rfl) dX7_read_44 (fun H locs hP hD hS => ?_)
    have hP : va_P (dC, dI) vwCl (zzX ad cy (ad 20) (ad 27) (ad 4) (ad 11) pb (ad 20) (ad 20) (us iX [(1, (0 : Int32))]) q12.2.1 q12.2.2.1 q12.2.2.2.1 tx iB lB aB iC aC q12.2.2.2.2.1 q12.2.2.2.2.2.1 q12.2.2.2.2.2.2.1 q12.2.2.2.2.2.2.2.1 q12.2.2.2.2.2.2.2.2 iK lK aK iW aW iP aP) H := hP
    have hD : va_D A (zzX ad cy (ad 20) (ad 27) (ad 4) (ad 11) pb (ad 20) (ad 20) (us iX [(1, (0 : Int32))]) q12.2.1 q12.2.2.1 q12.2.2.2.1 tx iB lB aB iC aC q12.2.2.2.2.1 q12.2.2.2.2.2.1 q12.2.2.2.2.2.2.1 q12.2.2.2.2.2.2.2.1 q12.2.2.2.2.2.2.2.2 iK lK aK iW aW iP aP) := hD
    refine lv_aload_n hx hb dX7_read_47 rfl (lv_at hl 2 rfl) ?_
    refine lv_aload_n hx hb dX7_read_48 rfl (lv_at hl 0 rfl) ?_
    refine va_put (D := (dC, dI)) (ci := 7) (v := .ref (ad 4)) (ty := (.object "TypeCourt$Book")) (C := RX7) (T := TX7) (N := 9) hx hb hts ki7 tyX7 tyX7_ok nmX7 hown hK hP hD hS 0 rfl rfl 4 (by decide) kf20 (fun _ h9 => h9) rfl (by decide +kernel) rfl rfl (Nat.le_of_ble_eq_true rfl) dX7_read_49 (fun H locs hP hD hS => ?_)
    have hP : va_P (dC, dI) vwCl (zzX ad cy (ad 20) (ad 27) (ad 4) (ad 11) pb (ad 20) (ad 4) (us iX [(1, (0 : Int32))]) q12.2.1 q12.2.2.1 q12.2.2.2.1 tx iB lB aB iC aC q12.2.2.2.2.1 q12.2.2.2.2.2.1 q12.2.2.2.2.2.2.1 q12.2.2.2.2.2.2.2.1 q12.2.2.2.2.2.2.2.2 iK lK aK iW aW iP aP) H := hP
    have hD : va_D A (zzX ad cy (ad 20) (ad 27) (ad 4) (ad 11) pb (ad 20) (ad 4) (us iX [(1, (0 : Int32))]) q12.2.1 q12.2.2.1 q12.2.2.2.1 tx iB lB aB iC aC q12.2.2.2.2.1 q12.2.2.2.2.2.1 q12.2.2.2.2.2.2.1 q12.2.2.2.2.2.2.2.1 q12.2.2.2.2.2.2.2.2 iK lK aK iW aW iP aP) := hD
    refine lv_aload_n hx hb dX7_read_52 rfl (lv_at hl 2 rfl) ?_
    refine lv_iconst (v := 1) hx hb dX7_read_53 (by decide) ?_
    refine va_put (D := (dC, dI)) (ci := 7) (v := .int ((1 : Int32))) (ty := .boolean) (C := RX7) (T := TX7) (N := 9) hx hb hts ki7 tyX7 tyX7_ok nmX7 hown hK hP hD hS 0 rfl rfl 5 (by decide) kf70 (fun _ h9 => h9) rfl (by decide +kernel) rfl rfl (Nat.le_of_ble_eq_true rfl) dX7_read_54 (fun H locs hP hD hS => ?_)
    have hP : va_P (dC, dI) vwCl (zzX ad cy (ad 20) (ad 27) (ad 4) (ad 11) pb (ad 20) (ad 4) (us iX [(1, (0 : Int32)), (5, (1 : Int32))]) q12.2.1 q12.2.2.1 q12.2.2.2.1 tx iB lB aB iC aC q12.2.2.2.2.1 q12.2.2.2.2.2.1 q12.2.2.2.2.2.2.1 q12.2.2.2.2.2.2.2.1 q12.2.2.2.2.2.2.2.2 iK lK aK iW aW iP aP) H := Eq.mp (congrArg (fun w => va_P (dC, dI) vwCl w H) (stX_iX5 ad cy (ad 20) (ad 27) (ad 4) (ad 11) pb (ad 20) (ad 4) iX q12.2.1 q12.2.2.1 q12.2.2.2.1 tx iB lB aB iC aC q12.2.2.2.2.1 q12.2.2.2.2.2.1 q12.2.2.2.2.2.2.1 q12.2.2.2.2.2.2.2.1 q12.2.2.2.2.2.2.2.2 iK lK aK iW aW iP aP [(1, (0 : Int32))] ((1 : Int32)))) hP
    have hD : va_D A (zzX ad cy (ad 20) (ad 27) (ad 4) (ad 11) pb (ad 20) (ad 4) (us iX [(1, (0 : Int32)), (5, (1 : Int32))]) q12.2.1 q12.2.2.1 q12.2.2.2.1 tx iB lB aB iC aC q12.2.2.2.2.1 q12.2.2.2.2.2.1 q12.2.2.2.2.2.2.1 q12.2.2.2.2.2.2.2.1 q12.2.2.2.2.2.2.2.2 iK lK aK iW aW iP aP) := Eq.mp (congrArg (fun w => va_D A w) (stX_iX5 ad cy (ad 20) (ad 27) (ad 4) (ad 11) pb (ad 20) (ad 4) iX q12.2.1 q12.2.2.1 q12.2.2.2.1 tx iB lB aB iC aC q12.2.2.2.2.1 q12.2.2.2.2.2.1 q12.2.2.2.2.2.2.1 q12.2.2.2.2.2.2.2.1 q12.2.2.2.2.2.2.2.2 iK lK aK iW aW iP aP [(1, (0 : Int32))] ((1 : Int32)))) hD
    refine lv_aload_n hx hb dX7_read_57 rfl (lv_at hl 2 rfl) ?_
    refine va_get (D := (dC, dI)) (ci := 7) (v := .ref (ad 36)) (C := RX7) (T := TX7) (N := 9) hx hb hts ki7 hown hK hP 0 rfl rfl 6 (by decide) kf37 (fun _ h9 => h9) rfl dX7_read_58 ?_
    refine lv_aload_n hx hb dX7_read_61 rfl (lv_at hl 2 rfl) ?_
    refine va_get (D := (dC, dI)) (ci := 7) (v := .ref (ad 20)) (C := RX7) (T := TX7) (N := 9) hx hb hts ki7 hown hK hP 0 rfl rfl 3 (by decide) kf16 (fun _ h9 => h9) rfl dX7_read_62 ?_
    obtain ⟨q65, e65, h⟩ := g_b h
    refine callVv (cc := cX7_read) (ws' := zzX ad cy (ad 20) (ad 27) (ad 20) (ad 27) pb (ad 20) (ad 4) (us iX [(1, (0 : Int32)), (5, (1 : Int32))]) q12.2.1 q12.2.2.1 q12.2.2.2.1 tx iB lB aB iC aC q12.2.2.2.2.1 q12.2.2.2.2.2.1 q12.2.2.2.2.2.2.1 q12.2.2.2.2.2.2.2.1 q12.2.2.2.2.2.2.2.2 q65.1 q65.2.1 q65.2.2 iW aW iP aP) (As := [.ref (ad 20)]) (rest := []) ⟨hx, hb, hml, hown, hts⟩ (c_K_workOut l dC dI cy (fun i => ad (([36, 37, 38, 39, 40, 41, 42, 43, 44, 45, 46, 20, 21, 22, 23, 24, 25, 26, 27, 28, 29, 30, 31, 32, 33, 34, 35] : List Nat).getD i 0)) H.size (ad 4) (ad 11) N iK lK aK q12.2.2.2.2.1 q12.2.2.2.2.2.1 q12.2.2.2.2.2.2.1 q12.2.2.2.2.2.2.2.1 q12.2.2.2.2.2.2.2.2 q65 e65) (cwV 1 hts (goodV m_ml_X7_74 m_im_X2_workOut m_se_X2_workOut m_in_X2 m_cd_X2_workOut) rfl rfl rfl (by decide +kernel) ⟨Nat.le_of_ble_eq_true rfl, Nat.le_of_ble_eq_true rfl⟩) hN hK hP hD hS hA [36, 37, 38, 39, 40, 41, 42, 43, 44, 45, 46, 20, 21, 22, 23, 24, 25, 26, 27, 28, 29, 30, 31, 32, 33, 34, 35] [none, none, none, none, none, none, none, none, none, none, none, none, none, none, none, none, none, none, none, none, some 11, some 12, some 13, some 14, some 15, some 16, some 17, some 18, some 19, some 20, some 21, some 22, some 23, some 24, some 25, some 26, some 0, some 1, some 2, some 3, some 4, some 5, some 6, some 7, some 8, some 9, some 10, none, none, none, none, none, none, none] rfl rfl rfl rfl rfl rfl 36 rfl rfl rfl hl.1 rfl (Nat.le_of_ble_eq_true rfl) dX7_read_65 ⟨Nat.zero_le _, Nat.zero_le _⟩ (fun H locs hP hD hS => ?_)
    refine lv_aload_n hx hb dX7_read_68 rfl (lv_at hl 2 rfl) ?_
    refine va_get (D := (dC, dI)) (ci := 7) (v := .ref (ad 47)) (C := RX7) (T := TX7) (N := 9) hx hb hts ki7 hown hK hP 0 rfl rfl 7 (by decide) kf44 (fun _ h9 => h9) rfl dX7_read_69 ?_
    obtain ⟨q72, e72, h⟩ := g_b h
    refine callVv (cc := cX7_read) (ws' := zzX ad cy (ad 20) (ad 27) (ad 20) (ad 27) pb (ad 20) (ad 4) (us iX [(1, (0 : Int32)), (5, (1 : Int32))]) q12.2.1 q12.2.2.1 q12.2.2.2.1 tx iB lB aB iC aC q12.2.2.2.2.1 q12.2.2.2.2.2.1 q12.2.2.2.2.2.2.1 q12.2.2.2.2.2.2.2.1 q12.2.2.2.2.2.2.2.2 q65.1 q65.2.1 q65.2.2 (us iW [(1, q72.1), (4, q72.2.1)]) (us aW [(2, q72.2.2)]) iP aP) (As := []) (rest := []) ⟨hx, hb, hml, hown, hts⟩ (c_W_clear l dC dI cy (fun i => ad (i + 47)) H.size N iW aW q72 e72) (cwV 0 hts (goodV m_ml_X7_77 m_im_X6_clear m_se_X6_clear m_in_X6 m_cd_X6_clear) rfl rfl rfl (by decide +kernel) ⟨Nat.le_of_ble_eq_true rfl, Nat.le_of_ble_eq_true rfl⟩) hN hK hP hD hS hA [47, 48, 49, 50] [none, none, none, none, none, none, none, none, none, none, none, none, none, none, none, none, none, none, none, none, none, none, none, none, none, none, none, none, none, none, none, none, none, none, none, none, none, none, none, none, none, none, none, none, none, none, none, some 0, some 1, some 2, some 3, none, none, none] rfl rfl rfl rfl rfl rfl 47 rfl rfl rfl hl.1 rfl (Nat.le_of_ble_eq_true rfl) dX7_read_72 ⟨Nat.zero_le _, Nat.zero_le _⟩ (fun H locs hP hD hS => ?_)
    refine lv_aload_n hx hb dX7_read_75 rfl (lv_at hl 2 rfl) ?_
    refine va_get (D := (dC, dI)) (ci := 7) (v := .ref (ad 20)) (C := RX7) (T := TX7) (N := 9) hx hb hts ki7 hown hK hP 0 rfl rfl 3 (by decide) kf16 (fun _ h9 => h9) rfl dX7_read_76 ?_
    refine va_get (D := (dC, dI)) (ci := 0) (v := .int ((q12.2.2.2.2.1 1))) (C := RX0) (T := TX0) (N := 15) hx hb hts ki0 hown hK hP 20 rfl rfl 1 (by decide) kf80 (fun _ h9 => h9) rfl dX7_read_79 ?_
    have h' := Option.some.inj h
    rw [← hQQ]
    exact W.iret (v := (q12.2.2.2.2.1 1)) hx hb hr (fun t ht hW => ⟨⟨(q12.2.2.2.2.1 1), (), rfl, by rw [← h'], by rw [← hWQ, ← h', ht]; exact hP, va_K.moved hW.alike hK⟩, hS.F ht⟩) hS.2.2 dX7_read_82
  · have h := g_t h cz
    refine lv_aload_n hx hb dX7_read_25 rfl (lv_at hl 1 rfl) ?_
    refine va_get (D := (dC, dI)) (ci := 7) (v := .ref (ad 1)) (C := RX7) (T := TX7) (N := 9) hx hb hts ki7 hown hK hP 0 rfl rfl 2 (by decide) kf28 (fun _ h9 => h9) rfl dX7_read_26 ?_
    refine va_get (D := (dC, dI)) (ci := 4) (v := .int ((q12.2.1 3))) (C := RX4) (T := TX4) (N := 5) hx hb hts ki4 hown hK hP 1 rfl rfl 3 (by decide) kf67 (fun _ h9 => h9) rfl dX7_read_29 ?_
    refine lv_ineg hx hb dX7_read_32 ?_
    have h' := Option.some.inj h
    rw [← hQQ]
    exact W.iret (v := (-(q12.2.1 3))) hx hb hr (fun t ht hW => ⟨⟨(-(q12.2.1 3)), (), rfl, by rw [← h'], by rw [← hWQ, ← h', ht]; exact hP, va_K.moved hW.alike hK⟩, hS.F ht⟩) hS.2.2 dX7_read_33
set_option maxHeartbeats 8000000 in
set_option maxRecDepth 100000 in
theorem c_X_place (l : Launch) (dC : Nat → ClassId) (dI : Nat → Nat → Nat) (cy : Nat → ClassId) (ad : Nat → Nat) (sz : Nat) (rb : Nat) (rc : Nat) (pb : Nat) (iX : Nat → Int32) (iR : Nat → Int32) (iT : Nat → Int32) (wT : Int64) (tx : Nat → Int32) (iB : Nat → Int32) (lB : Nat → Nat → Int64) (aB : Nat → Nat → Int32) (iC : Nat → Int32) (aC : Nat → Nat → Int32) (iD : Nat → Int32) (lD : Nat → Nat → Int64) (aD : Nat → Nat → Int32) (iE : Nat → Int32) (aE : Nat → Nat → Int32) (iK : Nat → Int32) (lK : Nat → Nat → Int64) (aK : Nat → Nat → Int32) (iW : Nat → Int32) (aW : Nat → Nat → Int32) (iP : Nat → Int32) (aP : Nat → Nat → Int32) (q : Int32) (h : f_X_place (iR 4) = some q) : Met l yX7_place wsX7_place ({ frames := 0, cells := 0, slots := 0, locals := 0 } : Room) (cP (dC, dI) cy [.ref (ad 0)] (zzX ad cy rb rc (ad 4) (ad 11) pb (ad 4) (ad 20) iX iR iT wT tx iB lB aB iC aC iD lD aD iE aE iK lK aK iW aW iP aP) sz) (cQi (dC, dI) cy q (zzX ad cy rb rc (ad 4) (ad 11) pb (ad 4) (ad 20) iX iR iT wT tx iB lB aB iC aC iD lD aD iE aE iK lK aK iW aW iP aP) (va_A (zzX ad cy rb rc (ad 4) (ad 11) pb (ad 4) (ad 20) iX iR iT wT tx iB lB aB iC aC iD lD aD iE aE iK lK aK iW aW iP aP) sz)) 0 0 (va_A (zzX ad cy rb rc (ad 4) (ad 11) pb (ad 4) (ad 20) iX iR iT wT tx iB lB aB iC aC iD lD aD iE aE iK lK aK iW aW iP aP) sz) := by
  refine Met.ofW (cc := cX7_place) (maxL := 1) (ret := (some .int)) (by decide) rfl ?_
  intro p e s m args below meth c s₁ B hml hv
  obtain ⟨hav, hsz, hP, hK, hD0, hN⟩ := hv
  have hx := B.exec
  have hb := B.bytes
  have hr := B.returns
  have hts := atoms_spec (ws := wsX7_place) B.pre
  have hown : s.vm.findClass RX7 = some m.cls := findClass_of_methodNamed B.named
  have hlocks := B.notSynchronized
  subst hsz
  have hD := hD0.self (sz := s.heap.size)
  generalize hAe : va_A (zzX ad cy rb rc (ad 4) (ad 11) pb (ad 4) (ad 20) iX iR iT wT tx iB lB aB iC aC iD lD aD iE aE iK lK aK iW aW iP aP) s.heap.size = A at hD ⊢
  have hA : ∀ q : Nat, s.heap.size ≤ q → A q := fun q h => by rw [← hAe]; exact Or.inr h
  have hS : va_S A s.heap s.heap [] := va_S.rf
  generalize hWQ : (zzX ad cy rb rc (ad 4) (ad 11) pb (ad 4) (ad 20) iX iR iT wT tx iB lB aB iC aC iD lD aD iE aE iK lK aK iW aW iP aP) = WQ
  generalize hQQ : MQ below (cQi (dC, dI) cy q WQ A) args s 0 0 A = QQ
  have hl := lv_entry ([.ref (ad 0)] : List Value) (n := 1) (Nat.le_of_ble_eq_true rfl)
  have hfr := lg_entry_eq m ([.ref (ad 0)] : List Value) 1
  rw [← hav] at hfr
  rw [hfr]
  clear hfr hav
  generalize (lg_sl ([.ref (ad 0)] : List Value) ++ List.replicate (1 - (lg_sl ([.ref (ad 0)] : List Value)).length) Slot.unset).toArray = ls at hl ⊢
  have hl : lv_has ls 1 [(0, .ref (ad 0))] := hl
  have kf28 := hts _ (List.mem_cons_of_mem _ m_fl_X7_28)
  have ki7 := (fun w h => List.mem_cons_of_mem _ (i_X7 w h) : ∀ w ∈ u_ws RX7 TX7 9, w ∈ wsX7_place)
  have kf83 := hts _ (List.mem_cons_of_mem _ m_fl_X7_83)
  have ki4 := (fun w h => List.mem_cons_of_mem _ (i_X4 w h) : ∀ w ∈ u_ws RX4 TX4 5, w ∈ wsX7_place)
  refine (?_ : ∀ (H : Heap) (locs : List Loc), va_P (dC, dI) vwCl (zzX ad cy rb rc (ad 4) (ad 11) pb (ad 4) (ad 20) iX iR iT wT tx iB lB aB iC aC iD lD aD iE aE iK lK aK iW aW iP aP) H → va_D A (zzX ad cy rb rc (ad 4) (ad 11) pb (ad 4) (ad 20) iX iR iT wT tx iB lB aB iC aC iD lD aD iE aE iK lK aK iW aW iP aP) → va_S A s.heap H locs → W p l e ({ frames := 0, cells := 0, slots := 0, locals := 0 } : Room) s m args below meth c H locs 0 0 QQ (F0 m 0 ls [])) s.heap [] hP hD hS
  clear hP hD hS
  intro H locs hP hD hS
  unfold f_X_place at h
  refine lv_aload_n hx hb dX7_place_0 rfl (lv_at hl 0 rfl) ?_
  refine va_get (D := (dC, dI)) (ci := 7) (v := .ref (ad 1)) (C := RX7) (T := TX7) (N := 9) hx hb hts ki7 hown hK hP 0 rfl rfl 2 (by decide) kf28 (fun _ h9 => h9) rfl dX7_place_1 ?_
  refine va_get (D := (dC, dI)) (ci := 4) (v := .int (iR 4)) (C := RX4) (T := TX4) (N := 5) hx hb hts ki4 hown hK hP 1 rfl rfl 4 (by decide) kf83 (fun _ h9 => h9) rfl dX7_place_4 ?_
  have h' := Option.some.inj h
  rw [← hQQ]
  exact W.iret (v := (iR 4)) hx hb hr (fun t ht hW => ⟨⟨(iR 4), (), rfl, by rw [← h'], by rw [← hWQ, ht]; exact hP, va_K.moved hW.alike hK⟩, hS.F ht⟩) hS.2.2 dX7_place_7
set_option maxHeartbeats 8000000 in
set_option maxRecDepth 100000 in
theorem c_K_sizeOf (l : Launch) (dC : Nat → ClassId) (dI : Nat → Nat → Nat) (cy : Nat → ClassId) (ad : Nat → Nat) (sz : Nat) (rcv : Nat) (N : Nat) (ln : Nat) (la : Nat → Int64) (q : Int32) (h : f_K_sizeOf N ln la = some q) : Met l yX2_sizeOf wsX2_sizeOf ({ frames := 1, cells := 0, slots := 0, locals := 21 } : Room) (cP (dC, dI) cy [.ref rcv, .ref (ad 0)] (zzA ad cy ln la) sz) (cQi (dC, dI) cy q (zzA ad cy ln la) (va_A (zzA ad cy ln la) sz)) 0 0 (va_A (zzA ad cy ln la) sz) := by
  refine Met.ofW (cc := cX2_sizeOf) (maxL := 8) (ret := (some .int)) (by decide) rfl ?_
  intro p e s m args below meth c s₁ B hml hv
  obtain ⟨hav, hsz, hP, hK, hD0, hN⟩ := hv
  have hx := B.exec
  have hb := B.bytes
  have hr := B.returns
  have hts := atoms_spec (ws := wsX2_sizeOf) B.pre
  have hown : s.vm.findClass RX2 = some m.cls := findClass_of_methodNamed B.named
  have hlocks := B.notSynchronized
  subst hsz
  have hD := hD0.self (sz := s.heap.size)
  generalize hAe : va_A (zzA ad cy ln la) s.heap.size = A at hD ⊢
  have hA : ∀ q : Nat, s.heap.size ≤ q → A q := fun q h => by rw [← hAe]; exact Or.inr h
  have hS : va_S A s.heap s.heap [] := va_S.rf
  generalize hWQ : (zzA ad cy ln la) = WQ
  generalize hQQ : MQ below (cQi (dC, dI) cy q WQ A) args s 0 0 A = QQ
  have hl := lv_entry ([.ref rcv, .ref (ad 0)] : List Value) (n := 8) (Nat.le_of_ble_eq_true rfl)
  have hfr := lg_entry_eq m ([.ref rcv, .ref (ad 0)] : List Value) 8
  rw [← hav] at hfr
  rw [hfr]
  clear hfr hav
  generalize (lg_sl ([.ref rcv, .ref (ad 0)] : List Value) ++ List.replicate (8 - (lg_sl ([.ref rcv, .ref (ad 0)] : List Value)).length) Slot.unset).toArray = ls at hl ⊢
  have hl : lv_has ls 8 [(0, .ref rcv), (1, .ref (ad 0))] := hl
  refine (?_ : ∀ (H : Heap) (locs : List Loc), va_P (dC, dI) vwCl (zzA ad cy ln la) H → va_D A (zzA ad cy ln la) → va_S A s.heap H locs → W p l e ({ frames := 1, cells := 0, slots := 0, locals := 21 } : Room) s m args below meth c H locs 0 0 QQ (F0 m 0 ls [])) s.heap [] hP hD hS
  clear hP hD hS
  have B11 : ∀ (n : Nat) (v4 : Int32) (v2 : Int32) (v5 : Int32) (H : Heap) (locs : List Loc) (ls : Array Slot), f_K_sizeOf_11 N ln la v4 n v2 v5 = some q → va_P (dC, dI) vwCl (zzA ad cy ln la) H → va_D A (zzA ad cy ln la) → va_S A s.heap H locs → lv_has ls 8 [(2, .int v2), (3, .ref (ad 0)), (4, .int v4), (5, .int v5)] → W p l e ({ frames := 1, cells := 0, slots := 0, locals := 21 } : Room) s m args below meth c H locs 0 0 QQ (F0 m 11 ls []) := by
    intro n
    induction n with
    | zero =>
      intro v4 v2 v5 H locs ls h hP hD hS hl
      rw [f_K_sizeOf_11] at h
      cases h
    | succ n ih =>
      intro v4 v2 v5 H locs ls h hP hD hS hl
      rw [f_K_sizeOf_11] at h
      refine lv_iload hx hb dX2_sizeOf_11 (lv_at hl 3 rfl) ?_
      refine lv_iload hx hb dX2_sizeOf_13 (lv_at hl 2 rfl) ?_
      refine lv_icmp_ge (tgt := 38) hx hb dX2_sizeOf_15 (by decide) (fun cz => ?_) (fun cz => ?_)
      · have h := g_t h cz
        refine lv_iload_n hx hb dX2_sizeOf_38 rfl (lv_at hl 0 rfl) ?_
        have h' := Option.some.inj h
        rw [← hQQ]
        exact W.iret (v := v2) hx hb hr (fun t ht hW => ⟨⟨v2, (), rfl, by rw [← h'], by rw [← hWQ, ht]; exact hP, va_K.moved hW.alike hK⟩, hS.F ht⟩) hS.2.2 dX2_sizeOf_39
      · have h := g_f h cz
        refine lv_aload_n hx hb dX2_sizeOf_18 rfl (lv_at hl 1 rfl) ?_
        refine lv_iload hx hb dX2_sizeOf_19 (lv_at hl 3 rfl) ?_
        obtain ⟨g_33, h⟩ := g_n h
        refine va_lald (f := la) hx hb hK hP 0 2 rfl rfl g_33 dX2_sizeOf_21 ?_
        refine lv_lstore (lv' := [(6, .long ((la v5.toNatClampNeg))), (2, .int v2), (3, .ref (ad 0)), (4, .int v4), (5, .int v5)]) hx hb dX2_sizeOf_22 hl (by decide) rfl (fun ls hl => ?_)
        refine lv_iload_n hx hb dX2_sizeOf_24 rfl (lv_at hl 1 rfl) ?_
        refine lv_lload hx hb dX2_sizeOf_25 (lv_at hl 0 rfl) ?_
        obtain ⟨q27, e27, h⟩ := g_b h
        refine callSi (cc := cX2_sizeOf) (ws' := zzA ad cy ln la) (As := [.long ((la v5.toNatClampNeg))]) (rest := [.int v2]) ⟨hx, hb, hml, hown, hts⟩ (c_J_bitCount l dC dI cy ad H.size ((la v5.toNatClampNeg)) q27 e27) (va_cwS 1 hts (goodS m_ml_X2_191 m_st_J13_bitCount_95d88 m_in_J13 m_cd_J13_bitCount_95d88) rfl rfl rfl (by decide +kernel) ⟨Nat.le_of_ble_eq_true rfl, Nat.le_of_ble_eq_true rfl⟩) hN hK hP hD hS hA [] [none] rfl rfl rfl rfl rfl rfl rfl hl.1 rfl (Nat.le_of_ble_eq_true rfl) dX2_sizeOf_27 ⟨Nat.zero_le _, Nat.zero_le _⟩ (fun H locs hP hD hS => ?_)
        refine lv_iadd hx hb dX2_sizeOf_30 ?_
        refine lv_istore_n (lv' := [(2, .int ((v2 + q27))), (6, .long ((la v5.toNatClampNeg))), (3, .ref (ad 0)), (4, .int v4), (5, .int v5)]) hx hb dX2_sizeOf_31 rfl hl (by decide) rfl (fun ls hl => ?_)
        refine lv_iinc (v := (v5 + (1 : Int32))) (lv' := [(5, .int ((v5 + (1 : Int32)))), (2, .int ((v2 + q27))), (6, .long ((la v5.toNatClampNeg))), (3, .ref (ad 0)), (4, .int v4)]) hx hb dX2_sizeOf_32 hl (k := 4) rfl rfl (by decide) rfl (fun ls hl => ?_)
        refine lv_goto (tgt := 11) hx hb dX2_sizeOf_35 (by decide) ?_
        exact ih v4 ((v2 + q27)) ((v5 + (1 : Int32))) H locs ls h hP hD hS (lv_sub hl [1, 3, 4, 0] rfl)
  intro H locs hP hD hS
  unfold f_K_sizeOf at h
  refine lv_iconst (v := 0) hx hb dX2_sizeOf_0 (by decide) ?_
  refine lv_istore_n (lv' := [(2, .int ((0 : Int32))), (0, .ref rcv), (1, .ref (ad 0))]) hx hb dX2_sizeOf_1 rfl hl (by decide) rfl (fun ls hl => ?_)
  refine lv_aload_n hx hb dX2_sizeOf_2 rfl (lv_at hl 2 rfl) ?_
  refine lv_astore_n (lv' := [(3, .ref (ad 0)), (2, .int ((0 : Int32))), (0, .ref rcv), (1, .ref (ad 0))]) hx hb dX2_sizeOf_3 rfl hl (by decide) rfl (fun ls hl => ?_)
  refine lv_aload_n hx hb dX2_sizeOf_4 rfl (lv_at hl 0 rfl) ?_
  refine va_alen (v := (Int32.ofNat ln)) hx hb hK hP 0 2 rfl rfl rfl dX2_sizeOf_5 ?_
  refine lv_istore (lv' := [(4, .int ((Int32.ofNat ln))), (3, .ref (ad 0)), (2, .int ((0 : Int32))), (0, .ref rcv), (1, .ref (ad 0))]) hx hb dX2_sizeOf_6 hl (by decide) rfl (fun ls hl => ?_)
  refine lv_iconst (v := 0) hx hb dX2_sizeOf_8 (by decide) ?_
  refine lv_istore (lv' := [(5, .int ((0 : Int32))), (4, .int ((Int32.ofNat ln))), (3, .ref (ad 0)), (2, .int ((0 : Int32))), (0, .ref rcv), (1, .ref (ad 0))]) hx hb dX2_sizeOf_9 hl (by decide) rfl (fun ls hl => ?_)
  exact B11 N ((Int32.ofNat ln)) ((0 : Int32)) ((0 : Int32)) H locs ls h hP hD hS (lv_sub hl [3, 2, 1, 0] rfl)
set_option maxHeartbeats 8000000 in
set_option maxRecDepth 100000 in
theorem c_X_count (l : Launch) (dC : Nat → ClassId) (dI : Nat → Nat → Nat) (cy : Nat → ClassId) (ad : Nat → Nat) (sz : Nat) (rb : Nat) (rc : Nat) (pb : Nat) (N : Nat) (a1 : Int32) (iX : Nat → Int32) (iR : Nat → Int32) (iT : Nat → Int32) (wT : Int64) (tx : Nat → Int32) (iB : Nat → Int32) (lB : Nat → Nat → Int64) (aB : Nat → Nat → Int32) (iC : Nat → Int32) (aC : Nat → Nat → Int32) (iD : Nat → Int32) (lD : Nat → Nat → Int64) (aD : Nat → Nat → Int32) (iE : Nat → Int32) (aE : Nat → Nat → Int32) (iK : Nat → Int32) (lK : Nat → Nat → Int64) (aK : Nat → Nat → Int32) (iW : Nat → Int32) (aW : Nat → Nat → Int32) (iP : Nat → Int32) (aP : Nat → Nat → Int32) (q : Int32) (h : f_X_count N a1 (iX 5) (iB 1) (iB 3) (iB 5) (iB 9) (iB 11) (iC 9) (iK 14) (lK 8) (lK 9) (iW 1) (iW 4) (iP 1) = some q) : Met l yX7_count wsX7_count ({ frames := 2, cells := 0, slots := 0, locals := 48 } : Room) (cP (dC, dI) cy [.ref (ad 0), .int a1] (zzX ad cy rb rc (ad 4) (ad 11) pb (ad 4) (ad 20) iX iR iT wT tx iB lB aB iC aC iD lD aD iE aE iK lK aK iW aW iP aP) sz) (cQi (dC, dI) cy q (zzX ad cy rb rc (ad 4) (ad 11) pb (ad 4) (ad 20) iX iR iT wT tx iB lB aB iC aC iD lD aD iE aE iK lK aK iW aW iP aP) (va_A (zzX ad cy rb rc (ad 4) (ad 11) pb (ad 4) (ad 20) iX iR iT wT tx iB lB aB iC aC iD lD aD iE aE iK lK aK iW aW iP aP) sz)) 0 0 (va_A (zzX ad cy rb rc (ad 4) (ad 11) pb (ad 4) (ad 20) iX iR iT wT tx iB lB aB iC aC iD lD aD iE aE iK lK aK iW aW iP aP) sz) := by
  refine Met.ofW (cc := cX7_count) (maxL := 2) (ret := (some .int)) (by decide) rfl ?_
  intro p e s m args below meth c s₁ B hml hv
  obtain ⟨hav, hsz, hP, hK, hD0, hN⟩ := hv
  have hx := B.exec
  have hb := B.bytes
  have hr := B.returns
  have hts := atoms_spec (ws := wsX7_count) B.pre
  have hown : s.vm.findClass RX7 = some m.cls := findClass_of_methodNamed B.named
  have hlocks := B.notSynchronized
  subst hsz
  have hD := hD0.self (sz := s.heap.size)
  generalize hAe : va_A (zzX ad cy rb rc (ad 4) (ad 11) pb (ad 4) (ad 20) iX iR iT wT tx iB lB aB iC aC iD lD aD iE aE iK lK aK iW aW iP aP) s.heap.size = A at hD ⊢
  have hA : ∀ q : Nat, s.heap.size ≤ q → A q := fun q h => by rw [← hAe]; exact Or.inr h
  have hS : va_S A s.heap s.heap [] := va_S.rf
  generalize hWQ : (zzX ad cy rb rc (ad 4) (ad 11) pb (ad 4) (ad 20) iX iR iT wT tx iB lB aB iC aC iD lD aD iE aE iK lK aK iW aW iP aP) = WQ
  generalize hQQ : MQ below (cQi (dC, dI) cy q WQ A) args s 0 0 A = QQ
  have hl := lv_entry ([.ref (ad 0), .int a1] : List Value) (n := 2) (Nat.le_of_ble_eq_true rfl)
  have hfr := lg_entry_eq m ([.ref (ad 0), .int a1] : List Value) 2
  rw [← hav] at hfr
  rw [hfr]
  clear hfr hav
  generalize (lg_sl ([.ref (ad 0), .int a1] : List Value) ++ List.replicate (2 - (lg_sl ([.ref (ad 0), .int a1] : List Value)).length) Slot.unset).toArray = ls at hl ⊢
  have hl : lv_has ls 2 [(0, .ref (ad 0)), (1, .int a1)] := hl
  have kf70 := hts _ (List.mem_cons_of_mem _ m_fl_X7_70)
  have ki7 := (fun w h => List.mem_cons_of_mem _ (i_X7 w h) : ∀ w ∈ u_ws RX7 TX7 9, w ∈ wsX7_count)
  have kf16 := hts _ (List.mem_cons_of_mem _ m_fl_X7_16)
  have kf89 := hts _ (List.mem_cons_of_mem _ m_fl_X7_89)
  have ki0 := (fun w h => List.mem_cons_of_mem _ (i_X0 w h) : ∀ w ∈ u_ws RX0 TX0 15, w ∈ wsX7_count)
  have kf92 := hts _ (List.mem_cons_of_mem _ m_fl_X7_92)
  have kf95 := hts _ (List.mem_cons_of_mem _ m_fl_X7_95)
  have kf98 := hts _ (List.mem_cons_of_mem _ m_fl_X7_98)
  have kf80 := hts _ (List.mem_cons_of_mem _ m_fl_X7_80)
  have kf101 := hts _ (List.mem_cons_of_mem _ m_fl_X7_101)
  have kf105 := hts _ (List.mem_cons_of_mem _ m_fl_X7_105)
  have ki1 := (fun w h => List.mem_cons_of_mem _ (i_X1 w h) : ∀ w ∈ u_ws RX1 TX1 10, w ∈ wsX7_count)
  have kf37 := hts _ (List.mem_cons_of_mem _ m_fl_X7_37)
  have kf110 := hts _ (List.mem_cons_of_mem _ m_fl_X7_110)
  have ki2 := (fun w h => List.mem_cons_of_mem _ (i_X2 w h) : ∀ w ∈ u_ws RX2 TX2 15, w ∈ wsX7_count)
  have kf118 := hts _ (List.mem_cons_of_mem _ m_fl_X7_118)
  have kf121 := hts _ (List.mem_cons_of_mem _ m_fl_X7_121)
  have kf44 := hts _ (List.mem_cons_of_mem _ m_fl_X7_44)
  have kf124 := hts _ (List.mem_cons_of_mem _ m_fl_X7_124)
  have ki6 := (fun w h => List.mem_cons_of_mem _ (i_X6 w h) : ∀ w ∈ u_ws RX6 TX6 5, w ∈ wsX7_count)
  have kf127 := hts _ (List.mem_cons_of_mem _ m_fl_X7_127)
  have kf51 := hts _ (List.mem_cons_of_mem _ m_fl_X7_51)
  have kf86 := hts _ (List.mem_cons_of_mem _ m_fl_X7_86)
  have ki3 := (fun w h => List.mem_cons_of_mem _ (i_X3 w h) : ∀ w ∈ u_ws RX3 TX3 5, w ∈ wsX7_count)
  refine (?_ : ∀ (H : Heap) (locs : List Loc), va_P (dC, dI) vwCl (zzX ad cy rb rc (ad 4) (ad 11) pb (ad 4) (ad 20) iX iR iT wT tx iB lB aB iC aC iD lD aD iE aE iK lK aK iW aW iP aP) H → va_D A (zzX ad cy rb rc (ad 4) (ad 11) pb (ad 4) (ad 20) iX iR iT wT tx iB lB aB iC aC iD lD aD iE aE iK lK aK iW aW iP aP) → va_S A s.heap H locs → W p l e ({ frames := 2, cells := 0, slots := 0, locals := 48 } : Room) s m args below meth c H locs 0 0 QQ (F0 m 0 ls [])) s.heap [] hP hD hS
  clear hP hD hS
  intro H locs hP hD hS
  unfold f_X_count at h
  refine lv_iload_n hx hb dX7_count_0 rfl (lv_at hl 1 rfl) ?_
  refine lv_bipush (v := 11) hx hb dX7_count_1 (by decide) ?_
  refine lv_icmp_ne (tgt := 14) hx hb dX7_count_3 (by decide) (fun cz => ?_) (fun cz => ?_)
  · have h := g_f h cz
    refine lv_aload_n hx hb dX7_count_14 rfl (lv_at hl 0 rfl) ?_
    refine va_get (D := (dC, dI)) (ci := 7) (v := .int (iX 5)) (C := RX7) (T := TX7) (N := 9) hx hb hts ki7 hown hK hP 0 rfl rfl 5 (by decide) kf70 (fun _ h9 => h9) rfl dX7_count_15 ?_
    refine lv_if_ne (tgt := 24) hx hb dX7_count_18 (by decide) (fun cz => ?_) (fun cz => ?_)
    · have h := g_f h cz
      refine lv_iload_n hx hb dX7_count_24 rfl (lv_at hl 1 rfl) ?_
      rcases Decidable.em (a1 = (0 : Int32)) with c0 | c0
      · have h := g_t h c0
        refine lv_tableIn (off := 59) (tgt := 84) hx hb dX7_count_25 (by rw [c0]; decide) (by rw [c0]; decide) (by rw [c0]; rfl) (by decide) ?_
        refine lv_aload_n hx hb dX7_count_84 rfl (lv_at hl 0 rfl) ?_
        refine va_get (D := (dC, dI)) (ci := 7) (v := .ref (ad 4)) (C := RX7) (T := TX7) (N := 9) hx hb hts ki7 hown hK hP 0 rfl rfl 3 (by decide) kf16 (fun _ h9 => h9) rfl dX7_count_85 ?_
        refine va_get (D := (dC, dI)) (ci := 0) (v := .int (iB 3)) (C := RX0) (T := TX0) (N := 15) hx hb hts ki0 hown hK hP 4 rfl rfl 3 (by decide) kf89 (fun _ h9 => h9) rfl dX7_count_88 ?_
        have h' := Option.some.inj h
        rw [← hQQ]
        exact W.iret (v := (iB 3)) hx hb hr (fun t ht hW => ⟨⟨(iB 3), (), rfl, by rw [← h'], by rw [← hWQ, ht]; exact hP, va_K.moved hW.alike hK⟩, hS.F ht⟩) hS.2.2 dX7_count_91
      · have h := g_f h c0
        rcases Decidable.em (a1 = (1 : Int32)) with c1 | c1
        · have h := g_t h c1
          refine lv_tableIn (off := 67) (tgt := 92) hx hb dX7_count_25 (by rw [c1]; decide) (by rw [c1]; decide) (by rw [c1]; rfl) (by decide) ?_
          refine lv_aload_n hx hb dX7_count_92 rfl (lv_at hl 0 rfl) ?_
          refine va_get (D := (dC, dI)) (ci := 7) (v := .ref (ad 4)) (C := RX7) (T := TX7) (N := 9) hx hb hts ki7 hown hK hP 0 rfl rfl 3 (by decide) kf16 (fun _ h9 => h9) rfl dX7_count_93 ?_
          refine va_get (D := (dC, dI)) (ci := 0) (v := .int (iB 5)) (C := RX0) (T := TX0) (N := 15) hx hb hts ki0 hown hK hP 4 rfl rfl 5 (by decide) kf92 (fun _ h9 => h9) rfl dX7_count_96 ?_
          have h' := Option.some.inj h
          rw [← hQQ]
          exact W.iret (v := (iB 5)) hx hb hr (fun t ht hW => ⟨⟨(iB 5), (), rfl, by rw [← h'], by rw [← hWQ, ht]; exact hP, va_K.moved hW.alike hK⟩, hS.F ht⟩) hS.2.2 dX7_count_99
        · have h := g_f h c1
          rcases Decidable.em (a1 = (2 : Int32)) with c2 | c2
          · have h := g_t h c2
            refine lv_tableIn (off := 75) (tgt := 100) hx hb dX7_count_25 (by rw [c2]; decide) (by rw [c2]; decide) (by rw [c2]; rfl) (by decide) ?_
            refine lv_aload_n hx hb dX7_count_100 rfl (lv_at hl 0 rfl) ?_
            refine va_get (D := (dC, dI)) (ci := 7) (v := .ref (ad 4)) (C := RX7) (T := TX7) (N := 9) hx hb hts ki7 hown hK hP 0 rfl rfl 3 (by decide) kf16 (fun _ h9 => h9) rfl dX7_count_101 ?_
            refine va_get (D := (dC, dI)) (ci := 0) (v := .int (iB 9)) (C := RX0) (T := TX0) (N := 15) hx hb hts ki0 hown hK hP 4 rfl rfl 9 (by decide) kf95 (fun _ h9 => h9) rfl dX7_count_104 ?_
            have h' := Option.some.inj h
            rw [← hQQ]
            exact W.iret (v := (iB 9)) hx hb hr (fun t ht hW => ⟨⟨(iB 9), (), rfl, by rw [← h'], by rw [← hWQ, ht]; exact hP, va_K.moved hW.alike hK⟩, hS.F ht⟩) hS.2.2 dX7_count_107
          · have h := g_f h c2
            rcases Decidable.em (a1 = (3 : Int32)) with c3 | c3
            · have h := g_t h c3
              refine lv_tableIn (off := 83) (tgt := 108) hx hb dX7_count_25 (by rw [c3]; decide) (by rw [c3]; decide) (by rw [c3]; rfl) (by decide) ?_
              refine lv_aload_n hx hb dX7_count_108 rfl (lv_at hl 0 rfl) ?_
              refine va_get (D := (dC, dI)) (ci := 7) (v := .ref (ad 4)) (C := RX7) (T := TX7) (N := 9) hx hb hts ki7 hown hK hP 0 rfl rfl 3 (by decide) kf16 (fun _ h9 => h9) rfl dX7_count_109 ?_
              refine va_get (D := (dC, dI)) (ci := 0) (v := .int (iB 11)) (C := RX0) (T := TX0) (N := 15) hx hb hts ki0 hown hK hP 4 rfl rfl 11 (by decide) kf98 (fun _ h9 => h9) rfl dX7_count_112 ?_
              have h' := Option.some.inj h
              rw [← hQQ]
              exact W.iret (v := (iB 11)) hx hb hr (fun t ht hW => ⟨⟨(iB 11), (), rfl, by rw [← h'], by rw [← hWQ, ht]; exact hP, va_K.moved hW.alike hK⟩, hS.F ht⟩) hS.2.2 dX7_count_115
            · have h := g_f h c3
              rcases Decidable.em (a1 = (4 : Int32)) with c4 | c4
              · have h := g_t h c4
                refine lv_tableIn (off := 91) (tgt := 116) hx hb dX7_count_25 (by rw [c4]; decide) (by rw [c4]; decide) (by rw [c4]; rfl) (by decide) ?_
                refine lv_aload_n hx hb dX7_count_116 rfl (lv_at hl 0 rfl) ?_
                refine va_get (D := (dC, dI)) (ci := 7) (v := .ref (ad 4)) (C := RX7) (T := TX7) (N := 9) hx hb hts ki7 hown hK hP 0 rfl rfl 3 (by decide) kf16 (fun _ h9 => h9) rfl dX7_count_117 ?_
                refine va_get (D := (dC, dI)) (ci := 0) (v := .int (iB 1)) (C := RX0) (T := TX0) (N := 15) hx hb hts ki0 hown hK hP 4 rfl rfl 1 (by decide) kf80 (fun _ h9 => h9) rfl dX7_count_120 ?_
                have h' := Option.some.inj h
                rw [← hQQ]
                exact W.iret (v := (iB 1)) hx hb hr (fun t ht hW => ⟨⟨(iB 1), (), rfl, by rw [← h'], by rw [← hWQ, ht]; exact hP, va_K.moved hW.alike hK⟩, hS.F ht⟩) hS.2.2 dX7_count_123
              · have h := g_f h c4
                rcases Decidable.em (a1 = (5 : Int32)) with c5 | c5
                · have h := g_t h c5
                  refine lv_tableIn (off := 99) (tgt := 124) hx hb dX7_count_25 (by rw [c5]; decide) (by rw [c5]; decide) (by rw [c5]; rfl) (by decide) ?_
                  refine lv_aload_n hx hb dX7_count_124 rfl (lv_at hl 0 rfl) ?_
                  refine va_get (D := (dC, dI)) (ci := 7) (v := .ref (ad 4)) (C := RX7) (T := TX7) (N := 9) hx hb hts ki7 hown hK hP 0 rfl rfl 3 (by decide) kf16 (fun _ h9 => h9) rfl dX7_count_125 ?_
                  refine va_get (D := (dC, dI)) (ci := 0) (v := .ref (ad 11)) (C := RX0) (T := TX0) (N := 15) hx hb hts ki0 hown hK hP 4 rfl rfl 0 (by decide) kf101 (fun _ h9 => h9) rfl dX7_count_128 ?_
                  refine va_get (D := (dC, dI)) (ci := 1) (v := .int (iC 9)) (C := RX1) (T := TX1) (N := 10) hx hb hts ki1 hown hK hP 11 rfl rfl 9 (by decide) kf105 (fun _ h9 => h9) rfl dX7_count_131 ?_
                  have h' := Option.some.inj h
                  rw [← hQQ]
                  exact W.iret (v := (iC 9)) hx hb hr (fun t ht hW => ⟨⟨(iC 9), (), rfl, by rw [← h'], by rw [← hWQ, ht]; exact hP, va_K.moved hW.alike hK⟩, hS.F ht⟩) hS.2.2 dX7_count_134
                · have h := g_f h c5
                  rcases Decidable.em (a1 = (6 : Int32)) with c6 | c6
                  · have h := g_t h c6
                    refine lv_tableIn (off := 110) (tgt := 135) hx hb dX7_count_25 (by rw [c6]; decide) (by rw [c6]; decide) (by rw [c6]; rfl) (by decide) ?_
                    refine lv_aload_n hx hb dX7_count_135 rfl (lv_at hl 0 rfl) ?_
                    refine va_get (D := (dC, dI)) (ci := 7) (v := .ref (ad 36)) (C := RX7) (T := TX7) (N := 9) hx hb hts ki7 hown hK hP 0 rfl rfl 6 (by decide) kf37 (fun _ h9 => h9) rfl dX7_count_136 ?_
                    refine lv_aload_n hx hb dX7_count_139 rfl (lv_at hl 0 rfl) ?_
                    refine va_get (D := (dC, dI)) (ci := 7) (v := .ref (ad 36)) (C := RX7) (T := TX7) (N := 9) hx hb hts ki7 hown hK hP 0 rfl rfl 6 (by decide) kf37 (fun _ h9 => h9) rfl dX7_count_140 ?_
                    refine va_get (D := (dC, dI)) (ci := 2) (v := .ref (ad 41)) (C := RX2) (T := TX2) (N := 15) hx hb hts ki2 hown hK hP 36 rfl rfl 8 (by decide) kf110 (fun _ h9 => h9) rfl dX7_count_143 ?_
                    obtain ⟨q146, e146, h⟩ := g_b h
                    refine callVi (cc := cX7_count) (ws' := zzX ad cy rb rc (ad 4) (ad 11) pb (ad 4) (ad 20) iX iR iT wT tx iB lB aB iC aC iD lD aD iE aE iK lK aK iW aW iP aP) (As := [.ref (ad 41)]) (rest := []) ⟨hx, hb, hml, hown, hts⟩ (c_K_sizeOf l dC dI cy (fun i => ad (i + 41)) H.size (ad 36) N 8 (lK 8) q146 e146) (cwV 1 hts (goodV m_ml_X7_114 m_im_X2_sizeOf m_se_X2_sizeOf m_in_X2 m_cd_X2_sizeOf) rfl rfl rfl (by decide +kernel) ⟨Nat.le_of_ble_eq_true rfl, Nat.le_of_ble_eq_true rfl⟩) hN hK hP hD hS hA [41] [none, none, none, none, none, none, none, none, none, none, none, none, none, none, none, none, none, none, none, none, none, none, none, none, none, none, none, none, none, none, none, none, none, none, none, none, none, none, none, none, none, some 0, none, none, none, none, none, none, none, none, none, none, none, none] rfl rfl rfl rfl rfl rfl 36 rfl rfl rfl hl.1 rfl (Nat.le_of_ble_eq_true rfl) dX7_count_146 ⟨Nat.zero_le _, Nat.zero_le _⟩ (fun H locs hP hD hS => ?_)
                    have h' := Option.some.inj h
                    rw [← hQQ]
                    exact W.iret (v := q146) hx hb hr (fun t ht hW => ⟨⟨q146, (), rfl, by rw [← h'], by rw [← hWQ, ht]; exact hP, va_K.moved hW.alike hK⟩, hS.F ht⟩) hS.2.2 dX7_count_149
                  · have h := g_f h c6
                    rcases Decidable.em (a1 = (7 : Int32)) with c7 | c7
                    · have h := g_t h c7
                      refine lv_tableIn (off := 125) (tgt := 150) hx hb dX7_count_25 (by rw [c7]; decide) (by rw [c7]; decide) (by rw [c7]; rfl) (by decide) ?_
                      refine lv_aload_n hx hb dX7_count_150 rfl (lv_at hl 0 rfl) ?_
                      refine va_get (D := (dC, dI)) (ci := 7) (v := .ref (ad 36)) (C := RX7) (T := TX7) (N := 9) hx hb hts ki7 hown hK hP 0 rfl rfl 6 (by decide) kf37 (fun _ h9 => h9) rfl dX7_count_151 ?_
                      refine lv_aload_n hx hb dX7_count_154 rfl (lv_at hl 0 rfl) ?_
                      refine va_get (D := (dC, dI)) (ci := 7) (v := .ref (ad 36)) (C := RX7) (T := TX7) (N := 9) hx hb hts ki7 hown hK hP 0 rfl rfl 6 (by decide) kf37 (fun _ h9 => h9) rfl dX7_count_155 ?_
                      refine va_get (D := (dC, dI)) (ci := 2) (v := .ref (ad 42)) (C := RX2) (T := TX2) (N := 15) hx hb hts ki2 hown hK hP 36 rfl rfl 9 (by decide) kf118 (fun _ h9 => h9) rfl dX7_count_158 ?_
                      obtain ⟨q161, e161, h⟩ := g_b h
                      refine callVi (cc := cX7_count) (ws' := zzX ad cy rb rc (ad 4) (ad 11) pb (ad 4) (ad 20) iX iR iT wT tx iB lB aB iC aC iD lD aD iE aE iK lK aK iW aW iP aP) (As := [.ref (ad 42)]) (rest := []) ⟨hx, hb, hml, hown, hts⟩ (c_K_sizeOf l dC dI cy (fun i => ad (i + 42)) H.size (ad 36) N 8 (lK 9) q161 e161) (cwV 1 hts (goodV m_ml_X7_114 m_im_X2_sizeOf m_se_X2_sizeOf m_in_X2 m_cd_X2_sizeOf) rfl rfl rfl (by decide +kernel) ⟨Nat.le_of_ble_eq_true rfl, Nat.le_of_ble_eq_true rfl⟩) hN hK hP hD hS hA [42] [none, none, none, none, none, none, none, none, none, none, none, none, none, none, none, none, none, none, none, none, none, none, none, none, none, none, none, none, none, none, none, none, none, none, none, none, none, none, none, none, none, none, some 0, none, none, none, none, none, none, none, none, none, none, none] rfl rfl rfl rfl rfl rfl 36 rfl rfl rfl hl.1 rfl (Nat.le_of_ble_eq_true rfl) dX7_count_161 ⟨Nat.zero_le _, Nat.zero_le _⟩ (fun H locs hP hD hS => ?_)
                      have h' := Option.some.inj h
                      rw [← hQQ]
                      exact W.iret (v := q161) hx hb hr (fun t ht hW => ⟨⟨q161, (), rfl, by rw [← h'], by rw [← hWQ, ht]; exact hP, va_K.moved hW.alike hK⟩, hS.F ht⟩) hS.2.2 dX7_count_164
                    · have h := g_f h c7
                      rcases Decidable.em (a1 = (8 : Int32)) with c8 | c8
                      · have h := g_t h c8
                        refine lv_tableIn (off := 140) (tgt := 165) hx hb dX7_count_25 (by rw [c8]; decide) (by rw [c8]; decide) (by rw [c8]; rfl) (by decide) ?_
                        refine lv_aload_n hx hb dX7_count_165 rfl (lv_at hl 0 rfl) ?_
                        refine va_get (D := (dC, dI)) (ci := 7) (v := .ref (ad 36)) (C := RX7) (T := TX7) (N := 9) hx hb hts ki7 hown hK hP 0 rfl rfl 6 (by decide) kf37 (fun _ h9 => h9) rfl dX7_count_166 ?_
                        refine va_get (D := (dC, dI)) (ci := 2) (v := .int (iK 14)) (C := RX2) (T := TX2) (N := 15) hx hb hts ki2 hown hK hP 36 rfl rfl 14 (by decide) kf121 (fun _ h9 => h9) rfl dX7_count_169 ?_
                        have h' := Option.some.inj h
                        rw [← hQQ]
                        exact W.iret (v := (iK 14)) hx hb hr (fun t ht hW => ⟨⟨(iK 14), (), rfl, by rw [← h'], by rw [← hWQ, ht]; exact hP, va_K.moved hW.alike hK⟩, hS.F ht⟩) hS.2.2 dX7_count_172
                      · have h := g_f h c8
                        rcases Decidable.em (a1 = (9 : Int32)) with c9 | c9
                        · have h := g_t h c9
                          refine lv_tableIn (off := 148) (tgt := 173) hx hb dX7_count_25 (by rw [c9]; decide) (by rw [c9]; decide) (by rw [c9]; rfl) (by decide) ?_
                          refine lv_aload_n hx hb dX7_count_173 rfl (lv_at hl 0 rfl) ?_
                          refine va_get (D := (dC, dI)) (ci := 7) (v := .ref (ad 47)) (C := RX7) (T := TX7) (N := 9) hx hb hts ki7 hown hK hP 0 rfl rfl 7 (by decide) kf44 (fun _ h9 => h9) rfl dX7_count_174 ?_
                          refine va_get (D := (dC, dI)) (ci := 6) (v := .int (iW 1)) (C := RX6) (T := TX6) (N := 5) hx hb hts ki6 hown hK hP 47 rfl rfl 1 (by decide) kf124 (fun _ h9 => h9) rfl dX7_count_177 ?_
                          have h' := Option.some.inj h
                          rw [← hQQ]
                          exact W.iret (v := (iW 1)) hx hb hr (fun t ht hW => ⟨⟨(iW 1), (), rfl, by rw [← h'], by rw [← hWQ, ht]; exact hP, va_K.moved hW.alike hK⟩, hS.F ht⟩) hS.2.2 dX7_count_180
                        · have h := g_f h c9
                          rcases Decidable.em (a1 = (10 : Int32)) with c10 | c10
                          · have h := g_t h c10
                            refine lv_tableIn (off := 156) (tgt := 181) hx hb dX7_count_25 (by rw [c10]; decide) (by rw [c10]; decide) (by rw [c10]; rfl) (by decide) ?_
                            refine lv_aload_n hx hb dX7_count_181 rfl (lv_at hl 0 rfl) ?_
                            refine va_get (D := (dC, dI)) (ci := 7) (v := .ref (ad 47)) (C := RX7) (T := TX7) (N := 9) hx hb hts ki7 hown hK hP 0 rfl rfl 7 (by decide) kf44 (fun _ h9 => h9) rfl dX7_count_182 ?_
                            refine va_get (D := (dC, dI)) (ci := 6) (v := .int (iW 4)) (C := RX6) (T := TX6) (N := 5) hx hb hts ki6 hown hK hP 47 rfl rfl 4 (by decide) kf127 (fun _ h9 => h9) rfl dX7_count_185 ?_
                            have h' := Option.some.inj h
                            rw [← hQQ]
                            exact W.iret (v := (iW 4)) hx hb hr (fun t ht hW => ⟨⟨(iW 4), (), rfl, by rw [← h'], by rw [← hWQ, ht]; exact hP, va_K.moved hW.alike hK⟩, hS.F ht⟩) hS.2.2 dX7_count_188
                          · have h := g_f h c10
                            refine lv_tableOut (tgt := 189) hx hb dX7_count_25 (by have z0 := tne (n := 0) (by decide) c0; have z1 := tne (n := 1) (by decide) c1; have z2 := tne (n := 2) (by decide) c2; have z3 := tne (n := 3) (by decide) c3; have z4 := tne (n := 4) (by decide) c4; have z5 := tne (n := 5) (by decide) c5; have z6 := tne (n := 6) (by decide) c6; have z7 := tne (n := 7) (by decide) c7; have z8 := tne (n := 8) (by decide) c8; have z9 := tne (n := 9) (by decide) c9; have z10 := tne (n := 10) (by decide) c10; omega) (by decide) ?_
                            refine lv_bipush (v := (-103)) hx hb dX7_count_189 (by decide) ?_
                            have h' := Option.some.inj h
                            rw [← hQQ]
                            exact W.iret (v := (-103 : Int32)) hx hb hr (fun t ht hW => ⟨⟨(-103 : Int32), (), rfl, by rw [← h'], by rw [← hWQ, ht]; exact hP, va_K.moved hW.alike hK⟩, hS.F ht⟩) hS.2.2 dX7_count_191
    · have h := g_t h cz
      refine lv_bipush (v := (-101)) hx hb dX7_count_21 (by decide) ?_
      have h' := Option.some.inj h
      rw [← hQQ]
      exact W.iret (v := (-101 : Int32)) hx hb hr (fun t ht hW => ⟨⟨(-101 : Int32), (), rfl, by rw [← h'], by rw [← hWQ, ht]; exact hP, va_K.moved hW.alike hK⟩, hS.F ht⟩) hS.2.2 dX7_count_23
  · have h := g_t h cz
    refine lv_aload_n hx hb dX7_count_6 rfl (lv_at hl 0 rfl) ?_
    refine va_get (D := (dC, dI)) (ci := 7) (v := .ref (ad 51)) (C := RX7) (T := TX7) (N := 9) hx hb hts ki7 hown hK hP 0 rfl rfl 8 (by decide) kf51 (fun _ h9 => h9) rfl dX7_count_7 ?_
    refine va_get (D := (dC, dI)) (ci := 3) (v := .int (iP 1)) (C := RX3) (T := TX3) (N := 5) hx hb hts ki3 hown hK hP 51 rfl rfl 1 (by decide) kf86 (fun _ h9 => h9) rfl dX7_count_10 ?_
    have h' := Option.some.inj h
    rw [← hQQ]
    exact W.iret (v := (iP 1)) hx hb hr (fun t ht hW => ⟨⟨(iP 1), (), rfl, by rw [← h'], by rw [← hWQ, ht]; exact hP, va_K.moved hW.alike hK⟩, hS.F ht⟩) hS.2.2 dX7_count_13
set_option maxHeartbeats 8000000 in
set_option maxRecDepth 100000 in
theorem c_C_nameOfAtom (l : Launch) (dC : Nat → ClassId) (dI : Nat → Nat → Nat) (cy : Nat → ClassId) (ad : Nat → Nat) (sz : Nat) (a1 : Int32) (iC : Nat → Int32) (aC : Nat → Nat → Int32) (q : Int32) (h : f_C_nameOfAtom a1 (iC 9) (aC 6) = some q) : Met l yX1_nameOfAtom wsX1_nameOfAtom ({ frames := 0, cells := 0, slots := 0, locals := 0 } : Room) (cP (dC, dI) cy [.ref (ad 0), .int a1] (zzC ad cy iC aC) sz) (cQi (dC, dI) cy q (zzC ad cy iC aC) (va_A (zzC ad cy iC aC) sz)) 0 0 (va_A (zzC ad cy iC aC) sz) := by
  refine Met.ofW (cc := cX1_nameOfAtom) (maxL := 2) (ret := (some .int)) (by decide) rfl ?_
  intro p e s m args below meth c s₁ B hml hv
  obtain ⟨hav, hsz, hP, hK, hD0, hN⟩ := hv
  have hx := B.exec
  have hb := B.bytes
  have hr := B.returns
  have hts := atoms_spec (ws := wsX1_nameOfAtom) B.pre
  have hown : s.vm.findClass RX1 = some m.cls := findClass_of_methodNamed B.named
  have hlocks := B.notSynchronized
  subst hsz
  have hD := hD0.self (sz := s.heap.size)
  generalize hAe : va_A (zzC ad cy iC aC) s.heap.size = A at hD ⊢
  have hA : ∀ q : Nat, s.heap.size ≤ q → A q := fun q h => by rw [← hAe]; exact Or.inr h
  have hS : va_S A s.heap s.heap [] := va_S.rf
  generalize hWQ : (zzC ad cy iC aC) = WQ
  generalize hQQ : MQ below (cQi (dC, dI) cy q WQ A) args s 0 0 A = QQ
  have hl := lv_entry ([.ref (ad 0), .int a1] : List Value) (n := 2) (Nat.le_of_ble_eq_true rfl)
  have hfr := lg_entry_eq m ([.ref (ad 0), .int a1] : List Value) 2
  rw [← hav] at hfr
  rw [hfr]
  clear hfr hav
  generalize (lg_sl ([.ref (ad 0), .int a1] : List Value) ++ List.replicate (2 - (lg_sl ([.ref (ad 0), .int a1] : List Value)).length) Slot.unset).toArray = ls at hl ⊢
  have hl : lv_has ls 2 [(0, .ref (ad 0)), (1, .int a1)] := hl
  have kf40 := hts _ (List.mem_cons_of_mem _ m_fl_X1_40)
  have ki1 := (fun w h => List.mem_cons_of_mem _ (i_X1 w h) : ∀ w ∈ u_ws RX1 TX1 10, w ∈ wsX1_nameOfAtom)
  have kf27 := hts _ (List.mem_cons_of_mem _ m_fl_X1_27)
  refine (?_ : ∀ (H : Heap) (locs : List Loc), va_P (dC, dI) vwCl (zzC ad cy iC aC) H → va_D A (zzC ad cy iC aC) → va_S A s.heap H locs → W p l e ({ frames := 0, cells := 0, slots := 0, locals := 0 } : Room) s m args below meth c H locs 0 0 QQ (F0 m 0 ls [])) s.heap [] hP hD hS
  clear hP hD hS
  intro H locs hP hD hS
  unfold f_C_nameOfAtom at h
  refine lv_iload_n hx hb dX1_nameOfAtom_0 rfl (lv_at hl 1 rfl) ?_
  refine lv_if_lt (tgt := 21) hx hb dX1_nameOfAtom_1 (by decide) (fun cz => ?_) (fun cz => ?_)
  · have h := g_t h cz
    refine lv_iconst (v := (-1)) hx hb dX1_nameOfAtom_21 (by decide) ?_
    have h' := Option.some.inj h
    rw [← hQQ]
    exact W.iret (v := (-1 : Int32)) hx hb hr (fun t ht hW => ⟨⟨(-1 : Int32), (), rfl, by rw [← h'], by rw [← hWQ, ht]; exact hP, va_K.moved hW.alike hK⟩, hS.F ht⟩) hS.2.2 dX1_nameOfAtom_22
  · have h := g_f h cz
    refine lv_iload_n hx hb dX1_nameOfAtom_4 rfl (lv_at hl 1 rfl) ?_
    refine lv_aload_n hx hb dX1_nameOfAtom_5 rfl (lv_at hl 0 rfl) ?_
    refine va_get (D := (dC, dI)) (ci := 1) (v := .int (iC 9)) (C := RX1) (T := TX1) (N := 10) hx hb hts ki1 hown hK hP 0 rfl rfl 9 (by decide) kf40 (fun _ h9 => h9) rfl dX1_nameOfAtom_6 ?_
    refine lv_icmp_ge (tgt := 21) hx hb dX1_nameOfAtom_9 (by decide) (fun cz => ?_) (fun cz => ?_)
    · have h := g_t h cz
      refine lv_iconst (v := (-1)) hx hb dX1_nameOfAtom_21 (by decide) ?_
      have h' := Option.some.inj h
      rw [← hQQ]
      exact W.iret (v := (-1 : Int32)) hx hb hr (fun t ht hW => ⟨⟨(-1 : Int32), (), rfl, by rw [← h'], by rw [← hWQ, ht]; exact hP, va_K.moved hW.alike hK⟩, hS.F ht⟩) hS.2.2 dX1_nameOfAtom_22
    · have h := g_f h cz
      refine lv_aload_n hx hb dX1_nameOfAtom_12 rfl (lv_at hl 0 rfl) ?_
      refine va_get (D := (dC, dI)) (ci := 1) (v := .ref (ad 6)) (C := RX1) (T := TX1) (N := 10) hx hb hts ki1 hown hK hP 0 rfl rfl 6 (by decide) kf27 (fun _ h9 => h9) rfl dX1_nameOfAtom_13 ?_
      refine lv_iload_n hx hb dX1_nameOfAtom_16 rfl (lv_at hl 1 rfl) ?_
      obtain ⟨g_19, h⟩ := g_n h
      refine va_iald (f := (aC 6)) hx hb hK hP 6 0 rfl rfl g_19 dX1_nameOfAtom_17 ?_
      refine lv_goto (tgt := 22) hx hb dX1_nameOfAtom_18 (by decide) ?_
      have h' := Option.some.inj h
      rw [← hQQ]
      exact W.iret (v := ((aC 6) a1.toNatClampNeg)) hx hb hr (fun t ht hW => ⟨⟨((aC 6) a1.toNatClampNeg), (), rfl, by rw [← h'], by rw [← hWQ, ht]; exact hP, va_K.moved hW.alike hK⟩, hS.F ht⟩) hS.2.2 dX1_nameOfAtom_22
set_option maxHeartbeats 8000000 in
set_option maxRecDepth 100000 in
theorem c_X_atom (l : Launch) (dC : Nat → ClassId) (dI : Nat → Nat → Nat) (cy : Nat → ClassId) (ad : Nat → Nat) (sz : Nat) (rb : Nat) (rc : Nat) (pb : Nat) (a1 : Int32) (a2 : Int32) (iX : Nat → Int32) (iR : Nat → Int32) (iT : Nat → Int32) (wT : Int64) (tx : Nat → Int32) (iB : Nat → Int32) (lB : Nat → Nat → Int64) (aB : Nat → Nat → Int32) (iC : Nat → Int32) (aC : Nat → Nat → Int32) (iD : Nat → Int32) (lD : Nat → Nat → Int64) (aD : Nat → Nat → Int32) (iE : Nat → Int32) (aE : Nat → Nat → Int32) (iK : Nat → Int32) (lK : Nat → Nat → Int64) (aK : Nat → Nat → Int32) (iW : Nat → Int32) (aW : Nat → Nat → Int32) (iP : Nat → Int32) (aP : Nat → Nat → Int32) (q : Int32) (h : f_X_atom a1 a2 (iX 5) (iC 9) (aC 5) (aC 6) = some q) : Met l yX7_atom wsX7_atom ({ frames := 1, cells := 0, slots := 0, locals := 21 } : Room) (cP (dC, dI) cy [.ref (ad 0), .int a1, .int a2] (zzX ad cy rb rc (ad 4) (ad 11) pb (ad 4) (ad 20) iX iR iT wT tx iB lB aB iC aC iD lD aD iE aE iK lK aK iW aW iP aP) sz) (cQi (dC, dI) cy q (zzX ad cy rb rc (ad 4) (ad 11) pb (ad 4) (ad 20) iX iR iT wT tx iB lB aB iC aC iD lD aD iE aE iK lK aK iW aW iP aP) (va_A (zzX ad cy rb rc (ad 4) (ad 11) pb (ad 4) (ad 20) iX iR iT wT tx iB lB aB iC aC iD lD aD iE aE iK lK aK iW aW iP aP) sz)) 0 0 (va_A (zzX ad cy rb rc (ad 4) (ad 11) pb (ad 4) (ad 20) iX iR iT wT tx iB lB aB iC aC iD lD aD iE aE iK lK aK iW aW iP aP) sz) := by
  refine Met.ofW (cc := cX7_atom) (maxL := 3) (ret := (some .int)) (by decide) rfl ?_
  intro p e s m args below meth c s₁ B hml hv
  obtain ⟨hav, hsz, hP, hK, hD0, hN⟩ := hv
  have hx := B.exec
  have hb := B.bytes
  have hr := B.returns
  have hts := atoms_spec (ws := wsX7_atom) B.pre
  have hown : s.vm.findClass RX7 = some m.cls := findClass_of_methodNamed B.named
  have hlocks := B.notSynchronized
  subst hsz
  have hD := hD0.self (sz := s.heap.size)
  generalize hAe : va_A (zzX ad cy rb rc (ad 4) (ad 11) pb (ad 4) (ad 20) iX iR iT wT tx iB lB aB iC aC iD lD aD iE aE iK lK aK iW aW iP aP) s.heap.size = A at hD ⊢
  have hA : ∀ q : Nat, s.heap.size ≤ q → A q := fun q h => by rw [← hAe]; exact Or.inr h
  have hS : va_S A s.heap s.heap [] := va_S.rf
  generalize hWQ : (zzX ad cy rb rc (ad 4) (ad 11) pb (ad 4) (ad 20) iX iR iT wT tx iB lB aB iC aC iD lD aD iE aE iK lK aK iW aW iP aP) = WQ
  generalize hQQ : MQ below (cQi (dC, dI) cy q WQ A) args s 0 0 A = QQ
  have hl := lv_entry ([.ref (ad 0), .int a1, .int a2] : List Value) (n := 3) (Nat.le_of_ble_eq_true rfl)
  have hfr := lg_entry_eq m ([.ref (ad 0), .int a1, .int a2] : List Value) 3
  rw [← hav] at hfr
  rw [hfr]
  clear hfr hav
  generalize (lg_sl ([.ref (ad 0), .int a1, .int a2] : List Value) ++ List.replicate (3 - (lg_sl ([.ref (ad 0), .int a1, .int a2] : List Value)).length) Slot.unset).toArray = ls at hl ⊢
  have hl : lv_has ls 3 [(0, .ref (ad 0)), (1, .int a1), (2, .int a2)] := hl
  have kf70 := hts _ (List.mem_cons_of_mem _ m_fl_X7_70)
  have ki7 := (fun w h => List.mem_cons_of_mem _ (i_X7 w h) : ∀ w ∈ u_ws RX7 TX7 9, w ∈ wsX7_atom)
  have kf16 := hts _ (List.mem_cons_of_mem _ m_fl_X7_16)
  have kf101 := hts _ (List.mem_cons_of_mem _ m_fl_X7_101)
  have ki0 := (fun w h => List.mem_cons_of_mem _ (i_X0 w h) : ∀ w ∈ u_ws RX0 TX0 15, w ∈ wsX7_atom)
  have kf105 := hts _ (List.mem_cons_of_mem _ m_fl_X7_105)
  have ki1 := (fun w h => List.mem_cons_of_mem _ (i_X1 w h) : ∀ w ∈ u_ws RX1 TX1 10, w ∈ wsX7_atom)
  refine (?_ : ∀ (H : Heap) (locs : List Loc), va_P (dC, dI) vwCl (zzX ad cy rb rc (ad 4) (ad 11) pb (ad 4) (ad 20) iX iR iT wT tx iB lB aB iC aC iD lD aD iE aE iK lK aK iW aW iP aP) H → va_D A (zzX ad cy rb rc (ad 4) (ad 11) pb (ad 4) (ad 20) iX iR iT wT tx iB lB aB iC aC iD lD aD iE aE iK lK aK iW aW iP aP) → va_S A s.heap H locs → W p l e ({ frames := 1, cells := 0, slots := 0, locals := 21 } : Room) s m args below meth c H locs 0 0 QQ (F0 m 0 ls [])) s.heap [] hP hD hS
  clear hP hD hS
  intro H locs hP hD hS
  unfold f_X_atom at h
  refine lv_aload_n hx hb dX7_atom_0 rfl (lv_at hl 0 rfl) ?_
  refine va_get (D := (dC, dI)) (ci := 7) (v := .int (iX 5)) (C := RX7) (T := TX7) (N := 9) hx hb hts ki7 hown hK hP 0 rfl rfl 5 (by decide) kf70 (fun _ h9 => h9) rfl dX7_atom_1 ?_
  refine lv_if_ne (tgt := 10) hx hb dX7_atom_4 (by decide) (fun cz => ?_) (fun cz => ?_)
  · have h := g_f h cz
    refine lv_iload_n hx hb dX7_atom_10 rfl (lv_at hl 1 rfl) ?_
    refine lv_if_lt (tgt := 28) hx hb dX7_atom_11 (by decide) (fun cz => ?_) (fun cz => ?_)
    · have h := g_t h cz
      refine lv_bipush (v := (-102)) hx hb dX7_atom_28 (by decide) ?_
      have h' := Option.some.inj h
      rw [← hQQ]
      exact W.iret (v := (-102 : Int32)) hx hb hr (fun t ht hW => ⟨⟨(-102 : Int32), (), rfl, by rw [← h'], by rw [← hWQ, ht]; exact hP, va_K.moved hW.alike hK⟩, hS.F ht⟩) hS.2.2 dX7_atom_30
    · have h := g_f h cz
      refine lv_iload_n hx hb dX7_atom_14 rfl (lv_at hl 1 rfl) ?_
      refine lv_aload_n hx hb dX7_atom_15 rfl (lv_at hl 0 rfl) ?_
      refine va_get (D := (dC, dI)) (ci := 7) (v := .ref (ad 4)) (C := RX7) (T := TX7) (N := 9) hx hb hts ki7 hown hK hP 0 rfl rfl 3 (by decide) kf16 (fun _ h9 => h9) rfl dX7_atom_16 ?_
      refine va_get (D := (dC, dI)) (ci := 0) (v := .ref (ad 11)) (C := RX0) (T := TX0) (N := 15) hx hb hts ki0 hown hK hP 4 rfl rfl 0 (by decide) kf101 (fun _ h9 => h9) rfl dX7_atom_19 ?_
      refine va_get (D := (dC, dI)) (ci := 1) (v := .int (iC 9)) (C := RX1) (T := TX1) (N := 10) hx hb hts ki1 hown hK hP 11 rfl rfl 9 (by decide) kf105 (fun _ h9 => h9) rfl dX7_atom_22 ?_
      refine lv_icmp_lt (tgt := 31) hx hb dX7_atom_25 (by decide) (fun cz => ?_) (fun cz => ?_)
      · have h := g_t h cz
        refine lv_iload_n hx hb dX7_atom_31 rfl (lv_at hl 2 rfl) ?_
        rcases Decidable.em (a2 = (0 : Int32)) with c0 | c0
        · have h := g_t h c0
          refine lv_lookup (off := 28) (tgt := 60) hx hb dX7_atom_32 (by decide) (by rw [c0]; rfl) (by decide) ?_
          refine lv_aload_n hx hb dX7_atom_60 rfl (lv_at hl 0 rfl) ?_
          refine va_get (D := (dC, dI)) (ci := 7) (v := .ref (ad 4)) (C := RX7) (T := TX7) (N := 9) hx hb hts ki7 hown hK hP 0 rfl rfl 3 (by decide) kf16 (fun _ h9 => h9) rfl dX7_atom_61 ?_
          refine va_get (D := (dC, dI)) (ci := 0) (v := .ref (ad 11)) (C := RX0) (T := TX0) (N := 15) hx hb hts ki0 hown hK hP 4 rfl rfl 0 (by decide) kf101 (fun _ h9 => h9) rfl dX7_atom_64 ?_
          refine lv_iload_n hx hb dX7_atom_67 rfl (lv_at hl 1 rfl) ?_
          obtain ⟨q68, e68, h⟩ := g_b h
          refine callVi (cc := cX7_atom) (ws' := zzX ad cy rb rc (ad 4) (ad 11) pb (ad 4) (ad 20) iX iR iT wT tx iB lB aB iC aC iD lD aD iE aE iK lK aK iW aW iP aP) (As := [.int a1]) (rest := []) ⟨hx, hb, hml, hown, hts⟩ (c_C_roleOfAtom l dC dI cy (fun i => ad (i + 11)) H.size a1 iC aC q68 e68) (cwV 1 hts (goodV m_ml_X7_130 m_im_X1_roleOfAtom m_se_X1_roleOfAtom m_in_X1 m_cd_X1_roleOfAtom) rfl rfl rfl (by decide +kernel) ⟨Nat.le_of_ble_eq_true rfl, Nat.le_of_ble_eq_true rfl⟩) hN hK hP hD hS hA [11, 12, 13, 14, 15, 16, 17, 18, 19] [none, none, none, none, none, none, none, none, none, none, none, some 0, some 1, some 2, some 3, some 4, some 5, some 6, some 7, some 8, none, none, none, none, none, none, none, none, none, none, none, none, none, none, none, none, none, none, none, none, none, none, none, none, none, none, none, none, none, none, none, none, none, none] rfl rfl rfl rfl rfl rfl 11 rfl rfl rfl hl.1 rfl (Nat.le_of_ble_eq_true rfl) dX7_atom_68 ⟨Nat.zero_le _, Nat.zero_le _⟩ (fun H locs hP hD hS => ?_)
          have h' := Option.some.inj h
          rw [← hQQ]
          exact W.iret (v := q68) hx hb hr (fun t ht hW => ⟨⟨q68, (), rfl, by rw [← h'], by rw [← hWQ, ht]; exact hP, va_K.moved hW.alike hK⟩, hS.F ht⟩) hS.2.2 dX7_atom_71
        · have h := g_f h c0
          rcases Decidable.em (a2 = (1 : Int32)) with c1 | c1
          · have h := g_t h c1
            refine lv_lookup (off := 40) (tgt := 72) hx hb dX7_atom_32 (by decide) (by rw [c1]; rfl) (by decide) ?_
            refine lv_aload_n hx hb dX7_atom_72 rfl (lv_at hl 0 rfl) ?_
            refine va_get (D := (dC, dI)) (ci := 7) (v := .ref (ad 4)) (C := RX7) (T := TX7) (N := 9) hx hb hts ki7 hown hK hP 0 rfl rfl 3 (by decide) kf16 (fun _ h9 => h9) rfl dX7_atom_73 ?_
            refine va_get (D := (dC, dI)) (ci := 0) (v := .ref (ad 11)) (C := RX0) (T := TX0) (N := 15) hx hb hts ki0 hown hK hP 4 rfl rfl 0 (by decide) kf101 (fun _ h9 => h9) rfl dX7_atom_76 ?_
            refine lv_iload_n hx hb dX7_atom_79 rfl (lv_at hl 1 rfl) ?_
            obtain ⟨q80, e80, h⟩ := g_b h
            refine callVi (cc := cX7_atom) (ws' := zzX ad cy rb rc (ad 4) (ad 11) pb (ad 4) (ad 20) iX iR iT wT tx iB lB aB iC aC iD lD aD iE aE iK lK aK iW aW iP aP) (As := [.int a1]) (rest := []) ⟨hx, hb, hml, hown, hts⟩ (c_C_nameOfAtom l dC dI cy (fun i => ad (i + 11)) H.size a1 iC aC q80 e80) (cwV 1 hts (goodV m_ml_X7_134 m_im_X1_nameOfAtom m_se_X1_nameOfAtom m_in_X1 m_cd_X1_nameOfAtom) rfl rfl rfl (by decide +kernel) ⟨Nat.le_of_ble_eq_true rfl, Nat.le_of_ble_eq_true rfl⟩) hN hK hP hD hS hA [11, 12, 13, 14, 15, 16, 17, 18, 19] [none, none, none, none, none, none, none, none, none, none, none, some 0, some 1, some 2, some 3, some 4, some 5, some 6, some 7, some 8, none, none, none, none, none, none, none, none, none, none, none, none, none, none, none, none, none, none, none, none, none, none, none, none, none, none, none, none, none, none, none, none, none, none] rfl rfl rfl rfl rfl rfl 11 rfl rfl rfl hl.1 rfl (Nat.le_of_ble_eq_true rfl) dX7_atom_80 ⟨Nat.zero_le _, Nat.zero_le _⟩ (fun H locs hP hD hS => ?_)
            have h' := Option.some.inj h
            rw [← hQQ]
            exact W.iret (v := q80) hx hb hr (fun t ht hW => ⟨⟨q80, (), rfl, by rw [← h'], by rw [← hWQ, ht]; exact hP, va_K.moved hW.alike hK⟩, hS.F ht⟩) hS.2.2 dX7_atom_83
          · have h := g_f h c1
            refine lv_lookup (off := 52) (tgt := 84) hx hb dX7_atom_32 (by decide) (by have z0 := tne (n := 0) (by decide) c0; have z1 := tne (n := 1) (by decide) c1; simp [Op.lookupswitch.offset, Ne.symm z0, Ne.symm z1]) (by decide) ?_
            refine lv_bipush (v := (-103)) hx hb dX7_atom_84 (by decide) ?_
            have h' := Option.some.inj h
            rw [← hQQ]
            exact W.iret (v := (-103 : Int32)) hx hb hr (fun t ht hW => ⟨⟨(-103 : Int32), (), rfl, by rw [← h'], by rw [← hWQ, ht]; exact hP, va_K.moved hW.alike hK⟩, hS.F ht⟩) hS.2.2 dX7_atom_86
      · have h := g_f h cz
        refine lv_bipush (v := (-102)) hx hb dX7_atom_28 (by decide) ?_
        have h' := Option.some.inj h
        rw [← hQQ]
        exact W.iret (v := (-102 : Int32)) hx hb hr (fun t ht hW => ⟨⟨(-102 : Int32), (), rfl, by rw [← h'], by rw [← hWQ, ht]; exact hP, va_K.moved hW.alike hK⟩, hS.F ht⟩) hS.2.2 dX7_atom_30
  · have h := g_t h cz
    refine lv_bipush (v := (-101)) hx hb dX7_atom_7 (by decide) ?_
    have h' := Option.some.inj h
    rw [← hQQ]
    exact W.iret (v := (-101 : Int32)) hx hb hr (fun t ht hW => ⟨⟨(-101 : Int32), (), rfl, by rw [← h'], by rw [← hWQ, ht]; exact hP, va_K.moved hW.alike hK⟩, hS.F ht⟩) hS.2.2 dX7_atom_9
set_option maxHeartbeats 8000000 in
set_option maxRecDepth 100000 in
theorem c_K_isType (l : Launch) (dC : Nat → ClassId) (dI : Nat → Nat → Nat) (cy : Nat → ClassId) (ad : Nat → Nat) (sz : Nat) (a1 : Int32) (iK : Nat → Int32) (lK : Nat → Nat → Int64) (aK : Nat → Nat → Int32) (iB : Nat → Int32) (lB : Nat → Nat → Int64) (aB : Nat → Nat → Int32) (iC : Nat → Int32) (aC : Nat → Nat → Int32) (q : Int32) (h : f_K_isType a1 (iK 2) = some q) : Met l yX2_isType wsX2_isType ({ frames := 0, cells := 0, slots := 0, locals := 0 } : Room) (cP (dC, dI) cy [.ref (ad 0), .int a1] (zzK ad cy (ad 11) (ad 18) iK lK aK iB lB aB iC aC) sz) (cQi (dC, dI) cy q (zzK ad cy (ad 11) (ad 18) iK lK aK iB lB aB iC aC) (va_A (zzK ad cy (ad 11) (ad 18) iK lK aK iB lB aB iC aC) sz)) 0 0 (va_A (zzK ad cy (ad 11) (ad 18) iK lK aK iB lB aB iC aC) sz) := by
  refine Met.ofW (cc := cX2_isType) (maxL := 2) (ret := (some .boolean)) (by decide) rfl ?_
  intro p e s m args below meth c s₁ B hml hv
  obtain ⟨hav, hsz, hP, hK, hD0, hN⟩ := hv
  have hx := B.exec
  have hb := B.bytes
  have hr := B.returns
  have hts := atoms_spec (ws := wsX2_isType) B.pre
  have hown : s.vm.findClass RX2 = some m.cls := findClass_of_methodNamed B.named
  have hlocks := B.notSynchronized
  subst hsz
  have hD := hD0.self (sz := s.heap.size)
  generalize hAe : va_A (zzK ad cy (ad 11) (ad 18) iK lK aK iB lB aB iC aC) s.heap.size = A at hD ⊢
  have hA : ∀ q : Nat, s.heap.size ≤ q → A q := fun q h => by rw [← hAe]; exact Or.inr h
  have hS : va_S A s.heap s.heap [] := va_S.rf
  generalize hWQ : (zzK ad cy (ad 11) (ad 18) iK lK aK iB lB aB iC aC) = WQ
  generalize hQQ : MQ below (cQi (dC, dI) cy q WQ A) args s 0 0 A = QQ
  have hl := lv_entry ([.ref (ad 0), .int a1] : List Value) (n := 2) (Nat.le_of_ble_eq_true rfl)
  have hfr := lg_entry_eq m ([.ref (ad 0), .int a1] : List Value) 2
  rw [← hav] at hfr
  rw [hfr]
  clear hfr hav
  generalize (lg_sl ([.ref (ad 0), .int a1] : List Value) ++ List.replicate (2 - (lg_sl ([.ref (ad 0), .int a1] : List Value)).length) Slot.unset).toArray = ls at hl ⊢
  have hl : lv_has ls 2 [(0, .ref (ad 0)), (1, .int a1)] := hl
  have kf67 := hts _ (List.mem_cons_of_mem _ m_fl_X2_67)
  have ki2 := (fun w h => List.mem_cons_of_mem _ (i_X2 w h) : ∀ w ∈ u_ws RX2 TX2 15, w ∈ wsX2_isType)
  refine (?_ : ∀ (H : Heap) (locs : List Loc), va_P (dC, dI) vwCl (zzK ad cy (ad 11) (ad 18) iK lK aK iB lB aB iC aC) H → va_D A (zzK ad cy (ad 11) (ad 18) iK lK aK iB lB aB iC aC) → va_S A s.heap H locs → W p l e ({ frames := 0, cells := 0, slots := 0, locals := 0 } : Room) s m args below meth c H locs 0 0 QQ (F0 m 0 ls [])) s.heap [] hP hD hS
  clear hP hD hS
  intro H locs hP hD hS
  unfold f_K_isType at h
  refine lv_iload_n hx hb dX2_isType_0 rfl (lv_at hl 1 rfl) ?_
  refine lv_if_lt (tgt := 16) hx hb dX2_isType_1 (by decide) (fun cz => ?_) (fun cz => ?_)
  · have h := g_t h cz
    refine lv_iconst (v := 0) hx hb dX2_isType_16 (by decide) ?_
    have h' := Option.some.inj h
    rw [← hQQ]
    exact W.zret (v := (0 : Int32)) hx hb hr rfl (fun t ht hW => ⟨⟨(0 : Int32), (), rfl, by rw [← h'], by rw [← hWQ, ht]; exact hP, va_K.moved hW.alike hK⟩, hS.F ht⟩) hS.2.2 dX2_isType_17
  · have h := g_f h cz
    refine lv_iload_n hx hb dX2_isType_4 rfl (lv_at hl 1 rfl) ?_
    refine lv_aload_n hx hb dX2_isType_5 rfl (lv_at hl 0 rfl) ?_
    refine va_get (D := (dC, dI)) (ci := 2) (v := .int (iK 2)) (C := RX2) (T := TX2) (N := 15) hx hb hts ki2 hown hK hP 0 rfl rfl 2 (by decide) kf67 (fun _ h9 => h9) rfl dX2_isType_6 ?_
    refine lv_icmp_ge (tgt := 16) hx hb dX2_isType_9 (by decide) (fun cz => ?_) (fun cz => ?_)
    · have h := g_t h cz
      refine lv_iconst (v := 0) hx hb dX2_isType_16 (by decide) ?_
      have h' := Option.some.inj h
      rw [← hQQ]
      exact W.zret (v := (0 : Int32)) hx hb hr rfl (fun t ht hW => ⟨⟨(0 : Int32), (), rfl, by rw [← h'], by rw [← hWQ, ht]; exact hP, va_K.moved hW.alike hK⟩, hS.F ht⟩) hS.2.2 dX2_isType_17
    · have h := g_f h cz
      refine lv_iconst (v := 1) hx hb dX2_isType_12 (by decide) ?_
      refine lv_goto (tgt := 17) hx hb dX2_isType_13 (by decide) ?_
      have h' := Option.some.inj h
      rw [← hQQ]
      exact W.zret (v := (1 : Int32)) hx hb hr rfl (fun t ht hW => ⟨⟨(1 : Int32), (), rfl, by rw [← h'], by rw [← hWQ, ht]; exact hP, va_K.moved hW.alike hK⟩, hS.F ht⟩) hS.2.2 dX2_isType_17
set_option maxHeartbeats 8000000 in
set_option maxRecDepth 100000 in
theorem c_K_rankOf (l : Launch) (dC : Nat → ClassId) (dI : Nat → Nat → Nat) (cy : Nat → ClassId) (ad : Nat → Nat) (sz : Nat) (a1 : Int32) (iK : Nat → Int32) (lK : Nat → Nat → Int64) (aK : Nat → Nat → Int32) (iB : Nat → Int32) (lB : Nat → Nat → Int64) (aB : Nat → Nat → Int32) (iC : Nat → Int32) (aC : Nat → Nat → Int32) (q : Int32) (h : f_K_rankOf a1 (aK 13) = some q) : Met l yX2_rankOf wsX2_rankOf ({ frames := 0, cells := 0, slots := 0, locals := 0 } : Room) (cP (dC, dI) cy [.ref (ad 0), .int a1] (zzK ad cy (ad 11) (ad 18) iK lK aK iB lB aB iC aC) sz) (cQi (dC, dI) cy q (zzK ad cy (ad 11) (ad 18) iK lK aK iB lB aB iC aC) (va_A (zzK ad cy (ad 11) (ad 18) iK lK aK iB lB aB iC aC) sz)) 0 0 (va_A (zzK ad cy (ad 11) (ad 18) iK lK aK iB lB aB iC aC) sz) := by
  refine Met.ofW (cc := cX2_rankOf) (maxL := 2) (ret := (some .int)) (by decide) rfl ?_
  intro p e s m args below meth c s₁ B hml hv
  obtain ⟨hav, hsz, hP, hK, hD0, hN⟩ := hv
  have hx := B.exec
  have hb := B.bytes
  have hr := B.returns
  have hts := atoms_spec (ws := wsX2_rankOf) B.pre
  have hown : s.vm.findClass RX2 = some m.cls := findClass_of_methodNamed B.named
  have hlocks := B.notSynchronized
  subst hsz
  have hD := hD0.self (sz := s.heap.size)
  generalize hAe : va_A (zzK ad cy (ad 11) (ad 18) iK lK aK iB lB aB iC aC) s.heap.size = A at hD ⊢
  have hA : ∀ q : Nat, s.heap.size ≤ q → A q := fun q h => by rw [← hAe]; exact Or.inr h
  have hS : va_S A s.heap s.heap [] := va_S.rf
  generalize hWQ : (zzK ad cy (ad 11) (ad 18) iK lK aK iB lB aB iC aC) = WQ
  generalize hQQ : MQ below (cQi (dC, dI) cy q WQ A) args s 0 0 A = QQ
  have hl := lv_entry ([.ref (ad 0), .int a1] : List Value) (n := 2) (Nat.le_of_ble_eq_true rfl)
  have hfr := lg_entry_eq m ([.ref (ad 0), .int a1] : List Value) 2
  rw [← hav] at hfr
  rw [hfr]
  clear hfr hav
  generalize (lg_sl ([.ref (ad 0), .int a1] : List Value) ++ List.replicate (2 - (lg_sl ([.ref (ad 0), .int a1] : List Value)).length) Slot.unset).toArray = ls at hl ⊢
  have hl : lv_has ls 2 [(0, .ref (ad 0)), (1, .int a1)] := hl
  have kf40 := hts _ (List.mem_cons_of_mem _ m_fl_X2_40)
  have ki2 := (fun w h => List.mem_cons_of_mem _ (i_X2 w h) : ∀ w ∈ u_ws RX2 TX2 15, w ∈ wsX2_rankOf)
  refine (?_ : ∀ (H : Heap) (locs : List Loc), va_P (dC, dI) vwCl (zzK ad cy (ad 11) (ad 18) iK lK aK iB lB aB iC aC) H → va_D A (zzK ad cy (ad 11) (ad 18) iK lK aK iB lB aB iC aC) → va_S A s.heap H locs → W p l e ({ frames := 0, cells := 0, slots := 0, locals := 0 } : Room) s m args below meth c H locs 0 0 QQ (F0 m 0 ls [])) s.heap [] hP hD hS
  clear hP hD hS
  intro H locs hP hD hS
  unfold f_K_rankOf at h
  refine lv_iload_n hx hb dX2_rankOf_0 rfl (lv_at hl 1 rfl) ?_
  refine lv_if_lt (tgt := 20) hx hb dX2_rankOf_1 (by decide) (fun cz => ?_) (fun cz => ?_)
  · have h := g_t h cz
    refine lv_iconst (v := (-1)) hx hb dX2_rankOf_20 (by decide) ?_
    have h' := Option.some.inj h
    rw [← hQQ]
    exact W.iret (v := (-1 : Int32)) hx hb hr (fun t ht hW => ⟨⟨(-1 : Int32), (), rfl, by rw [← h'], by rw [← hWQ, ht]; exact hP, va_K.moved hW.alike hK⟩, hS.F ht⟩) hS.2.2 dX2_rankOf_21
  · have h := g_f h cz
    refine lv_iload_n hx hb dX2_rankOf_4 rfl (lv_at hl 1 rfl) ?_
    refine lv_sipush (v := 512) hx hb dX2_rankOf_5 (by decide) ?_
    refine lv_icmp_ge (tgt := 20) hx hb dX2_rankOf_8 (by decide) (fun cz => ?_) (fun cz => ?_)
    · have h := g_t h cz
      refine lv_iconst (v := (-1)) hx hb dX2_rankOf_20 (by decide) ?_
      have h' := Option.some.inj h
      rw [← hQQ]
      exact W.iret (v := (-1 : Int32)) hx hb hr (fun t ht hW => ⟨⟨(-1 : Int32), (), rfl, by rw [← h'], by rw [← hWQ, ht]; exact hP, va_K.moved hW.alike hK⟩, hS.F ht⟩) hS.2.2 dX2_rankOf_21
    · have h := g_f h cz
      refine lv_aload_n hx hb dX2_rankOf_11 rfl (lv_at hl 0 rfl) ?_
      refine va_get (D := (dC, dI)) (ci := 2) (v := .ref (ad 10)) (C := RX2) (T := TX2) (N := 15) hx hb hts ki2 hown hK hP 0 rfl rfl 13 (by decide) kf40 (fun _ h9 => h9) rfl dX2_rankOf_12 ?_
      refine lv_iload_n hx hb dX2_rankOf_15 rfl (lv_at hl 1 rfl) ?_
      obtain ⟨g_34, h⟩ := g_n h
      refine va_sald (f := (aK 13)) hx hb hK hP 10 3 rfl rfl g_34 dX2_rankOf_16 ?_
      refine lv_goto (tgt := 21) hx hb dX2_rankOf_17 (by decide) ?_
      have h' := Option.some.inj h
      rw [← hQQ]
      exact W.iret (v := ((aK 13) a1.toNatClampNeg)) hx hb hr (fun t ht hW => ⟨⟨((aK 13) a1.toNatClampNeg), (), rfl, by rw [← h'], by rw [← hWQ, ht]; exact hP, va_K.moved hW.alike hK⟩, hS.F ht⟩) hS.2.2 dX2_rankOf_21
set_option maxHeartbeats 8000000 in
set_option maxRecDepth 100000 in
theorem c_X_rank (l : Launch) (dC : Nat → ClassId) (dI : Nat → Nat → Nat) (cy : Nat → ClassId) (ad : Nat → Nat) (sz : Nat) (rb : Nat) (rc : Nat) (pb : Nat) (a1 : Int32) (iX : Nat → Int32) (iR : Nat → Int32) (iT : Nat → Int32) (wT : Int64) (tx : Nat → Int32) (iB : Nat → Int32) (lB : Nat → Nat → Int64) (aB : Nat → Nat → Int32) (iC : Nat → Int32) (aC : Nat → Nat → Int32) (iD : Nat → Int32) (lD : Nat → Nat → Int64) (aD : Nat → Nat → Int32) (iE : Nat → Int32) (aE : Nat → Nat → Int32) (iK : Nat → Int32) (lK : Nat → Nat → Int64) (aK : Nat → Nat → Int32) (iW : Nat → Int32) (aW : Nat → Nat → Int32) (iP : Nat → Int32) (aP : Nat → Nat → Int32) (q : Int32) (h : f_X_rank a1 (iX 5) (iK 2) (aK 13) = some q) : Met l yX7_rank wsX7_rank ({ frames := 1, cells := 0, slots := 0, locals := 21 } : Room) (cP (dC, dI) cy [.ref (ad 0), .int a1] (zzX ad cy rb rc (ad 4) (ad 11) pb (ad 4) (ad 20) iX iR iT wT tx iB lB aB iC aC iD lD aD iE aE iK lK aK iW aW iP aP) sz) (cQi (dC, dI) cy q (zzX ad cy rb rc (ad 4) (ad 11) pb (ad 4) (ad 20) iX iR iT wT tx iB lB aB iC aC iD lD aD iE aE iK lK aK iW aW iP aP) (va_A (zzX ad cy rb rc (ad 4) (ad 11) pb (ad 4) (ad 20) iX iR iT wT tx iB lB aB iC aC iD lD aD iE aE iK lK aK iW aW iP aP) sz)) 0 0 (va_A (zzX ad cy rb rc (ad 4) (ad 11) pb (ad 4) (ad 20) iX iR iT wT tx iB lB aB iC aC iD lD aD iE aE iK lK aK iW aW iP aP) sz) := by
  refine Met.ofW (cc := cX7_rank) (maxL := 2) (ret := (some .int)) (by decide) rfl ?_
  intro p e s m args below meth c s₁ B hml hv
  obtain ⟨hav, hsz, hP, hK, hD0, hN⟩ := hv
  have hx := B.exec
  have hb := B.bytes
  have hr := B.returns
  have hts := atoms_spec (ws := wsX7_rank) B.pre
  have hown : s.vm.findClass RX7 = some m.cls := findClass_of_methodNamed B.named
  have hlocks := B.notSynchronized
  subst hsz
  have hD := hD0.self (sz := s.heap.size)
  generalize hAe : va_A (zzX ad cy rb rc (ad 4) (ad 11) pb (ad 4) (ad 20) iX iR iT wT tx iB lB aB iC aC iD lD aD iE aE iK lK aK iW aW iP aP) s.heap.size = A at hD ⊢
  have hA : ∀ q : Nat, s.heap.size ≤ q → A q := fun q h => by rw [← hAe]; exact Or.inr h
  have hS : va_S A s.heap s.heap [] := va_S.rf
  generalize hWQ : (zzX ad cy rb rc (ad 4) (ad 11) pb (ad 4) (ad 20) iX iR iT wT tx iB lB aB iC aC iD lD aD iE aE iK lK aK iW aW iP aP) = WQ
  generalize hQQ : MQ below (cQi (dC, dI) cy q WQ A) args s 0 0 A = QQ
  have hl := lv_entry ([.ref (ad 0), .int a1] : List Value) (n := 2) (Nat.le_of_ble_eq_true rfl)
  have hfr := lg_entry_eq m ([.ref (ad 0), .int a1] : List Value) 2
  rw [← hav] at hfr
  rw [hfr]
  clear hfr hav
  generalize (lg_sl ([.ref (ad 0), .int a1] : List Value) ++ List.replicate (2 - (lg_sl ([.ref (ad 0), .int a1] : List Value)).length) Slot.unset).toArray = ls at hl ⊢
  have hl : lv_has ls 2 [(0, .ref (ad 0)), (1, .int a1)] := hl
  have kf70 := hts _ (List.mem_cons_of_mem _ m_fl_X7_70)
  have ki7 := (fun w h => List.mem_cons_of_mem _ (i_X7 w h) : ∀ w ∈ u_ws RX7 TX7 9, w ∈ wsX7_rank)
  have kf37 := hts _ (List.mem_cons_of_mem _ m_fl_X7_37)
  refine (?_ : ∀ (H : Heap) (locs : List Loc), va_P (dC, dI) vwCl (zzX ad cy rb rc (ad 4) (ad 11) pb (ad 4) (ad 20) iX iR iT wT tx iB lB aB iC aC iD lD aD iE aE iK lK aK iW aW iP aP) H → va_D A (zzX ad cy rb rc (ad 4) (ad 11) pb (ad 4) (ad 20) iX iR iT wT tx iB lB aB iC aC iD lD aD iE aE iK lK aK iW aW iP aP) → va_S A s.heap H locs → W p l e ({ frames := 1, cells := 0, slots := 0, locals := 21 } : Room) s m args below meth c H locs 0 0 QQ (F0 m 0 ls [])) s.heap [] hP hD hS
  clear hP hD hS
  intro H locs hP hD hS
  unfold f_X_rank at h
  refine lv_aload_n hx hb dX7_rank_0 rfl (lv_at hl 0 rfl) ?_
  refine va_get (D := (dC, dI)) (ci := 7) (v := .int (iX 5)) (C := RX7) (T := TX7) (N := 9) hx hb hts ki7 hown hK hP 0 rfl rfl 5 (by decide) kf70 (fun _ h9 => h9) rfl dX7_rank_1 ?_
  refine lv_if_ne (tgt := 10) hx hb dX7_rank_4 (by decide) (fun cz => ?_) (fun cz => ?_)
  · have h := g_f h cz
    refine lv_aload_n hx hb dX7_rank_10 rfl (lv_at hl 0 rfl) ?_
    refine va_get (D := (dC, dI)) (ci := 7) (v := .ref (ad 36)) (C := RX7) (T := TX7) (N := 9) hx hb hts ki7 hown hK hP 0 rfl rfl 6 (by decide) kf37 (fun _ h9 => h9) rfl dX7_rank_11 ?_
    refine lv_iload_n hx hb dX7_rank_14 rfl (lv_at hl 1 rfl) ?_
    obtain ⟨q15, e15, h⟩ := g_b h
    refine callVi (cc := cX7_rank) (ws' := zzX ad cy rb rc (ad 4) (ad 11) pb (ad 4) (ad 20) iX iR iT wT tx iB lB aB iC aC iD lD aD iE aE iK lK aK iW aW iP aP) (As := [.int a1]) (rest := []) ⟨hx, hb, hml, hown, hts⟩ (c_K_isType l dC dI cy (fun i => ad (([36, 37, 38, 39, 40, 41, 42, 43, 44, 45, 46, 4, 5, 6, 7, 8, 9, 10, 11, 12, 13, 14, 15, 16, 17, 18, 19] : List Nat).getD i 0)) H.size a1 iK lK aK iB lB aB iC aC q15 e15) (cwV 1 hts (goodV m_ml_X7_137 m_im_X2_isType m_se_X2_isType m_in_X2 m_cd_X2_isType) rfl rfl rfl (by decide +kernel) ⟨Nat.le_of_ble_eq_true rfl, Nat.le_of_ble_eq_true rfl⟩) hN hK hP hD hS hA [36, 37, 38, 39, 40, 41, 42, 43, 44, 45, 46, 4, 5, 6, 7, 8, 9, 10, 11, 12, 13, 14, 15, 16, 17, 18, 19] [none, none, none, none, some 11, some 12, some 13, some 14, some 15, some 16, some 17, some 18, some 19, some 20, some 21, some 22, some 23, some 24, some 25, some 26, none, none, none, none, none, none, none, none, none, none, none, none, none, none, none, none, some 0, some 1, some 2, some 3, some 4, some 5, some 6, some 7, some 8, some 9, some 10, none, none, none, none, none, none, none] rfl rfl rfl rfl rfl rfl 36 rfl rfl rfl hl.1 rfl (Nat.le_of_ble_eq_true rfl) dX7_rank_15 ⟨Nat.zero_le _, Nat.zero_le _⟩ (fun H locs hP hD hS => ?_)
    refine lv_if_eq (tgt := 32) hx hb dX7_rank_18 (by decide) (fun cz => ?_) (fun cz => ?_)
    · have h := g_t h cz
      refine lv_bipush (v := (-102)) hx hb dX7_rank_32 (by decide) ?_
      have h' := Option.some.inj h
      rw [← hQQ]
      exact W.iret (v := (-102 : Int32)) hx hb hr (fun t ht hW => ⟨⟨(-102 : Int32), (), rfl, by rw [← h'], by rw [← hWQ, ht]; exact hP, va_K.moved hW.alike hK⟩, hS.F ht⟩) hS.2.2 dX7_rank_34
    · have h := g_f h cz
      refine lv_aload_n hx hb dX7_rank_21 rfl (lv_at hl 0 rfl) ?_
      refine va_get (D := (dC, dI)) (ci := 7) (v := .ref (ad 36)) (C := RX7) (T := TX7) (N := 9) hx hb hts ki7 hown hK hP 0 rfl rfl 6 (by decide) kf37 (fun _ h9 => h9) rfl dX7_rank_22 ?_
      refine lv_iload_n hx hb dX7_rank_25 rfl (lv_at hl 1 rfl) ?_
      obtain ⟨q26, e26, h⟩ := g_b h
      refine callVi (cc := cX7_rank) (ws' := zzX ad cy rb rc (ad 4) (ad 11) pb (ad 4) (ad 20) iX iR iT wT tx iB lB aB iC aC iD lD aD iE aE iK lK aK iW aW iP aP) (As := [.int a1]) (rest := []) ⟨hx, hb, hml, hown, hts⟩ (c_K_rankOf l dC dI cy (fun i => ad (([36, 37, 38, 39, 40, 41, 42, 43, 44, 45, 46, 4, 5, 6, 7, 8, 9, 10, 11, 12, 13, 14, 15, 16, 17, 18, 19] : List Nat).getD i 0)) H.size a1 iK lK aK iB lB aB iC aC q26 e26) (cwV 1 hts (goodV m_ml_X7_141 m_im_X2_rankOf m_se_X2_rankOf m_in_X2 m_cd_X2_rankOf) rfl rfl rfl (by decide +kernel) ⟨Nat.le_of_ble_eq_true rfl, Nat.le_of_ble_eq_true rfl⟩) hN hK hP hD hS hA [36, 37, 38, 39, 40, 41, 42, 43, 44, 45, 46, 4, 5, 6, 7, 8, 9, 10, 11, 12, 13, 14, 15, 16, 17, 18, 19] [none, none, none, none, some 11, some 12, some 13, some 14, some 15, some 16, some 17, some 18, some 19, some 20, some 21, some 22, some 23, some 24, some 25, some 26, none, none, none, none, none, none, none, none, none, none, none, none, none, none, none, none, some 0, some 1, some 2, some 3, some 4, some 5, some 6, some 7, some 8, some 9, some 10, none, none, none, none, none, none, none] rfl rfl rfl rfl rfl rfl 36 rfl rfl rfl hl.1 rfl (Nat.le_of_ble_eq_true rfl) dX7_rank_26 ⟨Nat.zero_le _, Nat.zero_le _⟩ (fun H locs hP hD hS => ?_)
      refine lv_goto (tgt := 34) hx hb dX7_rank_29 (by decide) ?_
      have h' := Option.some.inj h
      rw [← hQQ]
      exact W.iret (v := q26) hx hb hr (fun t ht hW => ⟨⟨q26, (), rfl, by rw [← h'], by rw [← hWQ, ht]; exact hP, va_K.moved hW.alike hK⟩, hS.F ht⟩) hS.2.2 dX7_rank_34
  · have h := g_t h cz
    refine lv_bipush (v := (-101)) hx hb dX7_rank_7 (by decide) ?_
    have h' := Option.some.inj h
    rw [← hQQ]
    exact W.iret (v := (-101 : Int32)) hx hb hr (fun t ht hW => ⟨⟨(-101 : Int32), (), rfl, by rw [← h'], by rw [← hWQ, ht]; exact hP, va_K.moved hW.alike hK⟩, hS.F ht⟩) hS.2.2 dX7_rank_9
set_option maxHeartbeats 8000000 in
set_option maxRecDepth 100000 in
theorem c_K_leads (l : Launch) (dC : Nat → ClassId) (dI : Nat → Nat → Nat) (cy : Nat → ClassId) (ad : Nat → Nat) (sz : Nat) (N : Nat) (a1 : Int32) (a2 : Int32) (a3 : Int32) (iK : Nat → Int32) (lK : Nat → Nat → Int64) (aK : Nat → Nat → Int32) (iB : Nat → Int32) (lB : Nat → Nat → Int64) (aB : Nat → Nat → Int32) (iC : Nat → Int32) (aC : Nat → Nat → Int32) (q : Int32) (h : f_K_leads N a1 a2 a3 (lK 4) (aK 6) = some q) : Met l yX2_leads wsX2_leads ({ frames := 0, cells := 0, slots := 0, locals := 0 } : Room) (cP (dC, dI) cy [.ref (ad 0), .int a1, .int a2, .int a3] (zzK ad cy (ad 11) (ad 18) iK lK aK iB lB aB iC aC) sz) (cQi (dC, dI) cy q (zzK ad cy (ad 11) (ad 18) iK lK aK iB lB aB iC aC) (va_A (zzK ad cy (ad 11) (ad 18) iK lK aK iB lB aB iC aC) sz)) 0 0 (va_A (zzK ad cy (ad 11) (ad 18) iK lK aK iB lB aB iC aC) sz) := by
  refine Met.ofW (cc := cX2_leads) (maxL := 6) (ret := (some .boolean)) (by decide) rfl ?_
  intro p e s m args below meth c s₁ B hml hv
  obtain ⟨hav, hsz, hP, hK, hD0, hN⟩ := hv
  have hx := B.exec
  have hb := B.bytes
  have hr := B.returns
  have hts := atoms_spec (ws := wsX2_leads) B.pre
  have hown : s.vm.findClass RX2 = some m.cls := findClass_of_methodNamed B.named
  have hlocks := B.notSynchronized
  subst hsz
  have hD := hD0.self (sz := s.heap.size)
  generalize hAe : va_A (zzK ad cy (ad 11) (ad 18) iK lK aK iB lB aB iC aC) s.heap.size = A at hD ⊢
  have hA : ∀ q : Nat, s.heap.size ≤ q → A q := fun q h => by rw [← hAe]; exact Or.inr h
  have hS : va_S A s.heap s.heap [] := va_S.rf
  generalize hWQ : (zzK ad cy (ad 11) (ad 18) iK lK aK iB lB aB iC aC) = WQ
  generalize hQQ : MQ below (cQi (dC, dI) cy q WQ A) args s 0 0 A = QQ
  have hl := lv_entry ([.ref (ad 0), .int a1, .int a2, .int a3] : List Value) (n := 6) (Nat.le_of_ble_eq_true rfl)
  have hfr := lg_entry_eq m ([.ref (ad 0), .int a1, .int a2, .int a3] : List Value) 6
  rw [← hav] at hfr
  rw [hfr]
  clear hfr hav
  generalize (lg_sl ([.ref (ad 0), .int a1, .int a2, .int a3] : List Value) ++ List.replicate (6 - (lg_sl ([.ref (ad 0), .int a1, .int a2, .int a3] : List Value)).length) Slot.unset).toArray = ls at hl ⊢
  have hl : lv_has ls 6 [(0, .ref (ad 0)), (1, .int a1), (2, .int a2), (3, .int a3)] := hl
  have kf15 := hts _ (List.mem_cons_of_mem _ m_fl_X2_15)
  have ki2 := (fun w h => List.mem_cons_of_mem _ (i_X2 w h) : ∀ w ∈ u_ws RX2 TX2 15, w ∈ wsX2_leads)
  have kf22 := hts _ (List.mem_cons_of_mem _ m_fl_X2_22)
  refine (?_ : ∀ (H : Heap) (locs : List Loc), va_P (dC, dI) vwCl (zzK ad cy (ad 11) (ad 18) iK lK aK iB lB aB iC aC) H → va_D A (zzK ad cy (ad 11) (ad 18) iK lK aK iB lB aB iC aC) → va_S A s.heap H locs → W p l e ({ frames := 0, cells := 0, slots := 0, locals := 0 } : Room) s m args below meth c H locs 0 0 QQ (F0 m 0 ls [])) s.heap [] hP hD hS
  clear hP hD hS
  have B26 : ∀ (n : Nat) (v3 : Int32) (v4 : Int32) (v5 : Int32) (H : Heap) (locs : List Loc) (ls : Array Slot), f_K_leads_26 N (lK 4) (aK 6) v3 v4 n v5 = some q → va_P (dC, dI) vwCl (zzK ad cy (ad 11) (ad 18) iK lK aK iB lB aB iC aC) H → va_D A (zzK ad cy (ad 11) (ad 18) iK lK aK iB lB aB iC aC) → va_S A s.heap H locs → lv_has ls 6 [(0, .ref (ad 0)), (3, .int v3), (4, .int v4), (5, .int v5)] → W p l e ({ frames := 0, cells := 0, slots := 0, locals := 0 } : Room) s m args below meth c H locs 0 0 QQ (F0 m 26 ls []) := by
    intro n
    induction n with
    | zero =>
      intro v3 v4 v5 H locs ls h hP hD hS hl
      rw [f_K_leads_26] at h
      cases h
    | succ n ih =>
      intro v3 v4 v5 H locs ls h hP hD hS hl
      rw [f_K_leads_26] at h
      refine lv_iload hx hb dX2_leads_26 (lv_at hl 3 rfl) ?_
      refine lv_bipush (v := 9) hx hb dX2_leads_28 (by decide) ?_
      refine lv_icmp_ge (tgt := 79) hx hb dX2_leads_30 (by decide) (fun cz => ?_) (fun cz => ?_)
      · have h := g_t h cz
        refine lv_iconst (v := 1) hx hb dX2_leads_79 (by decide) ?_
        have h' := Option.some.inj h
        rw [← hQQ]
        exact W.zret (v := (1 : Int32)) hx hb hr rfl (fun t ht hW => ⟨⟨(1 : Int32), (), rfl, by rw [← h'], by rw [← hWQ, ht]; exact hP, va_K.moved hW.alike hK⟩, hS.F ht⟩) hS.2.2 dX2_leads_80
      · have h := g_f h cz
        refine lv_iload hx hb dX2_leads_33 (lv_at hl 2 rfl) ?_
        refine lv_iload hx hb dX2_leads_35 (lv_at hl 3 rfl) ?_
        refine lv_ishr hx hb dX2_leads_37 ?_
        refine lv_iconst (v := 1) hx hb dX2_leads_38 (by decide) ?_
        refine lv_iand hx hb dX2_leads_39 ?_
        refine lv_iconst (v := 1) hx hb dX2_leads_40 (by decide) ?_
        refine lv_icmp_ne (tgt := 73) hx hb dX2_leads_41 (by decide) (fun cz => ?_) (fun cz => ?_)
        · have h := g_f h cz
          refine lv_iinc (v := (v5 + (1 : Int32))) (lv' := [(5, .int ((v5 + (1 : Int32)))), (0, .ref (ad 0)), (3, .int v3), (4, .int v4)]) hx hb dX2_leads_73 hl (k := 3) rfl rfl (by decide) rfl (fun ls hl => ?_)
          refine lv_goto (tgt := 26) hx hb dX2_leads_76 (by decide) ?_
          exact ih v3 v4 ((v5 + (1 : Int32))) H locs ls h hP hD hS (lv_sub hl [1, 2, 3, 0] rfl)
        · have h := g_t h cz
          refine lv_aload_n hx hb dX2_leads_44 rfl (lv_at hl 0 rfl) ?_
          refine va_get (D := (dC, dI)) (ci := 2) (v := .ref (ad 2)) (C := RX2) (T := TX2) (N := 15) hx hb hts ki2 hown hK hP 0 rfl rfl 4 (by decide) kf15 (fun _ h9 => h9) rfl dX2_leads_45 ?_
          refine lv_iload hx hb dX2_leads_48 (lv_at hl 3 rfl) ?_
          refine lv_bipush (v := 8) hx hb dX2_leads_50 (by decide) ?_
          refine lv_imul hx hb dX2_leads_52 ?_
          refine lv_iload_n hx hb dX2_leads_53 rfl (lv_at hl 1 rfl) ?_
          refine lv_bipush (v := 6) hx hb dX2_leads_54 (by decide) ?_
          refine lv_ishr hx hb dX2_leads_56 ?_
          refine lv_bipush (v := 7) hx hb dX2_leads_57 (by decide) ?_
          refine lv_iand hx hb dX2_leads_59 ?_
          refine lv_iadd hx hb dX2_leads_60 ?_
          obtain ⟨g_35, h⟩ := g_n h
          refine va_lald (f := (lK 4)) hx hb hK hP 2 2 rfl rfl g_35 dX2_leads_61 ?_
          refine lv_iload_n hx hb dX2_leads_62 rfl (lv_at hl 1 rfl) ?_
          refine lv_lshr (v := (((lK 4) (((v5 * (8 : Int32)) + ((v3 >>> ((6 : Int32) &&& 31)) &&& (7 : Int32)))).toNatClampNeg) >>> ((v3).toInt64 &&& 63))) hx hb dX2_leads_63 rfl ?_
          refine lv_lconst (v := 1) hx hb dX2_leads_64 (by decide) ?_
          refine lv_land hx hb dX2_leads_65 ?_
          refine lv_lconst (v := 1) hx hb dX2_leads_66 (by decide) ?_
          refine W.lcmp hx hb dX2_leads_67 ?_
          refine lv_if_ne (tgt := 73) hx hb dX2_leads_68 (by decide) (fun cz => ?_) (fun cz => ?_)
          · have h := g_f h (fun z => cz (lg_cmp0.mpr z))
            refine lv_iinc (v := (v5 + (1 : Int32))) (lv' := [(5, .int ((v5 + (1 : Int32)))), (0, .ref (ad 0)), (3, .int v3), (4, .int v4)]) hx hb dX2_leads_73 hl (k := 3) rfl rfl (by decide) rfl (fun ls hl => ?_)
            refine lv_goto (tgt := 26) hx hb dX2_leads_76 (by decide) ?_
            exact ih v3 v4 ((v5 + (1 : Int32))) H locs ls h hP hD hS (lv_sub hl [1, 2, 3, 0] rfl)
          · have h := g_t h (lg_cmp0.mp cz)
            refine lv_iconst (v := 0) hx hb dX2_leads_71 (by decide) ?_
            have h' := Option.some.inj h
            rw [← hQQ]
            exact W.zret (v := (0 : Int32)) hx hb hr rfl (fun t ht hW => ⟨⟨(0 : Int32), (), rfl, by rw [← h'], by rw [← hWQ, ht]; exact hP, va_K.moved hW.alike hK⟩, hS.F ht⟩) hS.2.2 dX2_leads_72
  intro H locs hP hD hS
  unfold f_K_leads at h
  refine lv_iload_n hx hb dX2_leads_0 rfl (lv_at hl 2 rfl) ?_
  refine lv_if_lt (tgt := 9) hx hb dX2_leads_1 (by decide) (fun cz => ?_) (fun cz => ?_)
  · have h := g_t h cz
    refine lv_iconst (v := 0) hx hb dX2_leads_9 (by decide) ?_
    have h' := Option.some.inj h
    rw [← hQQ]
    exact W.zret (v := (0 : Int32)) hx hb hr rfl (fun t ht hW => ⟨⟨(0 : Int32), (), rfl, by rw [← h'], by rw [← hWQ, ht]; exact hP, va_K.moved hW.alike hK⟩, hS.F ht⟩) hS.2.2 dX2_leads_10
  · have h := g_f h cz
    refine lv_iload_n hx hb dX2_leads_4 rfl (lv_at hl 2 rfl) ?_
    refine lv_iconst (v := 3) hx hb dX2_leads_5 (by decide) ?_
    refine lv_icmp_lt (tgt := 11) hx hb dX2_leads_6 (by decide) (fun cz => ?_) (fun cz => ?_)
    · have h := g_t h cz
      refine lv_aload_n hx hb dX2_leads_11 rfl (lv_at hl 0 rfl) ?_
      refine va_get (D := (dC, dI)) (ci := 2) (v := .ref (ad 4)) (C := RX2) (T := TX2) (N := 15) hx hb hts ki2 hown hK hP 0 rfl rfl 6 (by decide) kf22 (fun _ h9 => h9) rfl dX2_leads_12 ?_
      refine lv_iload_n hx hb dX2_leads_15 rfl (lv_at hl 2 rfl) ?_
      obtain ⟨g_36, h⟩ := g_n h
      refine va_iald (f := (aK 6)) hx hb hK hP 4 0 rfl rfl g_36 dX2_leads_16 ?_
      refine lv_iload_n hx hb dX2_leads_17 rfl (lv_at hl 1 rfl) ?_
      refine lv_iconst (v := (-1)) hx hb dX2_leads_18 (by decide) ?_
      refine lv_ixor hx hb dX2_leads_19 ?_
      refine lv_iand hx hb dX2_leads_20 ?_
      refine lv_istore (lv' := [(4, .int ((((aK 6) a2.toNatClampNeg) &&& (a1 ^^^ (-1 : Int32))))), (0, .ref (ad 0)), (1, .int a1), (2, .int a2), (3, .int a3)]) hx hb dX2_leads_21 hl (by decide) rfl (fun ls hl => ?_)
      refine lv_iconst (v := 0) hx hb dX2_leads_23 (by decide) ?_
      refine lv_istore (lv' := [(5, .int ((0 : Int32))), (4, .int ((((aK 6) a2.toNatClampNeg) &&& (a1 ^^^ (-1 : Int32))))), (0, .ref (ad 0)), (1, .int a1), (2, .int a2), (3, .int a3)]) hx hb dX2_leads_24 hl (by decide) rfl (fun ls hl => ?_)
      exact B26 N a3 ((((aK 6) a2.toNatClampNeg) &&& (a1 ^^^ (-1 : Int32)))) ((0 : Int32)) H locs ls h hP hD hS (lv_sub hl [2, 5, 1, 0] rfl)
    · have h := g_f h cz
      refine lv_iconst (v := 0) hx hb dX2_leads_9 (by decide) ?_
      have h' := Option.some.inj h
      rw [← hQQ]
      exact W.zret (v := (0 : Int32)) hx hb hr rfl (fun t ht hW => ⟨⟨(0 : Int32), (), rfl, by rw [← h'], by rw [← hWQ, ht]; exact hP, va_K.moved hW.alike hK⟩, hS.F ht⟩) hS.2.2 dX2_leads_10
set_option maxHeartbeats 8000000 in
set_option maxRecDepth 100000 in
theorem c_X_oneIf (l : Launch) (dC : Nat → ClassId) (dI : Nat → Nat → Nat) (cy : Nat → ClassId) (ad : Nat → Nat) (sz : Nat) (a0 : Int32) (q : Int32) (h : f_X_oneIf a0 = some q) : Met l yX7_oneIf wsX7_oneIf ({ frames := 0, cells := 0, slots := 0, locals := 0 } : Room) (cP (dC, dI) cy [.int a0] (zzE ad cy) sz) (cQi (dC, dI) cy q (zzE ad cy) (va_A (zzE ad cy) sz)) 0 0 (va_A (zzE ad cy) sz) := by
  refine Met.ofW (cc := cX7_oneIf) (maxL := 1) (ret := (some .int)) (by decide) rfl ?_
  intro p e s m args below meth c s₁ B hml hv
  obtain ⟨hav, hsz, hP, hK, hD0, hN⟩ := hv
  have hx := B.exec
  have hb := B.bytes
  have hr := B.returns
  have hts := atoms_spec (ws := wsX7_oneIf) B.pre
  have hown : s.vm.findClass RX7 = some m.cls := findClass_of_methodNamed B.named
  have hlocks := B.notSynchronized
  subst hsz
  have hD := hD0.self (sz := s.heap.size)
  generalize hAe : va_A (zzE ad cy) s.heap.size = A at hD ⊢
  have hA : ∀ q : Nat, s.heap.size ≤ q → A q := fun q h => by rw [← hAe]; exact Or.inr h
  have hS : va_S A s.heap s.heap [] := va_S.rf
  generalize hWQ : (zzE ad cy) = WQ
  generalize hQQ : MQ below (cQi (dC, dI) cy q WQ A) args s 0 0 A = QQ
  have hl := lv_entry ([.int a0] : List Value) (n := 1) (Nat.le_of_ble_eq_true rfl)
  have hfr := lg_entry_eq m ([.int a0] : List Value) 1
  rw [← hav] at hfr
  rw [hfr]
  clear hfr hav
  generalize (lg_sl ([.int a0] : List Value) ++ List.replicate (1 - (lg_sl ([.int a0] : List Value)).length) Slot.unset).toArray = ls at hl ⊢
  have hl : lv_has ls 1 [(0, .int a0)] := hl
  refine (?_ : ∀ (H : Heap) (locs : List Loc), va_P (dC, dI) vwCl (zzE ad cy) H → va_D A (zzE ad cy) → va_S A s.heap H locs → W p l e ({ frames := 0, cells := 0, slots := 0, locals := 0 } : Room) s m args below meth c H locs 0 0 QQ (F0 m 0 ls [])) s.heap [] hP hD hS
  clear hP hD hS
  intro H locs hP hD hS
  unfold f_X_oneIf at h
  refine lv_iload_n hx hb dX7_oneIf_0 rfl (lv_at hl 0 rfl) ?_
  refine lv_if_eq (tgt := 8) hx hb dX7_oneIf_1 (by decide) (fun cz => ?_) (fun cz => ?_)
  · have h := g_t h cz
    refine lv_iconst (v := 0) hx hb dX7_oneIf_8 (by decide) ?_
    have h' := Option.some.inj h
    rw [← hQQ]
    exact W.iret (v := (0 : Int32)) hx hb hr (fun t ht hW => ⟨⟨(0 : Int32), (), rfl, by rw [← h'], by rw [← hWQ, ht]; exact hP, va_K.moved hW.alike hK⟩, hS.F ht⟩) hS.2.2 dX7_oneIf_9
  · have h := g_f h cz
    refine lv_iconst (v := 1) hx hb dX7_oneIf_4 (by decide) ?_
    refine lv_goto (tgt := 9) hx hb dX7_oneIf_5 (by decide) ?_
    have h' := Option.some.inj h
    rw [← hQQ]
    exact W.iret (v := (1 : Int32)) hx hb hr (fun t ht hW => ⟨⟨(1 : Int32), (), rfl, by rw [← h'], by rw [← hWQ, ht]; exact hP, va_K.moved hW.alike hK⟩, hS.F ht⟩) hS.2.2 dX7_oneIf_9
set_option maxHeartbeats 8000000 in
set_option maxRecDepth 100000 in
theorem c_X_goes (l : Launch) (dC : Nat → ClassId) (dI : Nat → Nat → Nat) (cy : Nat → ClassId) (ad : Nat → Nat) (sz : Nat) (rb : Nat) (rc : Nat) (pb : Nat) (N : Nat) (a1 : Int32) (a2 : Int32) (a3 : Int32) (iX : Nat → Int32) (iR : Nat → Int32) (iT : Nat → Int32) (wT : Int64) (tx : Nat → Int32) (iB : Nat → Int32) (lB : Nat → Nat → Int64) (aB : Nat → Nat → Int32) (iC : Nat → Int32) (aC : Nat → Nat → Int32) (iD : Nat → Int32) (lD : Nat → Nat → Int64) (aD : Nat → Nat → Int32) (iE : Nat → Int32) (aE : Nat → Nat → Int32) (iK : Nat → Int32) (lK : Nat → Nat → Int64) (aK : Nat → Nat → Int32) (iW : Nat → Int32) (aW : Nat → Nat → Int32) (iP : Nat → Int32) (aP : Nat → Nat → Int32) (q : Int32) (h : f_X_goes N a1 a2 a3 (iX 5) (iB 5) (iK 2) (lK 4) (aK 6) = some q) : Met l yX7_goes wsX7_goes ({ frames := 1, cells := 0, slots := 0, locals := 25 } : Room) (cP (dC, dI) cy [.ref (ad 0), .int a1, .int a2, .int a3] (zzX ad cy rb rc (ad 4) (ad 11) pb (ad 4) (ad 20) iX iR iT wT tx iB lB aB iC aC iD lD aD iE aE iK lK aK iW aW iP aP) sz) (cQi (dC, dI) cy q (zzX ad cy rb rc (ad 4) (ad 11) pb (ad 4) (ad 20) iX iR iT wT tx iB lB aB iC aC iD lD aD iE aE iK lK aK iW aW iP aP) (va_A (zzX ad cy rb rc (ad 4) (ad 11) pb (ad 4) (ad 20) iX iR iT wT tx iB lB aB iC aC iD lD aD iE aE iK lK aK iW aW iP aP) sz)) 0 0 (va_A (zzX ad cy rb rc (ad 4) (ad 11) pb (ad 4) (ad 20) iX iR iT wT tx iB lB aB iC aC iD lD aD iE aE iK lK aK iW aW iP aP) sz) := by
  refine Met.ofW (cc := cX7_goes) (maxL := 4) (ret := (some .int)) (by decide) rfl ?_
  intro p e s m args below meth c s₁ B hml hv
  obtain ⟨hav, hsz, hP, hK, hD0, hN⟩ := hv
  have hx := B.exec
  have hb := B.bytes
  have hr := B.returns
  have hts := atoms_spec (ws := wsX7_goes) B.pre
  have hown : s.vm.findClass RX7 = some m.cls := findClass_of_methodNamed B.named
  have hlocks := B.notSynchronized
  subst hsz
  have hD := hD0.self (sz := s.heap.size)
  generalize hAe : va_A (zzX ad cy rb rc (ad 4) (ad 11) pb (ad 4) (ad 20) iX iR iT wT tx iB lB aB iC aC iD lD aD iE aE iK lK aK iW aW iP aP) s.heap.size = A at hD ⊢
  have hA : ∀ q : Nat, s.heap.size ≤ q → A q := fun q h => by rw [← hAe]; exact Or.inr h
  have hS : va_S A s.heap s.heap [] := va_S.rf
  generalize hWQ : (zzX ad cy rb rc (ad 4) (ad 11) pb (ad 4) (ad 20) iX iR iT wT tx iB lB aB iC aC iD lD aD iE aE iK lK aK iW aW iP aP) = WQ
  generalize hQQ : MQ below (cQi (dC, dI) cy q WQ A) args s 0 0 A = QQ
  have hl := lv_entry ([.ref (ad 0), .int a1, .int a2, .int a3] : List Value) (n := 4) (Nat.le_of_ble_eq_true rfl)
  have hfr := lg_entry_eq m ([.ref (ad 0), .int a1, .int a2, .int a3] : List Value) 4
  rw [← hav] at hfr
  rw [hfr]
  clear hfr hav
  generalize (lg_sl ([.ref (ad 0), .int a1, .int a2, .int a3] : List Value) ++ List.replicate (4 - (lg_sl ([.ref (ad 0), .int a1, .int a2, .int a3] : List Value)).length) Slot.unset).toArray = ls at hl ⊢
  have hl : lv_has ls 4 [(0, .ref (ad 0)), (1, .int a1), (2, .int a2), (3, .int a3)] := hl
  have kf70 := hts _ (List.mem_cons_of_mem _ m_fl_X7_70)
  have ki7 := (fun w h => List.mem_cons_of_mem _ (i_X7 w h) : ∀ w ∈ u_ws RX7 TX7 9, w ∈ wsX7_goes)
  have kf37 := hts _ (List.mem_cons_of_mem _ m_fl_X7_37)
  have kf16 := hts _ (List.mem_cons_of_mem _ m_fl_X7_16)
  have kf92 := hts _ (List.mem_cons_of_mem _ m_fl_X7_92)
  have ki0 := (fun w h => List.mem_cons_of_mem _ (i_X0 w h) : ∀ w ∈ u_ws RX0 TX0 15, w ∈ wsX7_goes)
  refine (?_ : ∀ (H : Heap) (locs : List Loc), va_P (dC, dI) vwCl (zzX ad cy rb rc (ad 4) (ad 11) pb (ad 4) (ad 20) iX iR iT wT tx iB lB aB iC aC iD lD aD iE aE iK lK aK iW aW iP aP) H → va_D A (zzX ad cy rb rc (ad 4) (ad 11) pb (ad 4) (ad 20) iX iR iT wT tx iB lB aB iC aC iD lD aD iE aE iK lK aK iW aW iP aP) → va_S A s.heap H locs → W p l e ({ frames := 1, cells := 0, slots := 0, locals := 25 } : Room) s m args below meth c H locs 0 0 QQ (F0 m 0 ls [])) s.heap [] hP hD hS
  clear hP hD hS
  intro H locs hP hD hS
  unfold f_X_goes at h
  refine lv_aload_n hx hb dX7_goes_0 rfl (lv_at hl 0 rfl) ?_
  refine va_get (D := (dC, dI)) (ci := 7) (v := .int (iX 5)) (C := RX7) (T := TX7) (N := 9) hx hb hts ki7 hown hK hP 0 rfl rfl 5 (by decide) kf70 (fun _ h9 => h9) rfl dX7_goes_1 ?_
  refine lv_if_ne (tgt := 10) hx hb dX7_goes_4 (by decide) (fun cz => ?_) (fun cz => ?_)
  · have h := g_f h cz
    refine lv_aload_n hx hb dX7_goes_10 rfl (lv_at hl 0 rfl) ?_
    refine va_get (D := (dC, dI)) (ci := 7) (v := .ref (ad 36)) (C := RX7) (T := TX7) (N := 9) hx hb hts ki7 hown hK hP 0 rfl rfl 6 (by decide) kf37 (fun _ h9 => h9) rfl dX7_goes_11 ?_
    refine lv_iload_n hx hb dX7_goes_14 rfl (lv_at hl 1 rfl) ?_
    obtain ⟨q15, e15, h⟩ := g_b h
    refine callVi (cc := cX7_goes) (ws' := zzX ad cy rb rc (ad 4) (ad 11) pb (ad 4) (ad 20) iX iR iT wT tx iB lB aB iC aC iD lD aD iE aE iK lK aK iW aW iP aP) (As := [.int a1]) (rest := []) ⟨hx, hb, hml, hown, hts⟩ (c_K_isType l dC dI cy (fun i => ad (([36, 37, 38, 39, 40, 41, 42, 43, 44, 45, 46, 4, 5, 6, 7, 8, 9, 10, 11, 12, 13, 14, 15, 16, 17, 18, 19] : List Nat).getD i 0)) H.size a1 iK lK aK iB lB aB iC aC q15 e15) (cwV 1 hts (goodV m_ml_X7_137 m_im_X2_isType m_se_X2_isType m_in_X2 m_cd_X2_isType) rfl rfl rfl (by decide +kernel) ⟨Nat.le_of_ble_eq_true rfl, Nat.le_of_ble_eq_true rfl⟩) hN hK hP hD hS hA [36, 37, 38, 39, 40, 41, 42, 43, 44, 45, 46, 4, 5, 6, 7, 8, 9, 10, 11, 12, 13, 14, 15, 16, 17, 18, 19] [none, none, none, none, some 11, some 12, some 13, some 14, some 15, some 16, some 17, some 18, some 19, some 20, some 21, some 22, some 23, some 24, some 25, some 26, none, none, none, none, none, none, none, none, none, none, none, none, none, none, none, none, some 0, some 1, some 2, some 3, some 4, some 5, some 6, some 7, some 8, some 9, some 10, none, none, none, none, none, none, none] rfl rfl rfl rfl rfl rfl 36 rfl rfl rfl hl.1 rfl (Nat.le_of_ble_eq_true rfl) dX7_goes_15 ⟨Nat.zero_le _, Nat.zero_le _⟩ (fun H locs hP hD hS => ?_)
    refine lv_if_eq (tgt := 32) hx hb dX7_goes_18 (by decide) (fun cz => ?_) (fun cz => ?_)
    · have h := g_t h cz
      refine lv_bipush (v := (-102)) hx hb dX7_goes_32 (by decide) ?_
      have h' := Option.some.inj h
      rw [← hQQ]
      exact W.iret (v := (-102 : Int32)) hx hb hr (fun t ht hW => ⟨⟨(-102 : Int32), (), rfl, by rw [← h'], by rw [← hWQ, ht]; exact hP, va_K.moved hW.alike hK⟩, hS.F ht⟩) hS.2.2 dX7_goes_34
    · have h := g_f h cz
      refine lv_aload_n hx hb dX7_goes_21 rfl (lv_at hl 0 rfl) ?_
      refine va_get (D := (dC, dI)) (ci := 7) (v := .ref (ad 36)) (C := RX7) (T := TX7) (N := 9) hx hb hts ki7 hown hK hP 0 rfl rfl 6 (by decide) kf37 (fun _ h9 => h9) rfl dX7_goes_22 ?_
      refine lv_iload_n hx hb dX7_goes_25 rfl (lv_at hl 3 rfl) ?_
      obtain ⟨q26, e26, h⟩ := g_b h
      refine callVi (cc := cX7_goes) (ws' := zzX ad cy rb rc (ad 4) (ad 11) pb (ad 4) (ad 20) iX iR iT wT tx iB lB aB iC aC iD lD aD iE aE iK lK aK iW aW iP aP) (As := [.int a3]) (rest := []) ⟨hx, hb, hml, hown, hts⟩ (c_K_isType l dC dI cy (fun i => ad (([36, 37, 38, 39, 40, 41, 42, 43, 44, 45, 46, 4, 5, 6, 7, 8, 9, 10, 11, 12, 13, 14, 15, 16, 17, 18, 19] : List Nat).getD i 0)) H.size a3 iK lK aK iB lB aB iC aC q26 e26) (cwV 1 hts (goodV m_ml_X7_137 m_im_X2_isType m_se_X2_isType m_in_X2 m_cd_X2_isType) rfl rfl rfl (by decide +kernel) ⟨Nat.le_of_ble_eq_true rfl, Nat.le_of_ble_eq_true rfl⟩) hN hK hP hD hS hA [36, 37, 38, 39, 40, 41, 42, 43, 44, 45, 46, 4, 5, 6, 7, 8, 9, 10, 11, 12, 13, 14, 15, 16, 17, 18, 19] [none, none, none, none, some 11, some 12, some 13, some 14, some 15, some 16, some 17, some 18, some 19, some 20, some 21, some 22, some 23, some 24, some 25, some 26, none, none, none, none, none, none, none, none, none, none, none, none, none, none, none, none, some 0, some 1, some 2, some 3, some 4, some 5, some 6, some 7, some 8, some 9, some 10, none, none, none, none, none, none, none] rfl rfl rfl rfl rfl rfl 36 rfl rfl rfl hl.1 rfl (Nat.le_of_ble_eq_true rfl) dX7_goes_26 ⟨Nat.zero_le _, Nat.zero_le _⟩ (fun H locs hP hD hS => ?_)
      refine lv_if_ne (tgt := 35) hx hb dX7_goes_29 (by decide) (fun cz => ?_) (fun cz => ?_)
      · have h := g_f h cz
        refine lv_iload_n hx hb dX7_goes_35 rfl (lv_at hl 2 rfl) ?_
        refine lv_if_lt (tgt := 50) hx hb dX7_goes_36 (by decide) (fun cz => ?_) (fun cz => ?_)
        · have h := g_t h cz
          refine lv_bipush (v := (-103)) hx hb dX7_goes_50 (by decide) ?_
          have h' := Option.some.inj h
          rw [← hQQ]
          exact W.iret (v := (-103 : Int32)) hx hb hr (fun t ht hW => ⟨⟨(-103 : Int32), (), rfl, by rw [← h'], by rw [← hWQ, ht]; exact hP, va_K.moved hW.alike hK⟩, hS.F ht⟩) hS.2.2 dX7_goes_52
        · have h := g_f h cz
          refine lv_iload_n hx hb dX7_goes_39 rfl (lv_at hl 2 rfl) ?_
          refine lv_aload_n hx hb dX7_goes_40 rfl (lv_at hl 0 rfl) ?_
          refine va_get (D := (dC, dI)) (ci := 7) (v := .ref (ad 4)) (C := RX7) (T := TX7) (N := 9) hx hb hts ki7 hown hK hP 0 rfl rfl 3 (by decide) kf16 (fun _ h9 => h9) rfl dX7_goes_41 ?_
          refine va_get (D := (dC, dI)) (ci := 0) (v := .int (iB 5)) (C := RX0) (T := TX0) (N := 15) hx hb hts ki0 hown hK hP 4 rfl rfl 5 (by decide) kf92 (fun _ h9 => h9) rfl dX7_goes_44 ?_
          refine lv_icmp_lt (tgt := 53) hx hb dX7_goes_47 (by decide) (fun cz => ?_) (fun cz => ?_)
          · have h := g_t h cz
            refine lv_aload_n hx hb dX7_goes_53 rfl (lv_at hl 0 rfl) ?_
            refine va_get (D := (dC, dI)) (ci := 7) (v := .ref (ad 36)) (C := RX7) (T := TX7) (N := 9) hx hb hts ki7 hown hK hP 0 rfl rfl 6 (by decide) kf37 (fun _ h9 => h9) rfl dX7_goes_54 ?_
            refine lv_iload_n hx hb dX7_goes_57 rfl (lv_at hl 1 rfl) ?_
            refine lv_iload_n hx hb dX7_goes_58 rfl (lv_at hl 2 rfl) ?_
            refine lv_iload_n hx hb dX7_goes_59 rfl (lv_at hl 3 rfl) ?_
            obtain ⟨q60, e60, h⟩ := g_b h
            refine callVi (cc := cX7_goes) (ws' := zzX ad cy rb rc (ad 4) (ad 11) pb (ad 4) (ad 20) iX iR iT wT tx iB lB aB iC aC iD lD aD iE aE iK lK aK iW aW iP aP) (As := [.int a1, .int a2, .int a3]) (rest := []) ⟨hx, hb, hml, hown, hts⟩ (c_K_leads l dC dI cy (fun i => ad (([36, 37, 38, 39, 40, 41, 42, 43, 44, 45, 46, 4, 5, 6, 7, 8, 9, 10, 11, 12, 13, 14, 15, 16, 17, 18, 19] : List Nat).getD i 0)) H.size N a1 a2 a3 iK lK aK iB lB aB iC aC q60 e60) (cwV 3 hts (goodV m_ml_X7_144 m_im_X2_leads m_se_X2_leads m_in_X2 m_cd_X2_leads) rfl rfl rfl (by decide +kernel) ⟨Nat.le_of_ble_eq_true rfl, Nat.le_of_ble_eq_true rfl⟩) hN hK hP hD hS hA [36, 37, 38, 39, 40, 41, 42, 43, 44, 45, 46, 4, 5, 6, 7, 8, 9, 10, 11, 12, 13, 14, 15, 16, 17, 18, 19] [none, none, none, none, some 11, some 12, some 13, some 14, some 15, some 16, some 17, some 18, some 19, some 20, some 21, some 22, some 23, some 24, some 25, some 26, none, none, none, none, none, none, none, none, none, none, none, none, none, none, none, none, some 0, some 1, some 2, some 3, some 4, some 5, some 6, some 7, some 8, some 9, some 10, none, none, none, none, none, none, none] rfl rfl rfl rfl rfl rfl 36 rfl rfl rfl hl.1 rfl (Nat.le_of_ble_eq_true rfl) dX7_goes_60 ⟨Nat.zero_le _, Nat.zero_le _⟩ (fun H locs hP hD hS => ?_)
            obtain ⟨q63, e63, h⟩ := g_b h
            refine callSi (cc := cX7_goes) (ws' := zzX ad cy rb rc (ad 4) (ad 11) pb (ad 4) (ad 20) iX iR iT wT tx iB lB aB iC aC iD lD aD iE aE iK lK aK iW aW iP aP) (As := [.int q60]) (rest := []) ⟨hx, hb, hml, hown, hts⟩ (c_X_oneIf l dC dI cy ad H.size q60 q63 e63) (va_cwS 1 hts (goodS m_ml_X7_148 m_st_X7_oneIf m_in_X7 m_cd_X7_oneIf) rfl rfl rfl (by decide +kernel) ⟨Nat.le_of_ble_eq_true rfl, Nat.le_of_ble_eq_true rfl⟩) hN hK hP hD hS hA [] [none, none, none, none, none, none, none, none, none, none, none, none, none, none, none, none, none, none, none, none, none, none, none, none, none, none, none, none, none, none, none, none, none, none, none, none, none, none, none, none, none, none, none, none, none, none, none, none, none, none, none, none, none, none] rfl rfl rfl rfl rfl rfl rfl hl.1 rfl (Nat.le_of_ble_eq_true rfl) dX7_goes_63 ⟨Nat.zero_le _, Nat.zero_le _⟩ (fun H locs hP hD hS => ?_)
            have h' := Option.some.inj h
            rw [← hQQ]
            exact W.iret (v := q63) hx hb hr (fun t ht hW => ⟨⟨q63, (), rfl, by rw [← h'], by rw [← hWQ, ht]; exact hP, va_K.moved hW.alike hK⟩, hS.F ht⟩) hS.2.2 dX7_goes_66
          · have h := g_f h cz
            refine lv_bipush (v := (-103)) hx hb dX7_goes_50 (by decide) ?_
            have h' := Option.some.inj h
            rw [← hQQ]
            exact W.iret (v := (-103 : Int32)) hx hb hr (fun t ht hW => ⟨⟨(-103 : Int32), (), rfl, by rw [← h'], by rw [← hWQ, ht]; exact hP, va_K.moved hW.alike hK⟩, hS.F ht⟩) hS.2.2 dX7_goes_52
      · have h := g_t h cz
        refine lv_bipush (v := (-102)) hx hb dX7_goes_32 (by decide) ?_
        have h' := Option.some.inj h
        rw [← hQQ]
        exact W.iret (v := (-102 : Int32)) hx hb hr (fun t ht hW => ⟨⟨(-102 : Int32), (), rfl, by rw [← h'], by rw [← hWQ, ht]; exact hP, va_K.moved hW.alike hK⟩, hS.F ht⟩) hS.2.2 dX7_goes_34
  · have h := g_t h cz
    refine lv_bipush (v := (-101)) hx hb dX7_goes_7 (by decide) ?_
    have h' := Option.some.inj h
    rw [← hQQ]
    exact W.iret (v := (-101 : Int32)) hx hb hr (fun t ht hW => ⟨⟨(-101 : Int32), (), rfl, by rw [← h'], by rw [← hWQ, ht]; exact hP, va_K.moved hW.alike hK⟩, hS.F ht⟩) hS.2.2 dX7_goes_9
set_option maxHeartbeats 8000000 in
set_option maxRecDepth 100000 in
theorem c_X_isQuestion (l : Launch) (dC : Nat → ClassId) (dI : Nat → Nat → Nat) (cy : Nat → ClassId) (ad : Nat → Nat) (sz : Nat) (rb : Nat) (rc : Nat) (pb : Nat) (a1 : Int32) (iX : Nat → Int32) (iR : Nat → Int32) (iT : Nat → Int32) (wT : Int64) (tx : Nat → Int32) (iB : Nat → Int32) (lB : Nat → Nat → Int64) (aB : Nat → Nat → Int32) (iC : Nat → Int32) (aC : Nat → Nat → Int32) (iD : Nat → Int32) (lD : Nat → Nat → Int64) (aD : Nat → Nat → Int32) (iE : Nat → Int32) (aE : Nat → Nat → Int32) (iK : Nat → Int32) (lK : Nat → Nat → Int64) (aK : Nat → Nat → Int32) (iW : Nat → Int32) (aW : Nat → Nat → Int32) (iP : Nat → Int32) (aP : Nat → Nat → Int32) (q : Int32) (h : f_X_isQuestion a1 (iB 11) = some q) : Met l yX7_isQuestion wsX7_isQuestion ({ frames := 0, cells := 0, slots := 0, locals := 0 } : Room) (cP (dC, dI) cy [.ref (ad 0), .int a1] (zzX ad cy rb rc (ad 4) (ad 11) pb (ad 4) (ad 20) iX iR iT wT tx iB lB aB iC aC iD lD aD iE aE iK lK aK iW aW iP aP) sz) (cQi (dC, dI) cy q (zzX ad cy rb rc (ad 4) (ad 11) pb (ad 4) (ad 20) iX iR iT wT tx iB lB aB iC aC iD lD aD iE aE iK lK aK iW aW iP aP) (va_A (zzX ad cy rb rc (ad 4) (ad 11) pb (ad 4) (ad 20) iX iR iT wT tx iB lB aB iC aC iD lD aD iE aE iK lK aK iW aW iP aP) sz)) 0 0 (va_A (zzX ad cy rb rc (ad 4) (ad 11) pb (ad 4) (ad 20) iX iR iT wT tx iB lB aB iC aC iD lD aD iE aE iK lK aK iW aW iP aP) sz) := by
  refine Met.ofW (cc := cX7_isQuestion) (maxL := 2) (ret := (some .boolean)) (by decide) rfl ?_
  intro p e s m args below meth c s₁ B hml hv
  obtain ⟨hav, hsz, hP, hK, hD0, hN⟩ := hv
  have hx := B.exec
  have hb := B.bytes
  have hr := B.returns
  have hts := atoms_spec (ws := wsX7_isQuestion) B.pre
  have hown : s.vm.findClass RX7 = some m.cls := findClass_of_methodNamed B.named
  have hlocks := B.notSynchronized
  subst hsz
  have hD := hD0.self (sz := s.heap.size)
  generalize hAe : va_A (zzX ad cy rb rc (ad 4) (ad 11) pb (ad 4) (ad 20) iX iR iT wT tx iB lB aB iC aC iD lD aD iE aE iK lK aK iW aW iP aP) s.heap.size = A at hD ⊢
  have hA : ∀ q : Nat, s.heap.size ≤ q → A q := fun q h => by rw [← hAe]; exact Or.inr h
  have hS : va_S A s.heap s.heap [] := va_S.rf
  generalize hWQ : (zzX ad cy rb rc (ad 4) (ad 11) pb (ad 4) (ad 20) iX iR iT wT tx iB lB aB iC aC iD lD aD iE aE iK lK aK iW aW iP aP) = WQ
  generalize hQQ : MQ below (cQi (dC, dI) cy q WQ A) args s 0 0 A = QQ
  have hl := lv_entry ([.ref (ad 0), .int a1] : List Value) (n := 2) (Nat.le_of_ble_eq_true rfl)
  have hfr := lg_entry_eq m ([.ref (ad 0), .int a1] : List Value) 2
  rw [← hav] at hfr
  rw [hfr]
  clear hfr hav
  generalize (lg_sl ([.ref (ad 0), .int a1] : List Value) ++ List.replicate (2 - (lg_sl ([.ref (ad 0), .int a1] : List Value)).length) Slot.unset).toArray = ls at hl ⊢
  have hl : lv_has ls 2 [(0, .ref (ad 0)), (1, .int a1)] := hl
  have kf16 := hts _ (List.mem_cons_of_mem _ m_fl_X7_16)
  have ki7 := (fun w h => List.mem_cons_of_mem _ (i_X7 w h) : ∀ w ∈ u_ws RX7 TX7 9, w ∈ wsX7_isQuestion)
  have kf98 := hts _ (List.mem_cons_of_mem _ m_fl_X7_98)
  have ki0 := (fun w h => List.mem_cons_of_mem _ (i_X0 w h) : ∀ w ∈ u_ws RX0 TX0 15, w ∈ wsX7_isQuestion)
  refine (?_ : ∀ (H : Heap) (locs : List Loc), va_P (dC, dI) vwCl (zzX ad cy rb rc (ad 4) (ad 11) pb (ad 4) (ad 20) iX iR iT wT tx iB lB aB iC aC iD lD aD iE aE iK lK aK iW aW iP aP) H → va_D A (zzX ad cy rb rc (ad 4) (ad 11) pb (ad 4) (ad 20) iX iR iT wT tx iB lB aB iC aC iD lD aD iE aE iK lK aK iW aW iP aP) → va_S A s.heap H locs → W p l e ({ frames := 0, cells := 0, slots := 0, locals := 0 } : Room) s m args below meth c H locs 0 0 QQ (F0 m 0 ls [])) s.heap [] hP hD hS
  clear hP hD hS
  intro H locs hP hD hS
  unfold f_X_isQuestion at h
  refine lv_iload_n hx hb dX7_isQuestion_0 rfl (lv_at hl 1 rfl) ?_
  refine lv_if_lt (tgt := 19) hx hb dX7_isQuestion_1 (by decide) (fun cz => ?_) (fun cz => ?_)
  · have h := g_t h cz
    refine lv_iconst (v := 0) hx hb dX7_isQuestion_19 (by decide) ?_
    have h' := Option.some.inj h
    rw [← hQQ]
    exact W.zret (v := (0 : Int32)) hx hb hr rfl (fun t ht hW => ⟨⟨(0 : Int32), (), rfl, by rw [← h'], by rw [← hWQ, ht]; exact hP, va_K.moved hW.alike hK⟩, hS.F ht⟩) hS.2.2 dX7_isQuestion_20
  · have h := g_f h cz
    refine lv_iload_n hx hb dX7_isQuestion_4 rfl (lv_at hl 1 rfl) ?_
    refine lv_aload_n hx hb dX7_isQuestion_5 rfl (lv_at hl 0 rfl) ?_
    refine va_get (D := (dC, dI)) (ci := 7) (v := .ref (ad 4)) (C := RX7) (T := TX7) (N := 9) hx hb hts ki7 hown hK hP 0 rfl rfl 3 (by decide) kf16 (fun _ h9 => h9) rfl dX7_isQuestion_6 ?_
    refine va_get (D := (dC, dI)) (ci := 0) (v := .int (iB 11)) (C := RX0) (T := TX0) (N := 15) hx hb hts ki0 hown hK hP 4 rfl rfl 11 (by decide) kf98 (fun _ h9 => h9) rfl dX7_isQuestion_9 ?_
    refine lv_icmp_ge (tgt := 19) hx hb dX7_isQuestion_12 (by decide) (fun cz => ?_) (fun cz => ?_)
    · have h := g_t h cz
      refine lv_iconst (v := 0) hx hb dX7_isQuestion_19 (by decide) ?_
      have h' := Option.some.inj h
      rw [← hQQ]
      exact W.zret (v := (0 : Int32)) hx hb hr rfl (fun t ht hW => ⟨⟨(0 : Int32), (), rfl, by rw [← h'], by rw [← hWQ, ht]; exact hP, va_K.moved hW.alike hK⟩, hS.F ht⟩) hS.2.2 dX7_isQuestion_20
    · have h := g_f h cz
      refine lv_iconst (v := 1) hx hb dX7_isQuestion_15 (by decide) ?_
      refine lv_goto (tgt := 20) hx hb dX7_isQuestion_16 (by decide) ?_
      have h' := Option.some.inj h
      rw [← hQQ]
      exact W.zret (v := (1 : Int32)) hx hb hr rfl (fun t ht hW => ⟨⟨(1 : Int32), (), rfl, by rw [← h'], by rw [← hWQ, ht]; exact hP, va_K.moved hW.alike hK⟩, hS.F ht⟩) hS.2.2 dX7_isQuestion_20
set_option maxHeartbeats 8000000 in
set_option maxRecDepth 100000 in
theorem c_B_question (l : Launch) (dC : Nat → ClassId) (dI : Nat → Nat → Nat) (cy : Nat → ClassId) (ad : Nat → Nat) (sz : Nat) (a1 : Int32) (iB : Nat → Int32) (lB : Nat → Nat → Int64) (aB : Nat → Nat → Int32) (iC : Nat → Int32) (aC : Nat → Nat → Int32) (q : Int32) (h : f_B_question a1 (iB 11) (aB 10) = some q) : Met l yX0_question wsX0_question ({ frames := 0, cells := 0, slots := 0, locals := 0 } : Room) (cP (dC, dI) cy [.ref (ad 0), .int a1] (zzB ad cy iB lB aB iC aC) sz) (cQi (dC, dI) cy q (zzB ad cy iB lB aB iC aC) (va_A (zzB ad cy iB lB aB iC aC) sz)) 0 0 (va_A (zzB ad cy iB lB aB iC aC) sz) := by
  refine Met.ofW (cc := cX0_question) (maxL := 2) (ret := (some .int)) (by decide) rfl ?_
  intro p e s m args below meth c s₁ B hml hv
  obtain ⟨hav, hsz, hP, hK, hD0, hN⟩ := hv
  have hx := B.exec
  have hb := B.bytes
  have hr := B.returns
  have hts := atoms_spec (ws := wsX0_question) B.pre
  have hown : s.vm.findClass RX0 = some m.cls := findClass_of_methodNamed B.named
  have hlocks := B.notSynchronized
  subst hsz
  have hD := hD0.self (sz := s.heap.size)
  generalize hAe : va_A (zzB ad cy iB lB aB iC aC) s.heap.size = A at hD ⊢
  have hA : ∀ q : Nat, s.heap.size ≤ q → A q := fun q h => by rw [← hAe]; exact Or.inr h
  have hS : va_S A s.heap s.heap [] := va_S.rf
  generalize hWQ : (zzB ad cy iB lB aB iC aC) = WQ
  generalize hQQ : MQ below (cQi (dC, dI) cy q WQ A) args s 0 0 A = QQ
  have hl := lv_entry ([.ref (ad 0), .int a1] : List Value) (n := 2) (Nat.le_of_ble_eq_true rfl)
  have hfr := lg_entry_eq m ([.ref (ad 0), .int a1] : List Value) 2
  rw [← hav] at hfr
  rw [hfr]
  clear hfr hav
  generalize (lg_sl ([.ref (ad 0), .int a1] : List Value) ++ List.replicate (2 - (lg_sl ([.ref (ad 0), .int a1] : List Value)).length) Slot.unset).toArray = ls at hl ⊢
  have hl : lv_has ls 2 [(0, .ref (ad 0)), (1, .int a1)] := hl
  have kf57 := hts _ (List.mem_cons_of_mem _ m_fl_X0_57)
  have ki0 := (fun w h => List.mem_cons_of_mem _ (i_X0 w h) : ∀ w ∈ u_ws RX0 TX0 15, w ∈ wsX0_question)
  have kf32 := hts _ (List.mem_cons_of_mem _ m_fl_X0_32)
  refine (?_ : ∀ (H : Heap) (locs : List Loc), va_P (dC, dI) vwCl (zzB ad cy iB lB aB iC aC) H → va_D A (zzB ad cy iB lB aB iC aC) → va_S A s.heap H locs → W p l e ({ frames := 0, cells := 0, slots := 0, locals := 0 } : Room) s m args below meth c H locs 0 0 QQ (F0 m 0 ls [])) s.heap [] hP hD hS
  clear hP hD hS
  intro H locs hP hD hS
  unfold f_B_question at h
  refine lv_iload_n hx hb dX0_question_0 rfl (lv_at hl 1 rfl) ?_
  refine lv_if_lt (tgt := 21) hx hb dX0_question_1 (by decide) (fun cz => ?_) (fun cz => ?_)
  · have h := g_t h cz
    refine lv_iconst (v := (-1)) hx hb dX0_question_21 (by decide) ?_
    have h' := Option.some.inj h
    rw [← hQQ]
    exact W.iret (v := (-1 : Int32)) hx hb hr (fun t ht hW => ⟨⟨(-1 : Int32), (), rfl, by rw [← h'], by rw [← hWQ, ht]; exact hP, va_K.moved hW.alike hK⟩, hS.F ht⟩) hS.2.2 dX0_question_22
  · have h := g_f h cz
    refine lv_iload_n hx hb dX0_question_4 rfl (lv_at hl 1 rfl) ?_
    refine lv_aload_n hx hb dX0_question_5 rfl (lv_at hl 0 rfl) ?_
    refine va_get (D := (dC, dI)) (ci := 0) (v := .int (iB 11)) (C := RX0) (T := TX0) (N := 15) hx hb hts ki0 hown hK hP 0 rfl rfl 11 (by decide) kf57 (fun _ h9 => h9) rfl dX0_question_6 ?_
    refine lv_icmp_ge (tgt := 21) hx hb dX0_question_9 (by decide) (fun cz => ?_) (fun cz => ?_)
    · have h := g_t h cz
      refine lv_iconst (v := (-1)) hx hb dX0_question_21 (by decide) ?_
      have h' := Option.some.inj h
      rw [← hQQ]
      exact W.iret (v := (-1 : Int32)) hx hb hr (fun t ht hW => ⟨⟨(-1 : Int32), (), rfl, by rw [← h'], by rw [← hWQ, ht]; exact hP, va_K.moved hW.alike hK⟩, hS.F ht⟩) hS.2.2 dX0_question_22
    · have h := g_f h cz
      refine lv_aload_n hx hb dX0_question_12 rfl (lv_at hl 0 rfl) ?_
      refine va_get (D := (dC, dI)) (ci := 0) (v := .ref (ad 5)) (C := RX0) (T := TX0) (N := 15) hx hb hts ki0 hown hK hP 0 rfl rfl 10 (by decide) kf32 (fun _ h9 => h9) rfl dX0_question_13 ?_
      refine lv_iload_n hx hb dX0_question_16 rfl (lv_at hl 1 rfl) ?_
      obtain ⟨g_20, h⟩ := g_n h
      refine va_iald (f := (aB 10)) hx hb hK hP 5 0 rfl rfl g_20 dX0_question_17 ?_
      refine lv_goto (tgt := 22) hx hb dX0_question_18 (by decide) ?_
      have h' := Option.some.inj h
      rw [← hQQ]
      exact W.iret (v := ((aB 10) a1.toNatClampNeg)) hx hb hr (fun t ht hW => ⟨⟨((aB 10) a1.toNatClampNeg), (), rfl, by rw [← h'], by rw [← hWQ, ht]; exact hP, va_K.moved hW.alike hK⟩, hS.F ht⟩) hS.2.2 dX0_question_22
set_option maxHeartbeats 8000000 in
set_option maxRecDepth 100000 in
theorem c_K_isAt (l : Launch) (dC : Nat → ClassId) (dI : Nat → Nat → Nat) (cy : Nat → ClassId) (ad : Nat → Nat) (sz : Nat) (a1 : Int32) (a2 : Int32) (iK : Nat → Int32) (lK : Nat → Nat → Int64) (aK : Nat → Nat → Int32) (iB : Nat → Int32) (lB : Nat → Nat → Int64) (aB : Nat → Nat → Int32) (iC : Nat → Int32) (aC : Nat → Nat → Int32) (q : Int32) (h : f_K_isAt a1 a2 (lK 3) = some q) : Met l yX2_isAt wsX2_isAt ({ frames := 1, cells := 0, slots := 0, locals := 22 } : Room) (cP (dC, dI) cy [.ref (ad 0), .int a1, .int a2] (zzK ad cy (ad 11) (ad 18) iK lK aK iB lB aB iC aC) sz) (cQi (dC, dI) cy q (zzK ad cy (ad 11) (ad 18) iK lK aK iB lB aB iC aC) (va_A (zzK ad cy (ad 11) (ad 18) iK lK aK iB lB aB iC aC) sz)) 0 0 (va_A (zzK ad cy (ad 11) (ad 18) iK lK aK iB lB aB iC aC) sz) := by
  refine Met.ofW (cc := cX2_isAt) (maxL := 3) (ret := (some .boolean)) (by decide) rfl ?_
  intro p e s m args below meth c s₁ B hml hv
  obtain ⟨hav, hsz, hP, hK, hD0, hN⟩ := hv
  have hx := B.exec
  have hb := B.bytes
  have hr := B.returns
  have hts := atoms_spec (ws := wsX2_isAt) B.pre
  have hown : s.vm.findClass RX2 = some m.cls := findClass_of_methodNamed B.named
  have hlocks := B.notSynchronized
  subst hsz
  have hD := hD0.self (sz := s.heap.size)
  generalize hAe : va_A (zzK ad cy (ad 11) (ad 18) iK lK aK iB lB aB iC aC) s.heap.size = A at hD ⊢
  have hA : ∀ q : Nat, s.heap.size ≤ q → A q := fun q h => by rw [← hAe]; exact Or.inr h
  have hS : va_S A s.heap s.heap [] := va_S.rf
  generalize hWQ : (zzK ad cy (ad 11) (ad 18) iK lK aK iB lB aB iC aC) = WQ
  generalize hQQ : MQ below (cQi (dC, dI) cy q WQ A) args s 0 0 A = QQ
  have hl := lv_entry ([.ref (ad 0), .int a1, .int a2] : List Value) (n := 3) (Nat.le_of_ble_eq_true rfl)
  have hfr := lg_entry_eq m ([.ref (ad 0), .int a1, .int a2] : List Value) 3
  rw [← hav] at hfr
  rw [hfr]
  clear hfr hav
  generalize (lg_sl ([.ref (ad 0), .int a1, .int a2] : List Value) ++ List.replicate (3 - (lg_sl ([.ref (ad 0), .int a1, .int a2] : List Value)).length) Slot.unset).toArray = ls at hl ⊢
  have hl : lv_has ls 3 [(0, .ref (ad 0)), (1, .int a1), (2, .int a2)] := hl
  refine (?_ : ∀ (H : Heap) (locs : List Loc), va_P (dC, dI) vwCl (zzK ad cy (ad 11) (ad 18) iK lK aK iB lB aB iC aC) H → va_D A (zzK ad cy (ad 11) (ad 18) iK lK aK iB lB aB iC aC) → va_S A s.heap H locs → W p l e ({ frames := 1, cells := 0, slots := 0, locals := 22 } : Room) s m args below meth c H locs 0 0 QQ (F0 m 0 ls [])) s.heap [] hP hD hS
  clear hP hD hS
  intro H locs hP hD hS
  unfold f_K_isAt at h
  refine lv_aload_n hx hb dX2_isAt_0 rfl (lv_at hl 0 rfl) ?_
  refine lv_iload_n hx hb dX2_isAt_1 rfl (lv_at hl 1 rfl) ?_
  refine lv_iload_n hx hb dX2_isAt_2 rfl (lv_at hl 2 rfl) ?_
  refine lv_bipush (v := 6) hx hb dX2_isAt_3 (by decide) ?_
  refine lv_ishr hx hb dX2_isAt_5 ?_
  obtain ⟨q6, e6, h⟩ := g_b h
  refine callVls (cc := cX2_isAt) (w1 := zzK ad cy (ad 11) (ad 18) iK lK aK iB lB aB iC aC) (As := [.int a1, .int ((a2 >>> ((6 : Int32) &&& 31)))]) (rest := []) ⟨hx, hb, hml, hown, hts⟩ (c_K_truthOf l dC dI cy ad H.size a1 ((a2 >>> ((6 : Int32) &&& 31))) iK lK aK iB lB aB iC aC q6 e6) (cwV 2 hts (goodV m_ml_X2_81 m_im_X2_truthOf m_se_X2_truthOf m_in_X2 m_cd_X2_truthOf) rfl rfl rfl (by decide +kernel) ⟨Nat.le_of_ble_eq_true rfl, Nat.le_of_ble_eq_true rfl⟩) hN hK hP hD hS hA rfl 0 rfl rfl rfl hl.1 rfl (Nat.le_of_ble_eq_true rfl) dX2_isAt_6 ⟨Nat.zero_le _, Nat.zero_le _⟩ (fun H locs hP hD hS => ?_)
  refine lv_iload_n hx hb dX2_isAt_9 rfl (lv_at hl 2 rfl) ?_
  refine lv_lshr (v := (q6 >>> ((a2).toInt64 &&& 63))) hx hb dX2_isAt_10 rfl ?_
  refine lv_lconst (v := 1) hx hb dX2_isAt_11 (by decide) ?_
  refine lv_land hx hb dX2_isAt_12 ?_
  refine lv_lconst (v := 1) hx hb dX2_isAt_13 (by decide) ?_
  refine W.lcmp hx hb dX2_isAt_14 ?_
  refine lv_if_ne (tgt := 22) hx hb dX2_isAt_15 (by decide) (fun cz => ?_) (fun cz => ?_)
  · have h := g_f h (fun z => cz (lg_cmp0.mpr z))
    refine lv_iconst (v := 0) hx hb dX2_isAt_22 (by decide) ?_
    have h' := Option.some.inj h
    rw [← hQQ]
    exact W.zret (v := (0 : Int32)) hx hb hr rfl (fun t ht hW => ⟨⟨(0 : Int32), (), rfl, by rw [← h'], by rw [← hWQ, ht]; exact hP, va_K.moved hW.alike hK⟩, hS.F ht⟩) hS.2.2 dX2_isAt_23
  · have h := g_t h (lg_cmp0.mp cz)
    refine lv_iconst (v := 1) hx hb dX2_isAt_18 (by decide) ?_
    refine lv_goto (tgt := 23) hx hb dX2_isAt_19 (by decide) ?_
    have h' := Option.some.inj h
    rw [← hQQ]
    exact W.zret (v := (1 : Int32)) hx hb hr rfl (fun t ht hW => ⟨⟨(1 : Int32), (), rfl, by rw [← h'], by rw [← hWQ, ht]; exact hP, va_K.moved hW.alike hK⟩, hS.F ht⟩) hS.2.2 dX2_isAt_23
set_option maxHeartbeats 8000000 in
set_option maxRecDepth 100000 in
theorem c_X_at (l : Launch) (dC : Nat → ClassId) (dI : Nat → Nat → Nat) (cy : Nat → ClassId) (ad : Nat → Nat) (sz : Nat) (rb : Nat) (rc : Nat) (pb : Nat) (a1 : Int32) (a2 : Int32) (iX : Nat → Int32) (iR : Nat → Int32) (iT : Nat → Int32) (wT : Int64) (tx : Nat → Int32) (iB : Nat → Int32) (lB : Nat → Nat → Int64) (aB : Nat → Nat → Int32) (iC : Nat → Int32) (aC : Nat → Nat → Int32) (iD : Nat → Int32) (lD : Nat → Nat → Int64) (aD : Nat → Nat → Int32) (iE : Nat → Int32) (aE : Nat → Nat → Int32) (iK : Nat → Int32) (lK : Nat → Nat → Int64) (aK : Nat → Nat → Int32) (iW : Nat → Int32) (aW : Nat → Nat → Int32) (iP : Nat → Int32) (aP : Nat → Nat → Int32) (q : Int32) (h : f_X_at a1 a2 (iX 5) (iB 11) (aB 10) (iK 2) (lK 3) = some q) : Met l yX7_at wsX7_at ({ frames := 2, cells := 0, slots := 0, locals := 44 } : Room) (cP (dC, dI) cy [.ref (ad 0), .int a1, .int a2] (zzX ad cy rb rc (ad 4) (ad 11) pb (ad 4) (ad 20) iX iR iT wT tx iB lB aB iC aC iD lD aD iE aE iK lK aK iW aW iP aP) sz) (cQi (dC, dI) cy q (zzX ad cy rb rc (ad 4) (ad 11) pb (ad 4) (ad 20) iX iR iT wT tx iB lB aB iC aC iD lD aD iE aE iK lK aK iW aW iP aP) (va_A (zzX ad cy rb rc (ad 4) (ad 11) pb (ad 4) (ad 20) iX iR iT wT tx iB lB aB iC aC iD lD aD iE aE iK lK aK iW aW iP aP) sz)) 0 0 (va_A (zzX ad cy rb rc (ad 4) (ad 11) pb (ad 4) (ad 20) iX iR iT wT tx iB lB aB iC aC iD lD aD iE aE iK lK aK iW aW iP aP) sz) := by
  refine Met.ofW (cc := cX7_at) (maxL := 3) (ret := (some .int)) (by decide) rfl ?_
  intro p e s m args below meth c s₁ B hml hv
  obtain ⟨hav, hsz, hP, hK, hD0, hN⟩ := hv
  have hx := B.exec
  have hb := B.bytes
  have hr := B.returns
  have hts := atoms_spec (ws := wsX7_at) B.pre
  have hown : s.vm.findClass RX7 = some m.cls := findClass_of_methodNamed B.named
  have hlocks := B.notSynchronized
  subst hsz
  have hD := hD0.self (sz := s.heap.size)
  generalize hAe : va_A (zzX ad cy rb rc (ad 4) (ad 11) pb (ad 4) (ad 20) iX iR iT wT tx iB lB aB iC aC iD lD aD iE aE iK lK aK iW aW iP aP) s.heap.size = A at hD ⊢
  have hA : ∀ q : Nat, s.heap.size ≤ q → A q := fun q h => by rw [← hAe]; exact Or.inr h
  have hS : va_S A s.heap s.heap [] := va_S.rf
  generalize hWQ : (zzX ad cy rb rc (ad 4) (ad 11) pb (ad 4) (ad 20) iX iR iT wT tx iB lB aB iC aC iD lD aD iE aE iK lK aK iW aW iP aP) = WQ
  generalize hQQ : MQ below (cQi (dC, dI) cy q WQ A) args s 0 0 A = QQ
  have hl := lv_entry ([.ref (ad 0), .int a1, .int a2] : List Value) (n := 3) (Nat.le_of_ble_eq_true rfl)
  have hfr := lg_entry_eq m ([.ref (ad 0), .int a1, .int a2] : List Value) 3
  rw [← hav] at hfr
  rw [hfr]
  clear hfr hav
  generalize (lg_sl ([.ref (ad 0), .int a1, .int a2] : List Value) ++ List.replicate (3 - (lg_sl ([.ref (ad 0), .int a1, .int a2] : List Value)).length) Slot.unset).toArray = ls at hl ⊢
  have hl : lv_has ls 3 [(0, .ref (ad 0)), (1, .int a1), (2, .int a2)] := hl
  have kf70 := hts _ (List.mem_cons_of_mem _ m_fl_X7_70)
  have ki7 := (fun w h => List.mem_cons_of_mem _ (i_X7 w h) : ∀ w ∈ u_ws RX7 TX7 9, w ∈ wsX7_at)
  have kf37 := hts _ (List.mem_cons_of_mem _ m_fl_X7_37)
  have kf16 := hts _ (List.mem_cons_of_mem _ m_fl_X7_16)
  refine (?_ : ∀ (H : Heap) (locs : List Loc), va_P (dC, dI) vwCl (zzX ad cy rb rc (ad 4) (ad 11) pb (ad 4) (ad 20) iX iR iT wT tx iB lB aB iC aC iD lD aD iE aE iK lK aK iW aW iP aP) H → va_D A (zzX ad cy rb rc (ad 4) (ad 11) pb (ad 4) (ad 20) iX iR iT wT tx iB lB aB iC aC iD lD aD iE aE iK lK aK iW aW iP aP) → va_S A s.heap H locs → W p l e ({ frames := 2, cells := 0, slots := 0, locals := 44 } : Room) s m args below meth c H locs 0 0 QQ (F0 m 0 ls [])) s.heap [] hP hD hS
  clear hP hD hS
  intro H locs hP hD hS
  unfold f_X_at at h
  refine lv_aload_n hx hb dX7_at_0 rfl (lv_at hl 0 rfl) ?_
  refine va_get (D := (dC, dI)) (ci := 7) (v := .int (iX 5)) (C := RX7) (T := TX7) (N := 9) hx hb hts ki7 hown hK hP 0 rfl rfl 5 (by decide) kf70 (fun _ h9 => h9) rfl dX7_at_1 ?_
  refine lv_if_ne (tgt := 10) hx hb dX7_at_4 (by decide) (fun cz => ?_) (fun cz => ?_)
  · have h := g_f h cz
    refine lv_aload_n hx hb dX7_at_10 rfl (lv_at hl 0 rfl) ?_
    refine lv_iload_n hx hb dX7_at_11 rfl (lv_at hl 1 rfl) ?_
    obtain ⟨q12, e12, h⟩ := g_b h
    refine callVis (cc := cX7_at) (w1 := zzX ad cy rb rc (ad 4) (ad 11) pb (ad 4) (ad 20) iX iR iT wT tx iB lB aB iC aC iD lD aD iE aE iK lK aK iW aW iP aP) (As := [.int a1]) (rest := []) ⟨hx, hb, hml, hown, hts⟩ (c_X_isQuestion l dC dI cy ad H.size rb rc pb a1 iX iR iT wT tx iB lB aB iC aC iD lD aD iE aE iK lK aK iW aW iP aP q12 e12) (cwV 1 hts (goodV m_ml_X7_152 m_im_X7_isQuestion m_se_X7_isQuestion m_in_X7 m_cd_X7_isQuestion) rfl rfl rfl (by decide +kernel) ⟨Nat.le_of_ble_eq_true rfl, Nat.le_of_ble_eq_true rfl⟩) hN hK hP hD hS hA rfl 0 rfl rfl rfl hl.1 rfl (Nat.le_of_ble_eq_true rfl) dX7_at_12 ⟨Nat.zero_le _, Nat.zero_le _⟩ (fun H locs hP hD hS => ?_)
    refine lv_if_eq (tgt := 29) hx hb dX7_at_15 (by decide) (fun cz => ?_) (fun cz => ?_)
    · have h := g_t h cz
      refine lv_bipush (v := (-102)) hx hb dX7_at_29 (by decide) ?_
      have h' := Option.some.inj h
      rw [← hQQ]
      exact W.iret (v := (-102 : Int32)) hx hb hr (fun t ht hW => ⟨⟨(-102 : Int32), (), rfl, by rw [← h'], by rw [← hWQ, ht]; exact hP, va_K.moved hW.alike hK⟩, hS.F ht⟩) hS.2.2 dX7_at_31
    · have h := g_f h cz
      refine lv_aload_n hx hb dX7_at_18 rfl (lv_at hl 0 rfl) ?_
      refine va_get (D := (dC, dI)) (ci := 7) (v := .ref (ad 36)) (C := RX7) (T := TX7) (N := 9) hx hb hts ki7 hown hK hP 0 rfl rfl 6 (by decide) kf37 (fun _ h9 => h9) rfl dX7_at_19 ?_
      refine lv_iload_n hx hb dX7_at_22 rfl (lv_at hl 2 rfl) ?_
      obtain ⟨q23, e23, h⟩ := g_b h
      refine callVi (cc := cX7_at) (ws' := zzX ad cy rb rc (ad 4) (ad 11) pb (ad 4) (ad 20) iX iR iT wT tx iB lB aB iC aC iD lD aD iE aE iK lK aK iW aW iP aP) (As := [.int a2]) (rest := []) ⟨hx, hb, hml, hown, hts⟩ (c_K_isType l dC dI cy (fun i => ad (([36, 37, 38, 39, 40, 41, 42, 43, 44, 45, 46, 4, 5, 6, 7, 8, 9, 10, 11, 12, 13, 14, 15, 16, 17, 18, 19] : List Nat).getD i 0)) H.size a2 iK lK aK iB lB aB iC aC q23 e23) (cwV 1 hts (goodV m_ml_X7_137 m_im_X2_isType m_se_X2_isType m_in_X2 m_cd_X2_isType) rfl rfl rfl (by decide +kernel) ⟨Nat.le_of_ble_eq_true rfl, Nat.le_of_ble_eq_true rfl⟩) hN hK hP hD hS hA [36, 37, 38, 39, 40, 41, 42, 43, 44, 45, 46, 4, 5, 6, 7, 8, 9, 10, 11, 12, 13, 14, 15, 16, 17, 18, 19] [none, none, none, none, some 11, some 12, some 13, some 14, some 15, some 16, some 17, some 18, some 19, some 20, some 21, some 22, some 23, some 24, some 25, some 26, none, none, none, none, none, none, none, none, none, none, none, none, none, none, none, none, some 0, some 1, some 2, some 3, some 4, some 5, some 6, some 7, some 8, some 9, some 10, none, none, none, none, none, none, none] rfl rfl rfl rfl rfl rfl 36 rfl rfl rfl hl.1 rfl (Nat.le_of_ble_eq_true rfl) dX7_at_23 ⟨Nat.zero_le _, Nat.zero_le _⟩ (fun H locs hP hD hS => ?_)
      refine lv_if_ne (tgt := 32) hx hb dX7_at_26 (by decide) (fun cz => ?_) (fun cz => ?_)
      · have h := g_f h cz
        refine lv_aload_n hx hb dX7_at_32 rfl (lv_at hl 0 rfl) ?_
        refine va_get (D := (dC, dI)) (ci := 7) (v := .ref (ad 36)) (C := RX7) (T := TX7) (N := 9) hx hb hts ki7 hown hK hP 0 rfl rfl 6 (by decide) kf37 (fun _ h9 => h9) rfl dX7_at_33 ?_
        refine lv_aload_n hx hb dX7_at_36 rfl (lv_at hl 0 rfl) ?_
        refine va_get (D := (dC, dI)) (ci := 7) (v := .ref (ad 4)) (C := RX7) (T := TX7) (N := 9) hx hb hts ki7 hown hK hP 0 rfl rfl 3 (by decide) kf16 (fun _ h9 => h9) rfl dX7_at_37 ?_
        refine lv_iload_n hx hb dX7_at_40 rfl (lv_at hl 1 rfl) ?_
        obtain ⟨q41, e41, h⟩ := g_b h
        refine callVi (cc := cX7_at) (ws' := zzX ad cy rb rc (ad 4) (ad 11) pb (ad 4) (ad 20) iX iR iT wT tx iB lB aB iC aC iD lD aD iE aE iK lK aK iW aW iP aP) (As := [.int a1]) (rest := [.ref (ad 36)]) ⟨hx, hb, hml, hown, hts⟩ (c_B_question l dC dI cy (fun i => ad (i + 4)) H.size a1 iB lB aB iC aC q41 e41) (cwV 1 hts (goodV m_ml_X7_155 m_im_X0_question m_se_X0_question m_in_X0 m_cd_X0_question) rfl rfl rfl (by decide +kernel) ⟨Nat.le_of_ble_eq_true rfl, Nat.le_of_ble_eq_true rfl⟩) hN hK hP hD hS hA [4, 5, 6, 7, 8, 9, 10, 11, 12, 13, 14, 15, 16, 17, 18, 19] [none, none, none, none, some 0, some 1, some 2, some 3, some 4, some 5, some 6, some 7, some 8, some 9, some 10, some 11, some 12, some 13, some 14, some 15, none, none, none, none, none, none, none, none, none, none, none, none, none, none, none, none, none, none, none, none, none, none, none, none, none, none, none, none, none, none, none, none, none, none] rfl rfl rfl rfl rfl rfl 4 rfl rfl rfl hl.1 rfl (Nat.le_of_ble_eq_true rfl) dX7_at_41 ⟨Nat.zero_le _, Nat.zero_le _⟩ (fun H locs hP hD hS => ?_)
        refine lv_iload_n hx hb dX7_at_44 rfl (lv_at hl 2 rfl) ?_
        obtain ⟨q45, e45, h⟩ := g_b h
        refine callVi (cc := cX7_at) (ws' := zzX ad cy rb rc (ad 4) (ad 11) pb (ad 4) (ad 20) iX iR iT wT tx iB lB aB iC aC iD lD aD iE aE iK lK aK iW aW iP aP) (As := [.int q41, .int a2]) (rest := []) ⟨hx, hb, hml, hown, hts⟩ (c_K_isAt l dC dI cy (fun i => ad (([36, 37, 38, 39, 40, 41, 42, 43, 44, 45, 46, 4, 5, 6, 7, 8, 9, 10, 11, 12, 13, 14, 15, 16, 17, 18, 19] : List Nat).getD i 0)) H.size q41 a2 iK lK aK iB lB aB iC aC q45 e45) (cwV 2 hts (goodV m_ml_X7_158 m_im_X2_isAt m_se_X2_isAt m_in_X2 m_cd_X2_isAt) rfl rfl rfl (by decide +kernel) ⟨Nat.le_of_ble_eq_true rfl, Nat.le_of_ble_eq_true rfl⟩) hN hK hP hD hS hA [36, 37, 38, 39, 40, 41, 42, 43, 44, 45, 46, 4, 5, 6, 7, 8, 9, 10, 11, 12, 13, 14, 15, 16, 17, 18, 19] [none, none, none, none, some 11, some 12, some 13, some 14, some 15, some 16, some 17, some 18, some 19, some 20, some 21, some 22, some 23, some 24, some 25, some 26, none, none, none, none, none, none, none, none, none, none, none, none, none, none, none, none, some 0, some 1, some 2, some 3, some 4, some 5, some 6, some 7, some 8, some 9, some 10, none, none, none, none, none, none, none] rfl rfl rfl rfl rfl rfl 36 rfl rfl rfl hl.1 rfl (Nat.le_of_ble_eq_true rfl) dX7_at_45 ⟨Nat.zero_le _, Nat.zero_le _⟩ (fun H locs hP hD hS => ?_)
        obtain ⟨q48, e48, h⟩ := g_b h
        refine callSi (cc := cX7_at) (ws' := zzX ad cy rb rc (ad 4) (ad 11) pb (ad 4) (ad 20) iX iR iT wT tx iB lB aB iC aC iD lD aD iE aE iK lK aK iW aW iP aP) (As := [.int q45]) (rest := []) ⟨hx, hb, hml, hown, hts⟩ (c_X_oneIf l dC dI cy ad H.size q45 q48 e48) (va_cwS 1 hts (goodS m_ml_X7_148 m_st_X7_oneIf m_in_X7 m_cd_X7_oneIf) rfl rfl rfl (by decide +kernel) ⟨Nat.le_of_ble_eq_true rfl, Nat.le_of_ble_eq_true rfl⟩) hN hK hP hD hS hA [] [none, none, none, none, none, none, none, none, none, none, none, none, none, none, none, none, none, none, none, none, none, none, none, none, none, none, none, none, none, none, none, none, none, none, none, none, none, none, none, none, none, none, none, none, none, none, none, none, none, none, none, none, none, none] rfl rfl rfl rfl rfl rfl rfl hl.1 rfl (Nat.le_of_ble_eq_true rfl) dX7_at_48 ⟨Nat.zero_le _, Nat.zero_le _⟩ (fun H locs hP hD hS => ?_)
        have h' := Option.some.inj h
        rw [← hQQ]
        exact W.iret (v := q48) hx hb hr (fun t ht hW => ⟨⟨q48, (), rfl, by rw [← h'], by rw [← hWQ, ht]; exact hP, va_K.moved hW.alike hK⟩, hS.F ht⟩) hS.2.2 dX7_at_51
      · have h := g_t h cz
        refine lv_bipush (v := (-102)) hx hb dX7_at_29 (by decide) ?_
        have h' := Option.some.inj h
        rw [← hQQ]
        exact W.iret (v := (-102 : Int32)) hx hb hr (fun t ht hW => ⟨⟨(-102 : Int32), (), rfl, by rw [← h'], by rw [← hWQ, ht]; exact hP, va_K.moved hW.alike hK⟩, hS.F ht⟩) hS.2.2 dX7_at_31
  · have h := g_t h cz
    refine lv_bipush (v := (-101)) hx hb dX7_at_7 (by decide) ?_
    have h' := Option.some.inj h
    rw [← hQQ]
    exact W.iret (v := (-101 : Int32)) hx hb hr (fun t ht hW => ⟨⟨(-101 : Int32), (), rfl, by rw [← h'], by rw [← hWQ, ht]; exact hP, va_K.moved hW.alike hK⟩, hS.F ht⟩) hS.2.2 dX7_at_9
set_option maxHeartbeats 8000000 in
set_option maxRecDepth 100000 in
theorem c_K_leastWhere_standing (l : Launch) (dC : Nat → ClassId) (dI : Nat → Nat → Nat) (cy : Nat → ClassId) (ad : Nat → Nat) (sz : Nat) (N : Nat) (a1 : Int32) (iK : Nat → Int32) (lK : Nat → Nat → Int64) (aK : Nat → Nat → Int32) (iB : Nat → Int32) (lB : Nat → Nat → Int64) (aB : Nat → Nat → Int32) (iC : Nat → Int32) (aC : Nat → Nat → Int32) (q : Int32) (h : f_K_leastWhere_standing N a1 (lK 3) (lK 9) = some q) : Met l yX2_leastWhere wsX2_leastWhere ({ frames := 2, cells := 0, slots := 0, locals := 42 } : Room) (cP (dC, dI) cy [.ref (ad 0), .int a1, .ref (ad 6)] (zzK ad cy (ad 11) (ad 18) iK lK aK iB lB aB iC aC) sz) (cQi (dC, dI) cy q (zzK ad cy (ad 11) (ad 18) iK lK aK iB lB aB iC aC) (va_A (zzK ad cy (ad 11) (ad 18) iK lK aK iB lB aB iC aC) sz)) 0 0 (va_A (zzK ad cy (ad 11) (ad 18) iK lK aK iB lB aB iC aC) sz) := by
  refine Met.ofW (cc := cX2_leastWhere) (maxL := 6) (ret := (some .int)) (by decide) rfl ?_
  intro p e s m args below meth c s₁ B hml hv
  obtain ⟨hav, hsz, hP, hK, hD0, hN⟩ := hv
  have hx := B.exec
  have hb := B.bytes
  have hr := B.returns
  have hts := atoms_spec (ws := wsX2_leastWhere) B.pre
  have hown : s.vm.findClass RX2 = some m.cls := findClass_of_methodNamed B.named
  have hlocks := B.notSynchronized
  subst hsz
  have hD := hD0.self (sz := s.heap.size)
  generalize hAe : va_A (zzK ad cy (ad 11) (ad 18) iK lK aK iB lB aB iC aC) s.heap.size = A at hD ⊢
  have hA : ∀ q : Nat, s.heap.size ≤ q → A q := fun q h => by rw [← hAe]; exact Or.inr h
  have hS : va_S A s.heap s.heap [] := va_S.rf
  generalize hWQ : (zzK ad cy (ad 11) (ad 18) iK lK aK iB lB aB iC aC) = WQ
  generalize hQQ : MQ below (cQi (dC, dI) cy q WQ A) args s 0 0 A = QQ
  have hl := lv_entry ([.ref (ad 0), .int a1, .ref (ad 6)] : List Value) (n := 6) (Nat.le_of_ble_eq_true rfl)
  have hfr := lg_entry_eq m ([.ref (ad 0), .int a1, .ref (ad 6)] : List Value) 6
  rw [← hav] at hfr
  rw [hfr]
  clear hfr hav
  generalize (lg_sl ([.ref (ad 0), .int a1, .ref (ad 6)] : List Value) ++ List.replicate (6 - (lg_sl ([.ref (ad 0), .int a1, .ref (ad 6)] : List Value)).length) Slot.unset).toArray = ls at hl ⊢
  have hl : lv_has ls 6 [(0, .ref (ad 0)), (1, .int a1), (2, .ref (ad 6))] := hl
  refine (?_ : ∀ (H : Heap) (locs : List Loc), va_P (dC, dI) vwCl (zzK ad cy (ad 11) (ad 18) iK lK aK iB lB aB iC aC) H → va_D A (zzK ad cy (ad 11) (ad 18) iK lK aK iB lB aB iC aC) → va_S A s.heap H locs → W p l e ({ frames := 2, cells := 0, slots := 0, locals := 42 } : Room) s m args below meth c H locs 0 0 QQ (F0 m 0 ls [])) s.heap [] hP hD hS
  clear hP hD hS
  have B2 : ∀ (n : Nat) (v1 : Int32) (v3 : Int32) (H : Heap) (locs : List Loc) (ls : Array Slot), f_K_leastWhere_standing_2 N (lK 3) (lK 9) v1 n v3 = some q → va_P (dC, dI) vwCl (zzK ad cy (ad 11) (ad 18) iK lK aK iB lB aB iC aC) H → va_D A (zzK ad cy (ad 11) (ad 18) iK lK aK iB lB aB iC aC) → va_S A s.heap H locs → lv_has ls 6 [(0, .ref (ad 0)), (1, .int v1), (2, .ref (ad 6)), (3, .int v3)] → W p l e ({ frames := 2, cells := 0, slots := 0, locals := 42 } : Room) s m args below meth c H locs 0 0 QQ (F0 m 2 ls []) := by
    intro n
    induction n with
    | zero =>
      intro v1 v3 H locs ls h hP hD hS hl
      rw [f_K_leastWhere_standing_2] at h
      cases h
    | succ n ih =>
      intro v1 v3 H locs ls h hP hD hS hl
      rw [f_K_leastWhere_standing_2] at h
      refine lv_iload_n hx hb dX2_leastWhere_2 rfl (lv_at hl 3 rfl) ?_
      refine lv_bipush (v := 8) hx hb dX2_leastWhere_3 (by decide) ?_
      refine lv_icmp_ge (tgt := 50) hx hb dX2_leastWhere_5 (by decide) (fun cz => ?_) (fun cz => ?_)
      · have h := g_t h cz
        refine lv_iconst (v := (-1)) hx hb dX2_leastWhere_50 (by decide) ?_
        have h' := Option.some.inj h
        rw [← hQQ]
        exact W.iret (v := (-1 : Int32)) hx hb hr (fun t ht hW => ⟨⟨(-1 : Int32), (), rfl, by rw [← h'], by rw [← hWQ, ht]; exact hP, va_K.moved hW.alike hK⟩, hS.F ht⟩) hS.2.2 dX2_leastWhere_51
      · have h := g_f h cz
        refine lv_iload_n hx hb dX2_leastWhere_8 rfl (lv_at hl 3 rfl) ?_
        refine lv_aload_n hx hb dX2_leastWhere_9 rfl (lv_at hl 2 rfl) ?_
        refine va_alen (v := (8 : Int32)) hx hb hK hP 6 2 rfl rfl rfl dX2_leastWhere_10 ?_
        refine lv_icmp_ge (tgt := 50) hx hb dX2_leastWhere_11 (by decide) (fun cz => ?_) (fun cz => ?_)
        · have h := g_t h cz
          refine lv_iconst (v := (-1)) hx hb dX2_leastWhere_50 (by decide) ?_
          have h' := Option.some.inj h
          rw [← hQQ]
          exact W.iret (v := (-1 : Int32)) hx hb hr (fun t ht hW => ⟨⟨(-1 : Int32), (), rfl, by rw [← h'], by rw [← hWQ, ht]; exact hP, va_K.moved hW.alike hK⟩, hS.F ht⟩) hS.2.2 dX2_leastWhere_51
        · have h := g_f h cz
          refine lv_aload_n hx hb dX2_leastWhere_14 rfl (lv_at hl 2 rfl) ?_
          refine lv_iload_n hx hb dX2_leastWhere_15 rfl (lv_at hl 3 rfl) ?_
          obtain ⟨g_22, h⟩ := g_n h
          refine va_lald (f := (lK 9)) hx hb hK hP 6 2 rfl rfl g_22 dX2_leastWhere_16 ?_
          refine lv_aload_n hx hb dX2_leastWhere_17 rfl (lv_at hl 0 rfl) ?_
          refine lv_iload_n hx hb dX2_leastWhere_18 rfl (lv_at hl 1 rfl) ?_
          refine lv_iload_n hx hb dX2_leastWhere_19 rfl (lv_at hl 3 rfl) ?_
          obtain ⟨q20, e20, h⟩ := g_b h
          refine callVls (cc := cX2_leastWhere) (w1 := zzK ad cy (ad 11) (ad 18) iK lK aK iB lB aB iC aC) (As := [.int v1, .int v3]) (rest := [.long (((lK 9) v3.toNatClampNeg))]) ⟨hx, hb, hml, hown, hts⟩ (c_K_truthOf l dC dI cy ad H.size v1 v3 iK lK aK iB lB aB iC aC q20 e20) (cwV 2 hts (goodV m_ml_X2_81 m_im_X2_truthOf m_se_X2_truthOf m_in_X2 m_cd_X2_truthOf) rfl rfl rfl (by decide +kernel) ⟨Nat.le_of_ble_eq_true rfl, Nat.le_of_ble_eq_true rfl⟩) hN hK hP hD hS hA rfl 0 rfl rfl rfl hl.1 rfl (Nat.le_of_ble_eq_true rfl) dX2_leastWhere_20 ⟨Nat.zero_le _, Nat.zero_le _⟩ (fun H locs hP hD hS => ?_)
          refine lv_land hx hb dX2_leastWhere_23 ?_
          refine lv_lstore (lv' := [(4, .long ((((lK 9) v3.toNatClampNeg) &&& q20))), (0, .ref (ad 0)), (1, .int v1), (2, .ref (ad 6)), (3, .int v3)]) hx hb dX2_leastWhere_24 hl (by decide) rfl (fun ls hl => ?_)
          refine lv_lload hx hb dX2_leastWhere_26 (lv_at hl 0 rfl) ?_
          refine lv_lconst (v := 0) hx hb dX2_leastWhere_28 (by decide) ?_
          refine W.lcmp hx hb dX2_leastWhere_29 ?_
          refine lv_if_eq (tgt := 44) hx hb dX2_leastWhere_30 (by decide) (fun cz => ?_) (fun cz => ?_)
          · have h := g_t h (lg_cmp0.mp cz)
            refine lv_iinc (v := (v3 + (1 : Int32))) (lv' := [(3, .int ((v3 + (1 : Int32)))), (4, .long ((((lK 9) v3.toNatClampNeg) &&& q20))), (0, .ref (ad 0)), (1, .int v1), (2, .ref (ad 6))]) hx hb dX2_leastWhere_44 hl (k := 4) rfl rfl (by decide) rfl (fun ls hl => ?_)
            refine lv_goto (tgt := 2) hx hb dX2_leastWhere_47 (by decide) ?_
            exact ih v1 ((v3 + (1 : Int32))) H locs ls h hP hD hS (lv_sub hl [2, 3, 4, 0] rfl)
          · have h := g_f h (fun z => cz (lg_cmp0.mpr z))
            refine lv_bipush (v := 64) hx hb dX2_leastWhere_33 (by decide) ?_
            refine lv_iload_n hx hb dX2_leastWhere_35 rfl (lv_at hl 4 rfl) ?_
            refine lv_imul hx hb dX2_leastWhere_36 ?_
            refine lv_lload hx hb dX2_leastWhere_37 (lv_at hl 0 rfl) ?_
            obtain ⟨q39, e39, h⟩ := g_b h
            refine callSi (cc := cX2_leastWhere) (ws' := zzK ad cy (ad 11) (ad 18) iK lK aK iB lB aB iC aC) (As := [.long ((((lK 9) v3.toNatClampNeg) &&& q20))]) (rest := [.int (((64 : Int32) * v3))]) ⟨hx, hb, hml, hown, hts⟩ (c_K_lowestBit l dC dI cy ad H.size ((((lK 9) v3.toNatClampNeg) &&& q20)) q39 e39) (va_cwS 1 hts (goodS m_ml_X2_180 m_st_X2_lowestBit m_in_X2 m_cd_X2_lowestBit) rfl rfl rfl (by decide +kernel) ⟨Nat.le_of_ble_eq_true rfl, Nat.le_of_ble_eq_true rfl⟩) hN hK hP hD hS hA [] [none, none, none, none, none, none, none, none, none, none, none, none, none, none, none, none, none, none, none, none, none, none, none, none, none, none, none] rfl rfl rfl rfl rfl rfl rfl hl.1 rfl (Nat.le_of_ble_eq_true rfl) dX2_leastWhere_39 ⟨Nat.zero_le _, Nat.zero_le _⟩ (fun H locs hP hD hS => ?_)
            refine lv_iadd hx hb dX2_leastWhere_42 ?_
            have h' := Option.some.inj h
            rw [← hQQ]
            exact W.iret (v := (((64 : Int32) * v3) + q39)) hx hb hr (fun t ht hW => ⟨⟨(((64 : Int32) * v3) + q39), (), rfl, by rw [← h'], by rw [← hWQ, ht]; exact hP, va_K.moved hW.alike hK⟩, hS.F ht⟩) hS.2.2 dX2_leastWhere_43
  intro H locs hP hD hS
  unfold f_K_leastWhere_standing at h
  refine lv_iconst (v := 0) hx hb dX2_leastWhere_0 (by decide) ?_
  refine lv_istore_n (lv' := [(3, .int ((0 : Int32))), (0, .ref (ad 0)), (1, .int a1), (2, .ref (ad 6))]) hx hb dX2_leastWhere_1 rfl hl (by decide) rfl (fun ls hl => ?_)
  exact B2 N a1 ((0 : Int32)) H locs ls h hP hD hS (lv_sub hl [1, 2, 3, 0] rfl)
