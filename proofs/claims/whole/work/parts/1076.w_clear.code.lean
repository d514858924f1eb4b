def f_W_clear_12 (N : Nat) (iW1 : Int32) (iW4 : Int32) (aW2 : Nat → Int32) (x_iW1 : Int32) (x_iW4 : Int32) : Nat → Int32 → (Nat → Int32) → Option (Int32 × Int32 × (Nat → Int32))
  | 0, _, _ => none
  | n + 1, v1, x_aW2 => if (512 : Int32) ≤ v1 then (some (x_iW1, x_iW4, x_aW2)) else (if v1 < 0 ∨ 512 ≤ v1.toNatClampNeg then none else (f_W_clear_12 N iW1 iW4 aW2 x_iW1 x_iW4 n ((v1 + (1 : Int32))) ((upd x_aW2 v1.toNatClampNeg (vp_nar .short ((-1 : Int32)))))))
def f_W_clear (N : Nat) (iW1 : Int32) (iW4 : Int32) (aW2 : Nat → Int32) : Option (Int32 × Int32 × (Nat → Int32)) := f_W_clear_12 N iW1 iW4 aW2 ((0 : Int32)) ((0 : Int32)) N ((0 : Int32)) aW2
set_option maxHeartbeats 8000000 in
set_option maxRecDepth 100000 in
theorem c_W_clear (l : Launch) (dC : Nat → ClassId) (dI : Nat → Nat → Nat) (cy : Nat → ClassId) (ad : Nat → Nat) (sz : Nat) (N : Nat) (iW : Nat → Int32) (aW : Nat → Nat → Int32) (q : Int32 × Int32 × (Nat → Int32)) (h : f_W_clear N (iW 1) (iW 4) (aW 2) = some q) : Met l yX6_clear wsX6_clear ({ frames := 0, cells := 0, slots := 0, locals := 0 } : Room) (cP (dC, dI) cy [.ref (ad 0)] (zzw ad cy iW aW) sz) (cQv (dC, dI) cy (zzw ad cy (us iW [(1, q.1), (4, q.2.1)]) (us aW [(2, q.2.2)])) (va_A (zzw ad cy iW aW) sz)) 0 0 (va_A (zzw ad cy iW aW) sz) := by
  refine Met.ofW (cc := cX6_clear) (maxL := 2) (ret := none) (by decide) rfl ?_
  intro p e s m args below meth c s₁ B hml hv
  obtain ⟨hav, hsz, hP, hK, hD0, hN⟩ := hv
  have hx := B.exec
  have hb := B.bytes
  have hr := B.returns
  have hts := atoms_spec (ws := wsX6_clear) B.pre
  have hown : s.vm.findClass RX6 = some m.cls := findClass_of_methodNamed B.named
  have hlocks := B.notSynchronized
  subst hsz
  have hD := hD0.self (sz := s.heap.size)
  generalize hAe : va_A (zzw ad cy iW aW) s.heap.size = A at hD ⊢
  have hA : ∀ q : Nat, s.heap.size ≤ q → A q := fun q h => by rw [← hAe]; exact Or.inr h
  have hS : va_S A s.heap s.heap [] := va_S.rf
  generalize hWQ : (zzw ad cy (us iW [(1, q.1), (4, q.2.1)]) (us aW [(2, q.2.2)])) = WQ
  generalize hQQ : MQ below (cQv (dC, dI) cy WQ A) args s 0 0 A = QQ
  have hl := lv_entry ([.ref (ad 0)] : List Value) (n := 2) (Nat.le_of_ble_eq_true rfl)
  have hfr := lg_entry_eq m ([.ref (ad 0)] : List Value) 2
  rw [← hav] at hfr
  rw [hfr]
  clear hfr hav
  generalize (lg_sl ([.ref (ad 0)] : List Value) ++ List.replicate (2 - (lg_sl ([.ref (ad 0)] : List Value)).length) Slot.unset).toArray = ls at hl ⊢
  have hl : lv_has ls 2 [(0, .ref (ad 0))] := hl
  have kf15 := hts _ (List.mem_cons_of_mem _ m_fl_X6_15)
  have ki6 := (fun w h => List.mem_cons_of_mem _ (i_X6 w h) : ∀ w ∈ u_ws RX6 TX6 5, w ∈ wsX6_clear)
  have kf22 := hts _ (List.mem_cons_of_mem _ m_fl_X6_22)
  have kf26 := hts _ (List.mem_cons_of_mem _ m_fl_X6_26)
  refine (?_ : ∀ (H : Heap) (locs : List Loc), va_P (dC, dI) vwCl (zzw ad cy iW aW) H → va_D A (zzw ad cy iW aW) → va_S A s.heap H locs → W p l e ({ frames := 0, cells := 0, slots := 0, locals := 0 } : Room) s m args below meth c H locs 0 0 QQ (F0 m 0 ls [])) s.heap [] hP hD hS
  clear hP hD hS
  have B12 : ∀ (n : Nat) (x_iW1 : Int32) (x_iW4 : Int32) (v1 : Int32) (x_aW2 : Nat → Int32) (H : Heap) (locs : List Loc) (ls : Array Slot), f_W_clear_12 N (iW 1) (iW 4) (aW 2) x_iW1 x_iW4 n v1 x_aW2 = some q → va_P (dC, dI) vwCl (zzw ad cy (us iW [(1, x_iW1), (4, x_iW4)]) (us aW [(2, x_aW2)])) H → va_D A (zzw ad cy (us iW [(1, x_iW1), (4, x_iW4)]) (us aW [(2, x_aW2)])) → va_S A s.heap H locs → lv_has ls 2 [(0, .ref (ad 0)), (1, .int v1)] → W p l e ({ frames := 0, cells := 0, slots := 0, locals := 0 } : Room) s m args below meth c H locs 0 0 QQ (F0 m 12 ls []) := by
    intro n
    induction n with
    | zero =>
      intro x_iW1 x_iW4 v1 x_aW2 H locs ls h hP hD hS hl
      rw [f_W_clear_12] at h
      cases h
    | succ n ih =>
      intro x_iW1 x_iW4 v1 x_aW2 H locs ls h hP hD hS hl
      rw [f_W_clear_12] at h
      refine lv_iload_n hx hb dX6_clear_12 rfl (lv_at hl 1 rfl) ?_
      refine lv_sipush (v := 512) hx hb dX6_clear_13 (by decide) ?_
      refine lv_icmp_ge (tgt := 32) hx hb dX6_clear_16 (by decide) (fun cz => ?_) (fun cz => ?_)
      · have h := g_t h cz
        have h' := Option.some.inj h
        rw [← hQQ]
        exact W.vret hx hb hr (fun t ht hW => ⟨⟨(), rfl, trivial, by rw [← hWQ, ← h', ht]; exact hP, va_K.moved hW.alike hK⟩, hS.F ht⟩) hS.2.2 dX6_clear_32
      · have h := g_f h cz
        refine lv_aload_n hx hb dX6_clear_19 rfl (lv_at hl 0 rfl) ?_
        refine va_get (D := (dC, dI)) (ci := 6) (v := .ref (ad 2)) (C := RX6) (T := TX6) (N := 5) hx hb hts ki6 hown hK hP 0 rfl rfl 2 (by decide) kf15 (fun _ h9 => h9) rfl dX6_clear_20 ?_
        refine lv_iload_n hx hb dX6_clear_23 rfl (lv_at hl 1 rfl) ?_
        refine lv_iconst (v := (-1)) hx hb dX6_clear_24 (by decide) ?_
        obtain ⟨g_32, h⟩ := g_n h
        refine va_sast (f := x_aW2) hx hb hK hP hD hS 2 3 rfl rfl g_32 dX6_clear_25 (fun H locs hP hD hS => ?_)
        have hP : va_P (dC, dI) vwCl (zzw ad cy (us iW [(1, x_iW1), (4, x_iW4)]) (us aW [(2, (upd x_aW2 v1.toNatClampNeg (vp_nar .short ((-1 : Int32)))))])) H := Eq.mp (congrArg (fun w => va_P (dC, dI) vwCl w H) (stw_aW2 ad cy (us iW [(1, x_iW1), (4, x_iW4)]) aW [(2, x_aW2)] ((upd x_aW2 v1.toNatClampNeg (vp_nar .short ((-1 : Int32))))))) hP
        have hD : va_D A (zzw ad cy (us iW [(1, x_iW1), (4, x_iW4)]) (us aW [(2, (upd x_aW2 v1.toNatClampNeg (vp_nar .short ((-1 : Int32)))))])) := Eq.mp (congrArg (fun w => va_D A w) (stw_aW2 ad cy (us iW [(1, x_iW1), (4, x_iW4)]) aW [(2, x_aW2)] ((upd x_aW2 v1.toNatClampNeg (vp_nar .short ((-1 : Int32))))))) hD
        refine lv_iinc (v := (v1 + (1 : Int32))) (lv' := [(1, .int ((v1 + (1 : Int32)))), (0, .ref (ad 0))]) hx hb dX6_clear_26 hl (k := 1) rfl rfl (by decide) rfl (fun ls hl => ?_)
        refine lv_goto (tgt := 12) hx hb dX6_clear_29 (by decide) ?_
        exact ih x_iW1 x_iW4 ((v1 + (1 : Int32))) ((upd x_aW2 v1.toNatClampNeg (vp_nar .short ((-1 : Int32))))) H locs ls h hP hD hS (lv_sub hl [1, 0] rfl)
  intro H locs hP hD hS
  unfold f_W_clear at h
  refine lv_aload_n hx hb dX6_clear_0 rfl (lv_at hl 0 rfl) ?_
  refine lv_iconst (v := 0) hx hb dX6_clear_1 (by decide) ?_
  refine va_put (D := (dC, dI)) (ci := 6) (v := .int ((0 : Int32))) (ty := .int) (C := RX6) (T := TX6) (N := 5) hx hb hts ki6 tyX6 tyX6_ok nmX6 hown hK hP hD hS 0 rfl rfl 1 (by decide) kf22 (fun _ h9 => h9) rfl (by decide +kernel) rfl rfl (Nat.le_of_ble_eq_true rfl) dX6_clear_2 (fun H locs hP hD hS => ?_)
  have hP : va_P (dC, dI) vwCl (zzw ad cy (us iW [(1, (0 : Int32))]) aW) H := Eq.mp (congrArg (fun w => va_P (dC, dI) vwCl w H) (sfw_iW1 ad cy iW aW ((0 : Int32)))) hP
  have hD : va_D A (zzw ad cy (us iW [(1, (0 : Int32))]) aW) := Eq.mp (congrArg (fun w => va_D A w) (sfw_iW1 ad cy iW aW ((0 : Int32)))) hD
  refine lv_aload_n hx hb dX6_clear_5 rfl (lv_at hl 0 rfl) ?_
  refine lv_iconst (v := 0) hx hb dX6_clear_6 (by decide) ?_
  refine va_put (D := (dC, dI)) (ci := 6) (v := .int ((0 : Int32))) (ty := .int) (C := RX6) (T := TX6) (N := 5) hx hb hts ki6 tyX6 tyX6_ok nmX6 hown hK hP hD hS 0 rfl rfl 4 (by decide) kf26 (fun _ h9 => h9) rfl (by decide +kernel) rfl rfl (Nat.le_of_ble_eq_true rfl) dX6_clear_7 (fun H locs hP hD hS => ?_)
  have hP : va_P (dC, dI) vwCl (zzw ad cy (us iW [(1, (0 : Int32)), (4, (0 : Int32))]) aW) H := Eq.mp (congrArg (fun w => va_P (dC, dI) vwCl w H) (stw_iW4 ad cy iW aW [(1, (0 : Int32))] ((0 : Int32)))) hP
  have hD : va_D A (zzw ad cy (us iW [(1, (0 : Int32)), (4, (0 : Int32))]) aW) := Eq.mp (congrArg (fun w => va_D A w) (stw_iW4 ad cy iW aW [(1, (0 : Int32))] ((0 : Int32)))) hD
  refine lv_iconst (v := 0) hx hb dX6_clear_10 (by decide) ?_
  refine lv_istore_n (lv' := [(1, .int ((0 : Int32))), (0, .ref (ad 0))]) hx hb dX6_clear_11 rfl hl (by decide) rfl (fun ls hl => ?_)
  exact B12 N ((0 : Int32)) ((0 : Int32)) ((0 : Int32)) (aW 2) H locs ls h hP hD hS (lv_sub hl [1, 0] rfl)
