/-! Calls, with what comes behind them as the callee's post; names for values; small facts that the walks ask for. -/
section NM
variable {G : GG} {y : MI} {d pc : Nat} {lv : LV} {st : List AV} {h : Hp} {bc bs : Nat} {Q : Pst}
theorem wq_topi {x : Int32} (K : ∀ z, z = x → WQ G y d pc lv (vi z :: st) h bc bs Q) : WQ G y d pc lv (vi x :: st) h bc bs Q := K x rfl
theorem wq_topr {x : Option Nat} (K : ∀ z, z = x → WQ G y d pc lv (vr z :: st) h bc bs Q) : WQ G y d pc lv (vr x :: st) h bc bs Q := K x rfl
theorem wq_topl {x : Int64} (K : ∀ z, z = x → WQ G y d pc lv (vl z :: st) h bc bs Q) : WQ G y d pc lv (vl x :: st) h bc bs Q := K x rfl
theorem wq_topf {x : UInt32} (K : ∀ z, z = x → WQ G y d pc lv (vf z :: st) h bc bs Q) : WQ G y d pc lv (vf x :: st) h bc bs Q := K x rfl
theorem wq_heap (K : ∀ z, z = h → WQ G y d pc lv st z bc bs Q) : WQ G y d pc lv st h bc bs Q := K h rfl
end NM
theorem arTy_101 {k : Nat} (h : k = 101) : arTy k = some .int := by rw [h]; rfl
theorem arTy_102 {k : Nat} (h : k = 102) : arTy k = some .boolean := by rw [h]; rfl
theorem arTy_110 {k : Nat} (h : k = 110) : arTy k = some (.object "PersistentParlour$Value") := by rw [h]; rfl
theorem arTy_111 {k : Nat} (h : k = 111) : arTy k = some (.object "PersistentParlour$Sequence") := by rw [h]; rfl
theorem arTy_112 {k : Nat} (h : k = 112) : arTy k = some (.object "PersistentParlour$Reference") := by rw [h]; rfl
theorem arTy_113 {k : Nat} (h : k = 113) : arTy k = some (.object "PersistentParlour$Transaction") := by rw [h]; rfl
theorem arTy_114 {k : Nat} (h : k = 114) : arTy k = some (.object "PersistentParlour$Agent") := by rw [h]; rfl
theorem arTy_115 {k : Nat} (h : k = 115) : arTy k = some (.object "PersistentParlour$WaitingRow") := by rw [h]; rfl
theorem arTy_116 {k : Nat} (h : k = 116) : arTy k = some (.object "PersistentParlour$Node") := by rw [h]; rfl
theorem arTy_118 {k : Nat} (h : k = 118) : arTy k = some (.object "java/lang/Object") := by rw [h]; rfl
theorem put_n {ty : FieldType} (x : Option Nat) : narrow ty (toV (vr x)) = toV (vr x) := by
  cases x <;> cases ty <;> rfl
theorem put_f {ty : FieldType} {x : Option Nat} (h : refKind ty = true) : fits ty (toV (vr x)) = true := by
  cases x <;> cases ty <;> first | rfl | cases h
theorem nar_z {x : Int32} (h : x = 0 ∨ x = 1) : narrow .boolean (.int x) = .int x := by
  rcases h with rfl | rfl <;> rfl
theorem fit_z {x : Int32} (h : x = 0 ∨ x = 1) : fits .boolean (.int x) = true := by
  rcases h with rfl | rfl <;> rfl
theorem vnar_z {x : Int32} (h : x = 0 ∨ x = 1) : vp_nar .boolean x = x := by
  rcases h with rfl | rfl <;> rfl
/-- a truth value as the machine has it -/
def bI (b : Bool) : Int32 := if b = true then 1 else 0
theorem bI_z (b : Bool) : bI b = 0 ∨ bI b = 1 := by cases b <;> simp [bI]
theorem bI_0 {b : Bool} : bI b = 0 ↔ b = false := by cases b <;> simp [bI]
theorem bI_n {b : Bool} : ¬ bI b = 0 ↔ b = true := by cases b <;> simp [bI]
theorem co_obj : Cond.code objectInit ⟨#[0xb1]⟩ 1 none ∈ lw_good := lw_in1 40 (by decide +kernel) (by decide +kernel)
section CP
variable {G : GG} {y y' : MI} {d d' pc idx n : Nat} {lv : LV} {st rest : List AV} {h : Hp} {bc bs mc ms : Nat} {Q : Pst}
/-- what comes behind a call: the next row, or the exception over the frame -/
def contq (G : GG) (y : MI) (d pc : Nat) (lv : LV) (rest : List AV) (bc bs : Nat) (Q : Pst) (pcx : Nat) : Pst := fun o h' => match o with
  | .inl v => WQ G y d pc lv (v.toList ++ rest) h' bc bs Q
  | .inr E => WXq G y d pcx lv h' bc bs Q E
theorem contq_ret {pcx : Nat} {v : AV} {h' : Hp} (K : WQ G y d pc lv (v :: rest) h' bc bs Q) : contq G y d pc lv rest bc bs Q pcx (oRet v) h' := K
theorem contq_void {pcx : Nat} {h' : Hp} (K : WQ G y d pc lv rest h' bc bs Q) : contq G y d pc lv rest bc bs Q pcx oVoid h' := K
theorem contq_thr {pcx : Nat} {E : String} {h' : Hp} (hy : mH y = []) (K : Q (.inr E) h') : contq G y d pc lv rest bc bs Q pcx (oThr E) h' := wxq_out hy K
theorem wq_cS (as : List AV) (rest : List AV) (mc ms : Nat) (hd : decode (mC y) pc = .ok (.invokestatic idx, 3)) (hl : Cond.methodLink (mN y).cls idx (mN y') ∈ lw_good) (hst : Cond.static (mN y') ∈ lw_good) (hy : MOk y' n) (hn : as.length = n) (hw : awords as ≤ mL y') (e : st = as.reverse ++ rest) (hcat : awords rest ≤ 8) (hd1 : d' < d) (h1 : mc ≤ bc) (h2 : ms ≤ bs)
    (K' : WQ G y' d' 0 (aargs 0 as) [] h mc ms (contq G y d (pc + 3) lv rest (bc - mc) (bs - ms) Q pc)) : WQ G y d pc lv st h bc bs Q :=
  wq_callS as hd hl hst hy hn hw e hcat hd1 h1 h2 K' (fun _ _ hk => hk) (fun _ _ hk => hk)
theorem wq_cV {b : Nat} (ci : Nat) (as : List AV) (rest : List AV) (mc ms : Nat) (hd : decode (mC y) pc = .ok (.invokevirtual idx, 3)) (hl : Cond.methodLink (mN y).cls idx (mN y') ∈ lw_good) (hin : Cond.instanceMethod (mN y') ∈ lw_good) (hsel : Cond.selects (clR ci) (mN y') (mN y') ∈ lw_good) (hci : ci < 18) (hb : h_k h b = ci + 1) (hy : MOk y' n) (hn : as.length = n) (hw : awords (vr (some b) :: as) ≤ mL y') (e : st = as.reverse ++ vr (some b) :: rest) (hcat : awords rest ≤ 8) (hd1 : d' < d) (h1 : mc ≤ bc) (h2 : ms ≤ bs)
    (K' : WQ G y' d' 0 (aargs 0 (vr (some b) :: as)) [] h mc ms (contq G y d (pc + 3) lv rest (bc - mc) (bs - ms) Q pc)) : WQ G y d pc lv st h bc bs Q :=
  wq_callV ci as hd hl hin hsel hci hb hy hn hw e hcat hd1 h1 h2 K' (fun _ _ hk => hk) (fun _ _ hk => hk)
theorem wq_cI {b : Nat} (as : List AV) (rest : List AV) (mc ms : Nat) (hd : decode (mC y) pc = .ok (.invokespecial idx, 3)) (hl : Cond.methodLink (mN y).cls idx (mN y') ∈ lw_good) (hin : Cond.instanceMethod (mN y') ∈ lw_good) (hnm : (mN y').name = "<init>") (hr0 : mR y' = none) (hy : MOk y' n) (hn : as.length = n) (hw : awords (vr (some b) :: as) ≤ mL y') (e : st = as.reverse ++ vr (some b) :: rest) (hcat : awords rest ≤ 8) (hd1 : d' < d) (h1 : mc ≤ bc) (h2 : ms ≤ bs)
    (K' : WQ G y' d' 0 (aargs 0 (vr (some b) :: as)) [] h mc ms (contq G y d (pc + 3) lv rest (bc - mc) (bs - ms) Q pc)) : WQ G y d pc lv st h bc bs Q :=
  wq_callI as hd hl hin hnm hr0 hy hn hw e hcat hd1 h1 h2 K' (fun _ _ hk => hk) (fun _ _ hk => hk)
theorem nest_good {R : Room} {s : State} {args : Array Value} {own host : String} (hts : ∀ w ∈ lw_good, w.before args s = true) (hX : Sx G s) (hy : MOk y' n) (hl : Cond.methodLinkNest own idx (mN y') host ∈ dwX) (h1 : d' + 1 ≤ R.frames) (h2 : 64 * (d' + 1) ≤ R.locals) : va_CN R s args own idx (mN y') host (mC y') (mL y') (mR y') (wsOf y') (rmOf d' mc ms) mc ms n :=
  va_cnB n hts (wsOf_good hy) rfl rfl rfl (hX.2.2.1 _ hl) (hts _ hy.2.1) hy.2.2.2.1 ⟨h1, by
    have := hy.2.2.2.2.1
    show 8 + (mL y' + 11) + 64 * d' ≤ R.locals
    omega⟩
theorem rest_cat (hcat : awords rest ≤ 8) {m : MethodId} {ls : Array Slot} {st0 : List Value} : 2 * (F0 m pc ls st0).monitorRoom + ((rest.map toV).map fun v => v.category).sum ≤ 8 := by
  have h0 := hcat
  unfold awords at h0
  rw [← cat_sum] at h0
  exact lv_room h0
/-- a private static method of a nest mate -/
theorem wq_cSN {host : String} (as : List AV) (rest : List AV) (mc ms : Nat) (hd : decode (mC y) pc = .ok (.invokestatic idx, 3)) (hl : Cond.methodLinkNest (mN y).cls idx (mN y') host ∈ dwX) (hst : Cond.static (mN y') ∈ lw_good) (hy : MOk y' n) (hn : as.length = n) (hw : awords as ≤ mL y') (e : st = as.reverse ++ rest) (hcat : awords rest ≤ 8) (hd1 : d' < d) (h1 : mc ≤ bc) (h2 : ms ≤ bs)
    (K' : WQ G y' d' 0 (aargs 0 as) [] h mc ms (contq G y d (pc + 3) lv rest (bc - mc) (bs - ms) Q pc)) : WQ G y d pc lv st h bc bs Q := by
  subst e
  intro p l e R s m args below meth c C H locs cells slots ls hr hS hl' hc hs
  have hts := C.2.2.2.2.2.2.2.1
  have hX := C.2.2.2.2.2.2.2.2.1
  have h10 := C.2.2.2.2.2.2.2.2.2.1
  have hM := met_of (l := l) C.2.2.2.2.2.2.2.2.2.2.2 hy hw K'
  have hcb := nest_good (R := R) (s := s) (args := args) (mc := mc) (ms := ms) hts hX hy hl (d' := d') (by omega) (by omega)
  have hrun := vx_runSN (As := as.map toV) (rest := rest.map toV) (H := H) (locs := locs) (cells := cells) (slots := slots) (meth := meth) (e := e) (below := below) (g := F0 m pc ls ((as.reverse ++ rest).map toV)) ⟨C.1, C.2.1, C.2.2.1, C.2.2.2.2.2.2.1, hts⟩ hM ⟨hcb, hts _ hst, trivial⟩ ⟨pcOf_blind, pcOf_at hr hX hS⟩ rfl (by rw [List.length_map]; exact hn) hl'.1 (by simp) (rest_cat hcat) hd ⟨by omega, by omega⟩
  refine run_go hrun hS (fun v h' H1 locs1 hq hrep hS1 => ?_) (fun E ce q h' H1 locs1 hq hrep hS1 g1 g2 g3 => ?_)
  · have := (show WQ G y d (pc + 3) lv (v.toList ++ rest) h' (bc - mc) (bs - ms) Q from hq) p l e R s m args below meth c C H1 locs1 (cells + mc) (slots + ms) ls hrep hS1 hl' (by omega) (by omega)
    rw [List.map_append] at this
    cases v <;> exact this
  · exact (show WXq G y d pc lv h' (bc - mc) (bs - ms) Q E from hq) p l e R s m args below meth c C H1 locs1 (cells + mc) (slots + ms) ls _ q ce hrep hS1 hl' (by omega) (by omega) g1 g2 g3
/-- a private constructor of a nest mate -/
theorem wq_cIN {b : Nat} {host : String} (as : List AV) (rest : List AV) (mc ms : Nat) (hd : decode (mC y) pc = .ok (.invokespecial idx, 3)) (hl : Cond.methodLinkNest (mN y).cls idx (mN y') host ∈ dwX) (hin : Cond.instanceMethod (mN y') ∈ lw_good) (hnm : (mN y').name = "<init>") (hr0 : mR y' = none) (hy : MOk y' n) (hn : as.length = n) (hw : awords (vr (some b) :: as) ≤ mL y') (e : st = as.reverse ++ vr (some b) :: rest) (hcat : awords rest ≤ 8) (hd1 : d' < d) (h1 : mc ≤ bc) (h2 : ms ≤ bs)
    (K' : WQ G y' d' 0 (aargs 0 (vr (some b) :: as)) [] h mc ms (contq G y d (pc + 3) lv rest (bc - mc) (bs - ms) Q pc)) : WQ G y d pc lv st h bc bs Q := by
  subst e
  intro p l e R s m args below meth c C H locs cells slots ls hr hS hl' hc hs
  have hts := C.2.2.2.2.2.2.2.1
  have hX := C.2.2.2.2.2.2.2.2.1
  have h10 := C.2.2.2.2.2.2.2.2.2.1
  have hM := met_of (l := l) C.2.2.2.2.2.2.2.2.2.2.2 hy hw K'
  have hcb : va_CN R s args (mN y).cls idx (mN y') host (mC y') (mL y') none (wsOf y') (rmOf d' mc ms) mc ms n := by
    have := nest_good (R := R) (s := s) (args := args) (mc := mc) (ms := ms) hts hX hy hl (d' := d') (by omega) (by omega)
    rwa [hr0] at this
  have hrun := vx_runIN (b := b) (As := as.map toV) (rest := rest.map toV) (H := H) (locs := locs) (cells := cells) (slots := slots) (meth := meth) (e := e) (below := below) (g := F0 m pc ls ((as.reverse ++ vr (some b) :: rest).map toV)) ⟨C.1, C.2.1, C.2.2.1, C.2.2.2.2.2.2.1, hts⟩ hM ⟨hcb, hnm, hts _ hin⟩ ⟨pcOf_blind, pcOf_at (as := vr (some b) :: as) hr hX hS⟩ rfl (by rw [List.length_map]; exact hn) hl'.1 (by simp; rfl) (rest_cat hcat) hd ⟨by omega, by omega⟩
  refine run_go hrun hS (fun v h' H1 locs1 hq hrep hS1 => ?_) (fun E ce q h' H1 locs1 hq hrep hS1 g1 g2 g3 => ?_)
  · have := (show WQ G y d (pc + 3) lv (v.toList ++ rest) h' (bc - mc) (bs - ms) Q from hq) p l e R s m args below meth c C H1 locs1 (cells + mc) (slots + ms) ls hrep hS1 hl' (by omega) (by omega)
    rw [List.map_append] at this
    cases v <;> exact this
  · exact (show WXq G y d pc lv h' (bc - mc) (bs - ms) Q E from hq) p l e R s m args below meth c C H1 locs1 (cells + mc) (slots + ms) ls _ q ce hrep hS1 hl' (by omega) (by omega) g1 g2 g3
end CP
