/-! ===== rows with shapes as facts, and with numbers ===== -/
def Ob (rg : RgT) (o ci : Nat) (fs : List (Nat × Nat)) : Prop := o < rg.1 ∧ ∃ (n : Nat) (tg : Nat → Nat), rg.2 o = (ci + 6, n, tg, fs)
def Ar (rg : RgT) (o kind n : Nat) : Prop := o < rg.1 ∧ ∃ (tg : Nat → Nat) (fs : List (Nat × Nat)), rg.2 o = (kind, n, tg, fs)
def Rr (rg : RgT) (o kind n : Nat) (tg : Nat → Nat) : Prop := o < rg.1 ∧ ∃ (fs : List (Nat × Nat)), rg.2 o = (kind, n, tg, fs)
abbrev shF : List (Nat × Nat) := [(1, 0), (1, 0)]
abbrev isF (rg : RgT) (o : Nat) : Prop := Ob rg o 2 shF
theorem fits_int (x : Int32) : fits .int (.int x) = true := by first | rfl | simp [fits] | decide
theorem fits_long (x : Int64) : fits .long (.long x) = true := by first | rfl | simp [fits] | decide
section GROWS
variable {p : Program} {l : Launch} {e : Env} {R : Room} {s : State} {m : MethodId} {args : Array Value} {below : List Frame} {meth : Method} {c : Code} {Q : State → Prop} {cc : ByteArray} {nL : Nat} {own : String} {G : GT} {rg : RgT} {kc ks : Nat} {I : II} {L : LL} {pc : Nat} {lv : LV} {st : List Value}
theorem g_getI (C : Cx p s m args meth c cc nL own G) {idx ci q z o : Nat} {fs : List (Nat × Nat)} (ob : Ob rg o ci fs) (fl : FL own idx ci q) (hq : fs[q]? = some (0, z)) (d : decode cc pc = .ok (.getfield idx, 3)) (k : J p l e R s m args below meth c Q nL G rg kc ks I L (pc + 3) lv (.int (I o q) :: st)) : J p l e R s m args below meth c Q nL G rg kc ks I L pc lv (.ref (gB G + o) :: st) := by
  obtain ⟨ho, n, tg, hs⟩ := ob
  exact j_getI C fl ho hs rfl hq d k
theorem g_getL (C : Cx p s m args meth c cc nL own G) {idx ci q z o : Nat} {fs : List (Nat × Nat)} (ob : Ob rg o ci fs) (fl : FL own idx ci q) (hq : fs[q]? = some (1, z)) (d : decode cc pc = .ok (.getfield idx, 3)) (k : J p l e R s m args below meth c Q nL G rg kc ks I L (pc + 3) lv (.long (L o q) :: st)) : J p l e R s m args below meth c Q nL G rg kc ks I L pc lv (.ref (gB G + o) :: st) := by
  obtain ⟨ho, n, tg, hs⟩ := ob
  exact j_getL C fl ho hs rfl hq d k
theorem g_getR (C : Cx p s m args meth c cc nL own G) {idx ci q z o : Nat} {fs : List (Nat × Nat)} (ob : Ob rg o ci fs) (fl : FL own idx ci q) (hq : fs[q]? = some (2, z)) (d : decode cc pc = .ok (.getfield idx, 3)) (k : J p l e R s m args below meth c Q nL G rg kc ks I L (pc + 3) lv (.ref (gB G + z) :: st)) : J p l e R s m args below meth c Q nL G rg kc ks I L pc lv (.ref (gB G + o) :: st) := by
  obtain ⟨ho, n, tg, hs⟩ := ob
  exact j_getR C fl ho hs rfl hq d k
theorem g_putI (C : Cx p s m args meth c cc nL own G) {idx ci q z o : Nat} {fs : List (Nat × Nat)} {ty : FieldType} {v : Int32} (ob : Ob rg o ci fs) (fl : FW own idx ci q ty) (hq : fs[q]? = some (0, z)) (hn : narrow ty (.int v) = .int v) (hfit : fits ty (.int v) = true) (d : decode cc pc = .ok (.putfield idx, 3)) (k : J p l e R s m args below meth c Q nL G rg kc ks (up2 I o q v) L (pc + 3) lv st) : J p l e R s m args below meth c Q nL G rg kc ks I L pc lv (.int v :: .ref (gB G + o) :: st) := by
  obtain ⟨ho, n, tg, hs⟩ := ob
  exact j_putI C fl ho hs rfl hq hn hfit d k
theorem g_putL (C : Cx p s m args meth c cc nL own G) {idx ci q z o : Nat} {fs : List (Nat × Nat)} {ty : FieldType} {v : Int64} (ob : Ob rg o ci fs) (fl : FW own idx ci q ty) (hq : fs[q]? = some (1, z)) (hn : narrow ty (.long v) = .long v) (hfit : fits ty (.long v) = true) (d : decode cc pc = .ok (.putfield idx, 3)) (k : J p l e R s m args below meth c Q nL G rg kc ks I (up2 L o q v) (pc + 3) lv st) : J p l e R s m args below meth c Q nL G rg kc ks I L pc lv (.long v :: .ref (gB G + o) :: st) := by
  obtain ⟨ho, n, tg, hs⟩ := ob
  exact j_putL C fl ho hs rfl hq hn hfit d k
theorem g_iald (C : Cx p s m args meth c cc nL own G) {o i n : Nat} (ar : Ar rg o 0 n) (hi : i < n) (hn : n < 2 ^ 31) (d : decode cc pc = .ok (.iaload, 1)) (k : J p l e R s m args below meth c Q nL G rg kc ks I L (pc + 1) lv (.int (I o i) :: st)) : J p l e R s m args below meth c Q nL G rg kc ks I L pc lv (.int (nI i) :: .ref (gB G + o) :: st) := by
  obtain ⟨ho, tg, fs, hs⟩ := ar
  refine j_iald C ho hs rfl (vp_in_nI hi hn) d ?_
  rw [nI_clamp (Nat.lt_trans hi hn)]
  exact k
theorem g_lald (C : Cx p s m args meth c cc nL own G) {o i n : Nat} (ar : Ar rg o 1 n) (hi : i < n) (hn : n < 2 ^ 31) (d : decode cc pc = .ok (.laload, 1)) (k : J p l e R s m args below meth c Q nL G rg kc ks I L (pc + 1) lv (.long (L o i) :: st)) : J p l e R s m args below meth c Q nL G rg kc ks I L pc lv (.int (nI i) :: .ref (gB G + o) :: st) := by
  obtain ⟨ho, tg, fs, hs⟩ := ar
  refine j_lald C ho hs rfl (vp_in_nI hi hn) d ?_
  rw [nI_clamp (Nat.lt_trans hi hn)]
  exact k
theorem g_zald (C : Cx p s m args meth c cc nL own G) {o i n : Nat} (ar : Ar rg o 2 n) (hi : i < n) (hn : n < 2 ^ 31) (d : decode cc pc = .ok (.baload, 1)) (k : J p l e R s m args below meth c Q nL G rg kc ks I L (pc + 1) lv (.int (I o i) :: st)) : J p l e R s m args below meth c Q nL G rg kc ks I L pc lv (.int (nI i) :: .ref (gB G + o) :: st) := by
  obtain ⟨ho, tg, fs, hs⟩ := ar
  refine j_zald C ho hs rfl (vp_in_nI hi hn) d ?_
  rw [nI_clamp (Nat.lt_trans hi hn)]
  exact k
theorem g_iast (C : Cx p s m args meth c cc nL own G) {o i n : Nat} {x : Int32} (ar : Ar rg o 0 n) (hi : i < n) (hn : n < 2 ^ 31)  (d : decode cc pc = .ok (.iastore, 1)) (k : J p l e R s m args below meth c Q nL G rg kc ks (up2 I o i x) L (pc + 1) lv st) : J p l e R s m args below meth c Q nL G rg kc ks I L pc lv (.int x :: .int (nI i) :: .ref (gB G + o) :: st) := by
  obtain ⟨ho, tg, fs, hs⟩ := ar
  refine j_iast C ho hs rfl (vp_in_nI hi hn)  d ?_
  rw [nI_clamp (Nat.lt_trans hi hn)]
  exact k
theorem g_last (C : Cx p s m args meth c cc nL own G) {o i n : Nat} {x : Int64} (ar : Ar rg o 1 n) (hi : i < n) (hn : n < 2 ^ 31)  (d : decode cc pc = .ok (.lastore, 1)) (k : J p l e R s m args below meth c Q nL G rg kc ks I (up2 L o i x) (pc + 1) lv st) : J p l e R s m args below meth c Q nL G rg kc ks I L pc lv (.long x :: .int (nI i) :: .ref (gB G + o) :: st) := by
  obtain ⟨ho, tg, fs, hs⟩ := ar
  refine j_last C ho hs rfl (vp_in_nI hi hn)  d ?_
  rw [nI_clamp (Nat.lt_trans hi hn)]
  exact k
theorem g_zast (C : Cx p s m args meth c cc nL own G) {o i n : Nat} {x : Int32} (ar : Ar rg o 2 n) (hi : i < n) (hn : n < 2 ^ 31) (hnar : vp_nar .boolean x = x) (d : decode cc pc = .ok (.bastore, 1)) (k : J p l e R s m args below meth c Q nL G rg kc ks (up2 I o i x) L (pc + 1) lv st) : J p l e R s m args below meth c Q nL G rg kc ks I L pc lv (.int x :: .int (nI i) :: .ref (gB G + o) :: st) := by
  obtain ⟨ho, tg, fs, hs⟩ := ar
  refine j_zast C ho hs rfl (vp_in_nI hi hn) hnar d ?_
  rw [nI_clamp (Nat.lt_trans hi hn)]
  exact k
theorem g_aald3 (C : Cx p s m args meth c cc nL own G) {o i n : Nat} {tg : Nat → Nat} {t : Nat} (ar : Rr rg o 3 n tg) (hi : i < n) (hn : n < 2 ^ 31) (ht : tg i = t) (h0 : t ≠ 0) (d : decode cc pc = .ok (.aaload, 1)) (k : J p l e R s m args below meth c Q nL G rg kc ks I L (pc + 1) lv (.ref (gB G + t) :: st)) : J p l e R s m args below meth c Q nL G rg kc ks I L pc lv (.int (nI i) :: .ref (gB G + o) :: st) := by
  obtain ⟨ho, fs, hs⟩ := ar
  exact j_aald3 C ho hs rfl (vp_in_nI hi hn) (by rw [nI_clamp (Nat.lt_trans hi hn)]; exact ht) h0 d k
theorem g_aald4 (C : Cx p s m args meth c cc nL own G) {o i n : Nat} {tg : Nat → Nat} {t : Nat} (ar : Rr rg o 4 n tg) (hi : i < n) (hn : n < 2 ^ 31) (ht : tg i = t) (h0 : t ≠ 0) (d : decode cc pc = .ok (.aaload, 1)) (k : J p l e R s m args below meth c Q nL G rg kc ks I L (pc + 1) lv (.ref (gB G + t) :: st)) : J p l e R s m args below meth c Q nL G rg kc ks I L pc lv (.int (nI i) :: .ref (gB G + o) :: st) := by
  obtain ⟨ho, fs, hs⟩ := ar
  exact j_aald4 C ho hs rfl (vp_in_nI hi hn) (by rw [nI_clamp (Nat.lt_trans hi hn)]; exact ht) h0 d k
theorem g_aald5 (C : Cx p s m args meth c cc nL own G) {o i n : Nat} {tg : Nat → Nat} {t : Nat} (ar : Rr rg o 5 n tg) (hi : i < n) (hn : n < 2 ^ 31) (ht : tg i = t) (h0 : t ≠ 0) (d : decode cc pc = .ok (.aaload, 1)) (k : J p l e R s m args below meth c Q nL G rg kc ks I L (pc + 1) lv (.ref (gB G + t) :: st)) : J p l e R s m args below meth c Q nL G rg kc ks I L pc lv (.int (nI i) :: .ref (gB G + o) :: st) := by
  obtain ⟨ho, fs, hs⟩ := ar
  exact j_aald5 C ho hs rfl (vp_in_nI hi hn) (by rw [nI_clamp (Nat.lt_trans hi hn)]; exact ht) h0 d k
theorem g_alen (C : Cx p s m args meth c cc nL own G) {o kind n : Nat} (ar : Ar rg o kind n) (hk : kind < 6) (d : decode cc pc = .ok (.arraylength, 1)) (k : J p l e R s m args below meth c Q nL G rg kc ks I L (pc + 1) lv (.int (nI n) :: st)) : J p l e R s m args below meth c Q nL G rg kc ks I L pc lv (.ref (gB G + o) :: st) := by
  obtain ⟨ho, tg, fs, hs⟩ := ar
  exact j_alen C ho hs hk rfl d k
theorem g_alenR (C : Cx p s m args meth c cc nL own G) {o kind n : Nat} {tg : Nat → Nat} (ar : Rr rg o kind n tg) (hk : kind < 6) (d : decode cc pc = .ok (.arraylength, 1)) (k : J p l e R s m args below meth c Q nL G rg kc ks I L (pc + 1) lv (.int (nI n) :: st)) : J p l e R s m args below meth c Q nL G rg kc ks I L pc lv (.ref (gB G + o) :: st) := by
  obtain ⟨ho, fs, hs⟩ := ar
  exact j_alen C ho hs hk rfl d k
theorem t_i {x y : Int32} (h : x = y) (k : J p l e R s m args below meth c Q nL G rg kc ks I L pc lv (.int y :: st)) : J p l e R s m args below meth c Q nL G rg kc ks I L pc lv (.int x :: st) := h ▸ k
theorem t_i2 {w : Value} {x y : Int32} (h : x = y) (k : J p l e R s m args below meth c Q nL G rg kc ks I L pc lv (w :: .int y :: st)) : J p l e R s m args below meth c Q nL G rg kc ks I L pc lv (w :: .int x :: st) := h ▸ k
theorem t_l {x y : Int64} (h : x = y) (k : J p l e R s m args below meth c Q nL G rg kc ks I L pc lv (.long y :: st)) : J p l e R s m args below meth c Q nL G rg kc ks I L pc lv (.long x :: st) := h ▸ k
theorem t_r {x y : Nat} (h : x = y) (k : J p l e R s m args below meth c Q nL G rg kc ks I L pc lv (.ref (gB G + y) :: st)) : J p l e R s m args below meth c Q nL G rg kc ks I L pc lv (.ref (gB G + x) :: st) := h ▸ k
theorem t_gi {x : Int32} (k : ∀ y : Int32, y = x → J p l e R s m args below meth c Q nL G rg kc ks I L pc lv (.int y :: st)) : J p l e R s m args below meth c Q nL G rg kc ks I L pc lv (.int x :: st) := k x rfl
theorem t_gl {x : Int64} (k : ∀ y : Int64, y = x → J p l e R s m args below meth c Q nL G rg kc ks I L pc lv (.long y :: st)) : J p l e R s m args below meth c Q nL G rg kc ks I L pc lv (.long x :: st) := k x rfl
theorem t_IL {I1 : II} {L1 : LL} (h : I = I1) (h2 : L = L1) (k : J p l e R s m args below meth c Q nL G rg kc ks I1 L1 pc lv st) : J p l e R s m args below meth c Q nL G rg kc ks I L pc lv st := by subst h; subst h2; exact k
theorem t_lv {lv1 : LV} (h : lv = lv1) (k : J p l e R s m args below meth c Q nL G rg kc ks I L pc lv1 st) : J p l e R s m args below meth c Q nL G rg kc ks I L pc lv st := by subst h; exact k
def rm1 : LV → Nat → LV
  | [], _ => []
  | _ :: r, 0 => none :: r
  | a :: r, n + 1 => a :: rm1 r n
theorem rm1_get : ∀ (lv : LV) (n i : Nat) (v : Value), (rm1 lv n)[i]? = some (some v) → lv[i]? = some (some v)
  | [], _, _, _, h => h
  | a :: r, 0, 0, v, h => by simp [rm1] at h
  | a :: r, 0, i + 1, v, h => by simpa [rm1] using h
  | a :: r, n + 1, 0, v, h => by simpa [rm1] using h
  | a :: r, n + 1, i + 1, v, h => by
    rw [rm1, List.getElem?_cons_succ] at h
    rw [List.getElem?_cons_succ]
    exact rm1_get r n i v h
theorem j_rm (i : Nat) (k : J p l e R s m args below meth c Q nL G rg kc ks I L pc (rm1 lv i) st) : J p l e R s m args below meth c Q nL G rg kc ks I L pc lv st := by
  intro H locs ls hP hS hl
  refine k H locs ls hP hS ⟨hl.1, hl.2.1, fun q hq => ?_⟩
  obtain ⟨j, h1, h2⟩ := asl_inv _ _ _ hq
  rw [Nat.zero_add] at h1
  have h3 := lvg hl (rm1_get lv i j q.2 h2)
  rw [h1]
  exact h3
theorem n_iadd (C : Cx p s m args meth c cc nL own G) {a b : Nat} (d : decode cc pc = .ok (.iadd, 1)) (k : J p l e R s m args below meth c Q nL G rg kc ks I L (pc + 1) lv (.int (nI (a + b)) :: st)) : J p l e R s m args below meth c Q nL G rg kc ks I L pc lv (.int (nI b) :: .int (nI a) :: st) := j_iadd C d (by rw [nI_add]; exact k)
theorem n_imul (C : Cx p s m args meth c cc nL own G) {a b : Nat} (d : decode cc pc = .ok (.imul, 1)) (k : J p l e R s m args below meth c Q nL G rg kc ks I L (pc + 1) lv (.int (nI (a * b)) :: st)) : J p l e R s m args below meth c Q nL G rg kc ks I L pc lv (.int (nI b) :: .int (nI a) :: st) := j_imul C d (by rw [pk_mul]; exact k)
theorem n_isub (C : Cx p s m args meth c cc nL own G) {a b : Nat} (h : b ≤ a) (d : decode cc pc = .ok (.isub, 1)) (k : J p l e R s m args below meth c Q nL G rg kc ks I L (pc + 1) lv (.int (nI (a - b)) :: st)) : J p l e R s m args below meth c Q nL G rg kc ks I L pc lv (.int (nI b) :: .int (nI a) :: st) := j_isub C d (by rw [pk_sub h]; exact k)
theorem n_idiv (C : Cx p s m args meth c cc nL own G) {a b : Nat} (ha : a < 2 ^ 31) (h0 : 0 < b) (hb : b < 2 ^ 31) (d : decode cc pc = .ok (.idiv, 1)) (k : J p l e R s m args below meth c Q nL G rg kc ks I L (pc + 1) lv (.int (nI (a / b)) :: st)) : J p l e R s m args below meth c Q nL G rg kc ks I L pc lv (.int (nI b) :: .int (nI a) :: st) := j_idiv C d (nI_ne0 h0 hb) (by rw [pk_div ha h0 hb]; exact k)
theorem n_irem (C : Cx p s m args meth c cc nL own G) {a b : Nat} (ha : a < 2 ^ 31) (h0 : 0 < b) (hb : b < 2 ^ 31) (d : decode cc pc = .ok (.irem, 1)) (k : J p l e R s m args below meth c Q nL G rg kc ks I L (pc + 1) lv (.int (nI (a % b)) :: st)) : J p l e R s m args below meth c Q nL G rg kc ks I L pc lv (.int (nI b) :: .int (nI a) :: st) := j_irem C d (nI_ne0 h0 hb) (by rw [pk_rem ha h0 hb]; exact k)
theorem n_iinc (C : Cx p s m args meth c cc nL own G) {i x : Nat} {n : Nat} (d : decode cc pc = .ok (.iinc i (n : Int), 3)) (hi : lv[i]? = some (some (.int (nI x)))) (hn : i < nL) (k : J p l e R s m args below meth c Q nL G rg kc ks I L (pc + 3) (st1 lv i (.int (nI (x + n)))) st) : J p l e R s m args below meth c Q nL G rg kc ks I L pc lv st := j_iinc C d hi (by rw [show Int32.ofInt (n : Int) = nI n from rfl, nI_add]) hn k
theorem n_idec (C : Cx p s m args meth c cc nL own G) {i x : Nat} (d : decode cc pc = .ok (.iinc i (-1), 3)) (hi : lv[i]? = some (some (.int (nI (x + 1))))) (hn : i < nL) (k : J p l e R s m args below meth c Q nL G rg kc ks I L (pc + 3) (st1 lv i (.int (nI x))) st) : J p l e R s m args below meth c Q nL G rg kc ks I L pc lv st := j_iinc C d hi (by rw [show Int32.ofInt (-1) = -1 from rfl]; exact pk_m1 x) hn k
theorem n_icmp_eq (C : Cx p s m args meth c cc nL own G) {a b : Nat} {off : Int} {tgt : Nat} (ha : a < 2 ^ 31) (hb : b < 2 ^ 31) (d : decode cc pc = .ok (.if_icmp .eq off, 3)) (ht : (pc : Int) + off = (tgt : Int)) (kt : a = b → J p l e R s m args below meth c Q nL G rg kc ks I L tgt lv st) (kf : ¬ a = b → J p l e R s m args below meth c Q nL G rg kc ks I L (pc + 3) lv st) : J p l e R s m args below meth c Q nL G rg kc ks I L pc lv (.int (nI b) :: .int (nI a) :: st) := j_icmp_eq C d ht (fun h => kt ((nI_eq ha hb).mp h)) (fun h => kf (fun q => h ((nI_eq ha hb).mpr q)))
theorem n_icmp_ne (C : Cx p s m args meth c cc nL own G) {a b : Nat} {off : Int} {tgt : Nat} (ha : a < 2 ^ 31) (hb : b < 2 ^ 31) (d : decode cc pc = .ok (.if_icmp .ne off, 3)) (ht : (pc : Int) + off = (tgt : Int)) (kt : ¬ a = b → J p l e R s m args below meth c Q nL G rg kc ks I L tgt lv st) (kf : a = b → J p l e R s m args below meth c Q nL G rg kc ks I L (pc + 3) lv st) : J p l e R s m args below meth c Q nL G rg kc ks I L pc lv (.int (nI b) :: .int (nI a) :: st) := j_icmp_ne C d ht (fun h => kt (fun q => h ((nI_eq ha hb).mpr q))) (fun h => kf ((nI_eq ha hb).mp h))
theorem n_icmp_lt (C : Cx p s m args meth c cc nL own G) {a b : Nat} {off : Int} {tgt : Nat} (ha : a < 2 ^ 31) (hb : b < 2 ^ 31) (d : decode cc pc = .ok (.if_icmp .lt off, 3)) (ht : (pc : Int) + off = (tgt : Int)) (kt : a < b → J p l e R s m args below meth c Q nL G rg kc ks I L tgt lv st) (kf : b ≤ a → J p l e R s m args below meth c Q nL G rg kc ks I L (pc + 3) lv st) : J p l e R s m args below meth c Q nL G rg kc ks I L pc lv (.int (nI b) :: .int (nI a) :: st) := j_icmp_lt C d ht (fun h => kt ((nI_ltI ha hb).mp h)) (fun h => kf (Nat.le_of_not_lt (fun q => h ((nI_ltI ha hb).mpr q))))
theorem n_icmp_ge (C : Cx p s m args meth c cc nL own G) {a b : Nat} {off : Int} {tgt : Nat} (ha : a < 2 ^ 31) (hb : b < 2 ^ 31) (d : decode cc pc = .ok (.if_icmp .ge off, 3)) (ht : (pc : Int) + off = (tgt : Int)) (kt : b ≤ a → J p l e R s m args below meth c Q nL G rg kc ks I L tgt lv st) (kf : a < b → J p l e R s m args below meth c Q nL G rg kc ks I L (pc + 3) lv st) : J p l e R s m args below meth c Q nL G rg kc ks I L pc lv (.int (nI b) :: .int (nI a) :: st) := j_icmp_ge C d ht (fun h => kt ((nI_leI hb ha).mp h)) (fun h => kf (Nat.lt_of_not_le (fun q => h ((nI_leI hb ha).mpr q))))
theorem n_icmp_gt (C : Cx p s m args meth c cc nL own G) {a b : Nat} {off : Int} {tgt : Nat} (ha : a < 2 ^ 31) (hb : b < 2 ^ 31) (d : decode cc pc = .ok (.if_icmp .gt off, 3)) (ht : (pc : Int) + off = (tgt : Int)) (kt : b < a → J p l e R s m args below meth c Q nL G rg kc ks I L tgt lv st) (kf : a ≤ b → J p l e R s m args below meth c Q nL G rg kc ks I L (pc + 3) lv st) : J p l e R s m args below meth c Q nL G rg kc ks I L pc lv (.int (nI b) :: .int (nI a) :: st) := j_icmp_gt C d ht (fun h => kt ((nI_ltI hb ha).mp h)) (fun h => kf (Nat.le_of_not_lt (fun q => h ((nI_ltI hb ha).mpr q))))
theorem n_icmp_le (C : Cx p s m args meth c cc nL own G) {a b : Nat} {off : Int} {tgt : Nat} (ha : a < 2 ^ 31) (hb : b < 2 ^ 31) (d : decode cc pc = .ok (.if_icmp .le off, 3)) (ht : (pc : Int) + off = (tgt : Int)) (kt : a ≤ b → J p l e R s m args below meth c Q nL G rg kc ks I L tgt lv st) (kf : b < a → J p l e R s m args below meth c Q nL G rg kc ks I L (pc + 3) lv st) : J p l e R s m args below meth c Q nL G rg kc ks I L pc lv (.int (nI b) :: .int (nI a) :: st) := j_icmp_le C d ht (fun h => kt ((nI_leI ha hb).mp h)) (fun h => kf (Nat.lt_of_not_le (fun q => h ((nI_leI ha hb).mpr q))))
def b2i (b : Bool) : Int32 := if b then 1 else 0
theorem b2i_0 {b : Bool} : b2i b = 0 ↔ b = false := by cases b <;> decide
theorem b2i_n {b : Bool} (ty : FieldType) (h : ty = .boolean) : narrow ty (.int (b2i b)) = .int (b2i b) := by subst h; cases b <;> rfl
theorem b2i_f {b : Bool} (ty : FieldType) (h : ty = .boolean) : fits ty (.int (b2i b)) = true := by subst h; cases b <;> rfl
theorem b2i_v {b : Bool} : vp_nar .boolean (b2i b) = b2i b := by cases b <;> rfl
theorem n_if_eq (C : Cx p s m args meth c cc nL own G) {b : Bool} {off : Int} {tgt : Nat} (d : decode cc pc = .ok (.ifCond .eq off, 3)) (ht : (pc : Int) + off = (tgt : Int)) (kt : b = false → J p l e R s m args below meth c Q nL G rg kc ks I L tgt lv st) (kf : b = true → J p l e R s m args below meth c Q nL G rg kc ks I L (pc + 3) lv st) : J p l e R s m args below meth c Q nL G rg kc ks I L pc lv (.int (b2i b) :: st) := j_if_eq C d ht (fun h => kt (b2i_0.mp h)) (fun h => kf (by cases b with | true => rfl | false => exact absurd rfl h))
theorem n_if_ne (C : Cx p s m args meth c cc nL own G) {b : Bool} {off : Int} {tgt : Nat} (d : decode cc pc = .ok (.ifCond .ne off, 3)) (ht : (pc : Int) + off = (tgt : Int)) (kt : b = true → J p l e R s m args below meth c Q nL G rg kc ks I L tgt lv st) (kf : b = false → J p l e R s m args below meth c Q nL G rg kc ks I L (pc + 3) lv st) : J p l e R s m args below meth c Q nL G rg kc ks I L pc lv (.int (b2i b) :: st) := j_if_ne C d ht (fun h => kt (by cases b with | true => rfl | false => exact absurd rfl h)) (fun h => kf (b2i_0.mp h))
end GROWS
theorem g_cvI {p : Program} {l : Launch} {e : Env} {R : Room} {s : State} {m : MethodId} {args : Array Value} {below : List Frame} {meth : Method} {c : Code} {Q : State → Prop} {cc : ByteArray} {nL : Nat} {own : String} {G : GT} {rg : RgT} {kc ks : Nat} {I : II} {L : LL} {pc : Nat} {lv : LV} {st rest As : List Value} {idx ci n d o : Nat} {y : MethodName} {cb : ByteArray} {nb : Nat} {ret : Option FieldType} {fs : List (Nat × Nat)} {post : Int32 → II → LL → Prop} (C : Cx p s m args meth c cc nL own G) (vc : VC own idx ci y cb nb ret n) (hM : CtI l y cb nb ret d G rg I L (.ref (gB G + o) :: As) post) (hR : d + 1 ≤ R.frames ∧ 34 * d + 34 ≤ R.locals) (ob : Ob rg o ci fs) (hn : As.length = n) (hst : st = As.reverse ++ .ref (gB G + o) :: rest) (hW : (rest.map fun v => v.category).sum ≤ 8) (hr : kc ≤ R.cells ∧ ks ≤ R.slots) (dd : decode cc pc = .ok (.invokevirtual idx, 3)) (kk : ∀ (r : Int32) (I1 : II) (L1 : LL), post r I1 L1 → J p l e R s m args below meth c Q nL G rg kc ks I1 L1 (pc + 3) lv (.int r :: rest)) : J p l e R s m args below meth c Q nL G rg kc ks I L pc lv st := by
  obtain ⟨ho, z1, z2, hs⟩ := ob
  exact j_cvI C vc hM hR ho hs rfl hn hst hW hr dd kk
theorem g_cvL {p : Program} {l : Launch} {e : Env} {R : Room} {s : State} {m : MethodId} {args : Array Value} {below : List Frame} {meth : Method} {c : Code} {Q : State → Prop} {cc : ByteArray} {nL : Nat} {own : String} {G : GT} {rg : RgT} {kc ks : Nat} {I : II} {L : LL} {pc : Nat} {lv : LV} {st rest As : List Value} {idx ci n d o : Nat} {y : MethodName} {cb : ByteArray} {nb : Nat} {ret : Option FieldType} {fs : List (Nat × Nat)} {post : Int64 → II → LL → Prop} (C : Cx p s m args meth c cc nL own G) (vc : VC own idx ci y cb nb ret n) (hM : CtL l y cb nb ret d G rg I L (.ref (gB G + o) :: As) post) (hR : d + 1 ≤ R.frames ∧ 34 * d + 34 ≤ R.locals) (ob : Ob rg o ci fs) (hn : As.length = n) (hst : st = As.reverse ++ .ref (gB G + o) :: rest) (hW : (rest.map fun v => v.category).sum ≤ 8) (hr : kc ≤ R.cells ∧ ks ≤ R.slots) (dd : decode cc pc = .ok (.invokevirtual idx, 3)) (kk : ∀ (r : Int64) (I1 : II) (L1 : LL), post r I1 L1 → J p l e R s m args below meth c Q nL G rg kc ks I1 L1 (pc + 3) lv (.long r :: rest)) : J p l e R s m args below meth c Q nL G rg kc ks I L pc lv st := by
  obtain ⟨ho, z1, z2, hs⟩ := ob
  exact j_cvL C vc hM hR ho hs rfl hn hst hW hr dd kk
theorem g_cvV {p : Program} {l : Launch} {e : Env} {R : Room} {s : State} {m : MethodId} {args : Array Value} {below : List Frame} {meth : Method} {c : Code} {Q : State → Prop} {cc : ByteArray} {nL : Nat} {own : String} {G : GT} {rg : RgT} {kc ks : Nat} {I : II} {L : LL} {pc : Nat} {lv : LV} {st rest As : List Value} {idx ci n d o : Nat} {y : MethodName} {cb : ByteArray} {nb : Nat} {ret : Option FieldType} {fs : List (Nat × Nat)} {post : II → LL → Prop} (C : Cx p s m args meth c cc nL own G) (vc : VC own idx ci y cb nb ret n) (hM : CtV l y cb nb ret d G rg I L (.ref (gB G + o) :: As) post) (hR : d + 1 ≤ R.frames ∧ 34 * d + 34 ≤ R.locals) (ob : Ob rg o ci fs) (hn : As.length = n) (hst : st = As.reverse ++ .ref (gB G + o) :: rest) (hW : (rest.map fun v => v.category).sum ≤ 8) (hr : kc ≤ R.cells ∧ ks ≤ R.slots) (dd : decode cc pc = .ok (.invokevirtual idx, 3)) (kk : ∀ (I1 : II) (L1 : LL), post I1 L1 → J p l e R s m args below meth c Q nL G rg kc ks I1 L1 (pc + 3) lv rest) : J p l e R s m args below meth c Q nL G rg kc ks I L pc lv st := by
  obtain ⟨ho, z1, z2, hs⟩ := ob
  exact j_cvV C vc hM hR ho hs rfl hn hst hW hr dd kk
theorem g_cvR {p : Program} {l : Launch} {e : Env} {R : Room} {s : State} {m : MethodId} {args : Array Value} {below : List Frame} {meth : Method} {c : Code} {Q : State → Prop} {cc : ByteArray} {nL : Nat} {own : String} {G : GT} {rg : RgT} {kc ks : Nat} {I : II} {L : LL} {pc : Nat} {lv : LV} {st rest As : List Value} {idx ci n d o : Nat} {y : MethodName} {cb : ByteArray} {nb : Nat} {ret : Option FieldType} {fs : List (Nat × Nat)} {post : Nat → II → LL → Prop} (C : Cx p s m args meth c cc nL own G) (vc : VC own idx ci y cb nb ret n) (hM : CtR l y cb nb ret d G rg I L (.ref (gB G + o) :: As) post) (hR : d + 1 ≤ R.frames ∧ 34 * d + 34 ≤ R.locals) (ob : Ob rg o ci fs) (hn : As.length = n) (hst : st = As.reverse ++ .ref (gB G + o) :: rest) (hW : (rest.map fun v => v.category).sum ≤ 8) (hr : kc ≤ R.cells ∧ ks ≤ R.slots) (dd : decode cc pc = .ok (.invokevirtual idx, 3)) (kk : ∀ (r : Nat) (I1 : II) (L1 : LL), post r I1 L1 → J p l e R s m args below meth c Q nL G rg kc ks I1 L1 (pc + 3) lv (.ref (gB G + r) :: rest)) : J p l e R s m args below meth c Q nL G rg kc ks I L pc lv st := by
  obtain ⟨ho, z1, z2, hs⟩ := ob
  exact j_cvR C vc hM hR ho hs rfl hn hst hW hr dd kk
