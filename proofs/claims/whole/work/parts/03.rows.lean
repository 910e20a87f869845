section XR
variable {ad : xAd} {E : xE} {Q : Option Value → xSt → Prop} {cc : ByteArray} {nL fr lo : Nat} {own : String} {ret : Option FieldType} {pc : Nat} {L : List (Nat × Value)} {st : List Value} {σ : xSt}
theorem r_iconst (X : FX ad E cc nL own ret fr lo) {n : Int} {v : Int32} (hd : decode cc pc = .ok (.iconst n, 1)) (hv : Int32.ofInt n = v) (kk : KK ad E Q (pc + 1) L (.int v :: st) σ) : KK ad E Q (pc) L (st) σ := by
  obtain ⟨p, l, e, R, s, m, args, below, meth, c9, ⟨Z, A, k9, n9⟩, G⟩ := E
  intro H locs ls h1 h2 h3
  exact lv_iconst X.1 X.2.1 hd hv (kk H locs ls h1 h2 h3)
theorem r_bipush (X : FX ad E cc nL own ret fr lo) {n : Int} {v : Int32} (hd : decode cc pc = .ok (.bipush n, 2)) (hv : (Int8.ofInt n).toInt32 = v) (kk : KK ad E Q (pc + 2) L (.int v :: st) σ) : KK ad E Q (pc) L (st) σ := by
  obtain ⟨p, l, e, R, s, m, args, below, meth, c9, ⟨Z, A, k9, n9⟩, G⟩ := E
  intro H locs ls h1 h2 h3
  exact lv_bipush X.1 X.2.1 hd hv (kk H locs ls h1 h2 h3)
theorem r_sipush (X : FX ad E cc nL own ret fr lo) {n : Int} {v : Int32} (hd : decode cc pc = .ok (.sipush n, 3)) (hv : (Int16.ofInt n).toInt32 = v) (kk : KK ad E Q (pc + 3) L (.int v :: st) σ) : KK ad E Q (pc) L (st) σ := by
  obtain ⟨p, l, e, R, s, m, args, below, meth, c9, ⟨Z, A, k9, n9⟩, G⟩ := E
  intro H locs ls h1 h2 h3
  exact lv_sipush X.1 X.2.1 hd hv (kk H locs ls h1 h2 h3)
theorem r_lconst (X : FX ad E cc nL own ret fr lo) {n : Fin 2} {v : Int64} (hd : decode cc pc = .ok (.lconst n, 1)) (hv : Int64.ofNat (n : Nat) = v) (kk : KK ad E Q (pc + 1) L (.long v :: st) σ) : KK ad E Q (pc) L (st) σ := by
  obtain ⟨p, l, e, R, s, m, args, below, meth, c9, ⟨Z, A, k9, n9⟩, G⟩ := E
  intro H locs ls h1 h2 h3
  exact lv_lconst X.1 X.2.1 hd hv (kk H locs ls h1 h2 h3)
theorem r_null (X : FX ad E cc nL own ret fr lo) (hd : decode cc pc = .ok (.aconst_null, 1)) (kk : KK ad E Q (pc + 1) L (.null :: st) σ) : KK ad E Q (pc) L (st) σ := by
  obtain ⟨p, l, e, R, s, m, args, below, meth, c9, ⟨Z, A, k9, n9⟩, G⟩ := E
  intro H locs ls h1 h2 h3
  exact lv_null X.1 X.2.1 hd (kk H locs ls h1 h2 h3)
theorem r_ldcw (X : FX ad E cc nL own ret fr lo) {index : Nat} {v : Int32} (hw : Cond.constant own index v ∈ x_big) (hd : decode cc pc = .ok (.ldc_w index, 3)) (kk : KK ad E Q (pc + 3) L (.int v :: st) σ) : KK ad E Q (pc) L (st) σ := by
  obtain ⟨p, l, e, R, s, m, args, below, meth, c9, ⟨Z, A, k9, n9⟩, G⟩ := E
  intro H locs ls h1 h2 h3
  exact lv_ldcw X.1 X.2.1 X.2.2.2.1 (X.2.2.2.2.1 _ hw) hd (kk H locs ls h1 h2 h3)
theorem r_ldc2 (X : FX ad E cc nL own ret fr lo) {index : Nat} {v : Int64} (hw : Cond.constantLong own index v ∈ x_big) (hd : decode cc pc = .ok (.ldc2_w index, 3)) (kk : KK ad E Q (pc + 3) L (.long v :: st) σ) : KK ad E Q (pc) L (st) σ := by
  obtain ⟨p, l, e, R, s, m, args, below, meth, c9, ⟨Z, A, k9, n9⟩, G⟩ := E
  intro H locs ls h1 h2 h3
  exact lv_ldc2 X.1 X.2.1 X.2.2.2.1 (X.2.2.2.2.1 _ hw) hd (kk H locs ls h1 h2 h3)
theorem r_iload_n (X : FX ad E cc nL own ret fr lo) {k : Fin 4} {i : Nat} {x : Int32} (hd : decode cc pc = .ok (.iload_n k, 1)) (q : Nat) (hi : (k : Nat) = i) (hl : L[q]? = some (i, .int x)) (kk : KK ad E Q (pc + 1) L (.int x :: st) σ) : KK ad E Q (pc) L (st) σ := by
  obtain ⟨p, l, e, R, s, m, args, below, meth, c9, ⟨Z, A, k9, n9⟩, G⟩ := E
  intro H locs ls h1 h2 h3
  exact lv_iload_n X.1 X.2.1 hd hi (lv_at h1 q hl) (kk H locs ls h1 h2 h3)
theorem r_iload (X : FX ad E cc nL own ret fr lo) {i : Nat} {x : Int32} (hd : decode cc pc = .ok (.iload i, 2)) (q : Nat) (hl : L[q]? = some (i, .int x)) (kk : KK ad E Q (pc + 2) L (.int x :: st) σ) : KK ad E Q (pc) L (st) σ := by
  obtain ⟨p, l, e, R, s, m, args, below, meth, c9, ⟨Z, A, k9, n9⟩, G⟩ := E
  intro H locs ls h1 h2 h3
  exact lv_iload X.1 X.2.1 hd (lv_at h1 q hl) (kk H locs ls h1 h2 h3)
theorem r_lload_n (X : FX ad E cc nL own ret fr lo) {k : Fin 4} {i : Nat} {x : Int64} (hd : decode cc pc = .ok (.lload_n k, 1)) (q : Nat) (hi : (k : Nat) = i) (hl : L[q]? = some (i, .long x)) (kk : KK ad E Q (pc + 1) L (.long x :: st) σ) : KK ad E Q (pc) L (st) σ := by
  obtain ⟨p, l, e, R, s, m, args, below, meth, c9, ⟨Z, A, k9, n9⟩, G⟩ := E
  intro H locs ls h1 h2 h3
  exact lv_lload_n X.1 X.2.1 hd hi (lv_at h1 q hl) (kk H locs ls h1 h2 h3)
theorem r_lload (X : FX ad E cc nL own ret fr lo) {i : Nat} {x : Int64} (hd : decode cc pc = .ok (.lload i, 2)) (q : Nat) (hl : L[q]? = some (i, .long x)) (kk : KK ad E Q (pc + 2) L (.long x :: st) σ) : KK ad E Q (pc) L (st) σ := by
  obtain ⟨p, l, e, R, s, m, args, below, meth, c9, ⟨Z, A, k9, n9⟩, G⟩ := E
  intro H locs ls h1 h2 h3
  exact lv_lload X.1 X.2.1 hd (lv_at h1 q hl) (kk H locs ls h1 h2 h3)
theorem r_aload_n (X : FX ad E cc nL own ret fr lo) {k : Fin 4} {i : Nat} {x : Nat} (hd : decode cc pc = .ok (.aload_n k, 1)) (q : Nat) (hi : (k : Nat) = i) (hl : L[q]? = some (i, .ref x)) (kk : KK ad E Q (pc + 1) L (.ref x :: st) σ) : KK ad E Q (pc) L (st) σ := by
  obtain ⟨p, l, e, R, s, m, args, below, meth, c9, ⟨Z, A, k9, n9⟩, G⟩ := E
  intro H locs ls h1 h2 h3
  exact lv_aload_n X.1 X.2.1 hd hi (lv_at h1 q hl) (kk H locs ls h1 h2 h3)
theorem r_aload (X : FX ad E cc nL own ret fr lo) {i : Nat} {x : Nat} (hd : decode cc pc = .ok (.aload i, 2)) (q : Nat) (hl : L[q]? = some (i, .ref x)) (kk : KK ad E Q (pc + 2) L (.ref x :: st) σ) : KK ad E Q (pc) L (st) σ := by
  obtain ⟨p, l, e, R, s, m, args, below, meth, c9, ⟨Z, A, k9, n9⟩, G⟩ := E
  intro H locs ls h1 h2 h3
  exact lv_aload X.1 X.2.1 hd (lv_at h1 q hl) (kk H locs ls h1 h2 h3)
theorem r_aload_nN (X : FX ad E cc nL own ret fr lo) {k : Fin 4} {i : Nat} (hd : decode cc pc = .ok (.aload_n k, 1)) (q : Nat) (hi : (k : Nat) = i) (hl : L[q]? = some (i, .null)) (kk : KK ad E Q (pc + 1) L (.null :: st) σ) : KK ad E Q (pc) L (st) σ := by
  obtain ⟨p, l, e, R, s, m, args, below, meth, c9, ⟨Z, A, k9, n9⟩, G⟩ := E
  intro H locs ls h1 h2 h3
  exact lv_aload_nN X.1 X.2.1 hd hi (lv_at h1 q hl) (kk H locs ls h1 h2 h3)
theorem r_istore_n (X : FX ad E cc nL own ret fr lo) {k : Fin 4} {i : Nat} {x : Int32} (L1 : List (Nat × Value)) (hd : decode cc pc = .ok (.istore_n k, 1)) (hi : (k : Nat) = i) (hn : i < nL) (hl : (i, Value.int x) :: L.filter (fun q => !(q.1 == i) && !(q.1 + 1 == i && q.2.category == 2)) = L1) (kk : KK ad E Q (pc + 1) L1 (st) σ) : KK ad E Q (pc) L (.int x :: st) σ := by
  obtain ⟨p, l, e, R, s, m, args, below, meth, c9, ⟨Z, A, k9, n9⟩, G⟩ := E
  intro H locs ls h1 h2 h3
  exact lv_istore_n X.1 X.2.1 hd hi h1 (by rw [X.2.2.1]; exact hn) hl (fun ls1 g1 => kk H locs ls1 g1 h2 h3)
theorem r_istore (X : FX ad E cc nL own ret fr lo) {i : Nat} {x : Int32} (L1 : List (Nat × Value)) (hd : decode cc pc = .ok (.istore i, 2)) (hn : i < nL) (hl : (i, Value.int x) :: L.filter (fun q => !(q.1 == i) && !(q.1 + 1 == i && q.2.category == 2)) = L1) (kk : KK ad E Q (pc + 2) L1 (st) σ) : KK ad E Q (pc) L (.int x :: st) σ := by
  obtain ⟨p, l, e, R, s, m, args, below, meth, c9, ⟨Z, A, k9, n9⟩, G⟩ := E
  intro H locs ls h1 h2 h3
  exact lv_istore X.1 X.2.1 hd h1 (by rw [X.2.2.1]; exact hn) hl (fun ls1 g1 => kk H locs ls1 g1 h2 h3)
theorem r_lstore_n (X : FX ad E cc nL own ret fr lo) {k : Fin 4} {i : Nat} {x : Int64} (L1 : List (Nat × Value)) (hd : decode cc pc = .ok (.lstore_n k, 1)) (hi : (k : Nat) = i) (hn : i + 1 < nL) (hl : (i, Value.long x) :: L.filter (fun q => !(q.1 == i) && (!(q.1 == i + 1) && !(q.1 + 1 == i && q.2.category == 2))) = L1) (kk : KK ad E Q (pc + 1) L1 (st) σ) : KK ad E Q (pc) L (.long x :: st) σ := by
  obtain ⟨p, l, e, R, s, m, args, below, meth, c9, ⟨Z, A, k9, n9⟩, G⟩ := E
  intro H locs ls h1 h2 h3
  exact lv_lstore_n X.1 X.2.1 hd hi h1 (by rw [X.2.2.1]; exact hn) hl (fun ls1 g1 => kk H locs ls1 g1 h2 h3)
theorem r_lstore (X : FX ad E cc nL own ret fr lo) {i : Nat} {x : Int64} (L1 : List (Nat × Value)) (hd : decode cc pc = .ok (.lstore i, 2)) (hn : i + 1 < nL) (hl : (i, Value.long x) :: L.filter (fun q => !(q.1 == i) && (!(q.1 == i + 1) && !(q.1 + 1 == i && q.2.category == 2))) = L1) (kk : KK ad E Q (pc + 2) L1 (st) σ) : KK ad E Q (pc) L (.long x :: st) σ := by
  obtain ⟨p, l, e, R, s, m, args, below, meth, c9, ⟨Z, A, k9, n9⟩, G⟩ := E
  intro H locs ls h1 h2 h3
  exact lv_lstore X.1 X.2.1 hd h1 (by rw [X.2.2.1]; exact hn) hl (fun ls1 g1 => kk H locs ls1 g1 h2 h3)
theorem r_astore_n (X : FX ad E cc nL own ret fr lo) {k : Fin 4} {i : Nat} {x : Nat} (L1 : List (Nat × Value)) (hd : decode cc pc = .ok (.astore_n k, 1)) (hi : (k : Nat) = i) (hn : i < nL) (hl : (i, Value.ref x) :: L.filter (fun q => !(q.1 == i) && !(q.1 + 1 == i && q.2.category == 2)) = L1) (kk : KK ad E Q (pc + 1) L1 (st) σ) : KK ad E Q (pc) L (.ref x :: st) σ := by
  obtain ⟨p, l, e, R, s, m, args, below, meth, c9, ⟨Z, A, k9, n9⟩, G⟩ := E
  intro H locs ls h1 h2 h3
  exact lv_astore_n X.1 X.2.1 hd hi h1 (by rw [X.2.2.1]; exact hn) hl (fun ls1 g1 => kk H locs ls1 g1 h2 h3)
theorem r_astore (X : FX ad E cc nL own ret fr lo) {i : Nat} {x : Nat} (L1 : List (Nat × Value)) (hd : decode cc pc = .ok (.astore i, 2)) (hn : i < nL) (hl : (i, Value.ref x) :: L.filter (fun q => !(q.1 == i) && !(q.1 + 1 == i && q.2.category == 2)) = L1) (kk : KK ad E Q (pc + 2) L1 (st) σ) : KK ad E Q (pc) L (.ref x :: st) σ := by
  obtain ⟨p, l, e, R, s, m, args, below, meth, c9, ⟨Z, A, k9, n9⟩, G⟩ := E
  intro H locs ls h1 h2 h3
  exact lv_astore X.1 X.2.1 hd h1 (by rw [X.2.2.1]; exact hn) hl (fun ls1 g1 => kk H locs ls1 g1 h2 h3)
theorem r_astore_nN (X : FX ad E cc nL own ret fr lo) {k : Fin 4} {i : Nat} (L1 : List (Nat × Value)) (hd : decode cc pc = .ok (.astore_n k, 1)) (hi : (k : Nat) = i) (hn : i < nL) (hl : (i, Value.null) :: L.filter (fun q => !(q.1 == i) && !(q.1 + 1 == i && q.2.category == 2)) = L1) (kk : KK ad E Q (pc + 1) L1 (st) σ) : KK ad E Q (pc) L (.null :: st) σ := by
  obtain ⟨p, l, e, R, s, m, args, below, meth, c9, ⟨Z, A, k9, n9⟩, G⟩ := E
  intro H locs ls h1 h2 h3
  exact lv_astore_nN X.1 X.2.1 hd hi h1 (by rw [X.2.2.1]; exact hn) hl (fun ls1 g1 => kk H locs ls1 g1 h2 h3)
theorem r_astoreN (X : FX ad E cc nL own ret fr lo) {i : Nat} (L1 : List (Nat × Value)) (hd : decode cc pc = .ok (.astore i, 2)) (hn : i < nL) (hl : (i, Value.null) :: L.filter (fun q => !(q.1 == i) && !(q.1 + 1 == i && q.2.category == 2)) = L1) (kk : KK ad E Q (pc + 2) L1 (st) σ) : KK ad E Q (pc) L (.null :: st) σ := by
  obtain ⟨p, l, e, R, s, m, args, below, meth, c9, ⟨Z, A, k9, n9⟩, G⟩ := E
  intro H locs ls h1 h2 h3
  exact lv_astoreN X.1 X.2.1 hd h1 (by rw [X.2.2.1]; exact hn) hl (fun ls1 g1 => kk H locs ls1 g1 h2 h3)
theorem r_iinc (X : FX ad E cc nL own ret fr lo) {i : Nat} {n : Int} {x v : Int32} (L1 : List (Nat × Value)) (k : Nat) (hd : decode cc pc = .ok (.iinc i n, 3)) (hk : L[k]? = some (i, .int x)) (hv : x + Int32.ofInt n = v) (hn : i < nL) (hl : (i, Value.int v) :: L.filter (fun q => !(q.1 == i) && !(q.1 + 1 == i && q.2.category == 2)) = L1) (kk : KK ad E Q (pc + 3) L1 (st) σ) : KK ad E Q (pc) L (st) σ := by
  obtain ⟨p, l, e, R, s, m, args, below, meth, c9, ⟨Z, A, k9, n9⟩, G⟩ := E
  intro H locs ls h1 h2 h3
  exact lv_iinc X.1 X.2.1 hd h1 hk hv (by rw [X.2.2.1]; exact hn) hl (fun ls1 g1 => kk H locs ls1 g1 h2 h3)
theorem r_norm (X : FX ad E cc nL own ret fr lo) (ks : List Nat) (L1 : List (Nat × Value)) (hl : lv_pick L ks = L1) (kk : KK ad E Q (pc) L1 (st) σ) : KK ad E Q (pc) L (st) σ := by
  obtain ⟨p, l, e, R, s, m, args, below, meth, c9, ⟨Z, A, k9, n9⟩, G⟩ := E
  intro H locs ls h1 h2 h3
  exact kk H locs ls (lv_sub h1 ks hl) h2 h3
theorem r_iadd (X : FX ad E cc nL own ret fr lo) {x y : Int32} (hd : decode cc pc = .ok (.iadd, 1)) (kk : KK ad E Q (pc + 1) L (.int (x + y) :: st) σ) : KK ad E Q (pc) L (.int y :: .int x :: st) σ := by
  obtain ⟨p, l, e, R, s, m, args, below, meth, c9, ⟨Z, A, k9, n9⟩, G⟩ := E
  intro H locs ls h1 h2 h3
  exact lv_iadd X.1 X.2.1 hd (kk H locs ls h1 h2 h3)
theorem r_isub (X : FX ad E cc nL own ret fr lo) {x y : Int32} (hd : decode cc pc = .ok (.isub, 1)) (kk : KK ad E Q (pc + 1) L (.int (x - y) :: st) σ) : KK ad E Q (pc) L (.int y :: .int x :: st) σ := by
  obtain ⟨p, l, e, R, s, m, args, below, meth, c9, ⟨Z, A, k9, n9⟩, G⟩ := E
  intro H locs ls h1 h2 h3
  exact lv_isub X.1 X.2.1 hd (kk H locs ls h1 h2 h3)
theorem r_imul (X : FX ad E cc nL own ret fr lo) {x y : Int32} (hd : decode cc pc = .ok (.imul, 1)) (kk : KK ad E Q (pc + 1) L (.int (x * y) :: st) σ) : KK ad E Q (pc) L (.int y :: .int x :: st) σ := by
  obtain ⟨p, l, e, R, s, m, args, below, meth, c9, ⟨Z, A, k9, n9⟩, G⟩ := E
  intro H locs ls h1 h2 h3
  exact lv_imul X.1 X.2.1 hd (kk H locs ls h1 h2 h3)
theorem r_iand (X : FX ad E cc nL own ret fr lo) {x y : Int32} (hd : decode cc pc = .ok (.iand, 1)) (kk : KK ad E Q (pc + 1) L (.int (x &&& y) :: st) σ) : KK ad E Q (pc) L (.int y :: .int x :: st) σ := by
  obtain ⟨p, l, e, R, s, m, args, below, meth, c9, ⟨Z, A, k9, n9⟩, G⟩ := E
  intro H locs ls h1 h2 h3
  exact lv_iand X.1 X.2.1 hd (kk H locs ls h1 h2 h3)
theorem r_ior (X : FX ad E cc nL own ret fr lo) {x y : Int32} (hd : decode cc pc = .ok (.ior, 1)) (kk : KK ad E Q (pc + 1) L (.int (x ||| y) :: st) σ) : KK ad E Q (pc) L (.int y :: .int x :: st) σ := by
  obtain ⟨p, l, e, R, s, m, args, below, meth, c9, ⟨Z, A, k9, n9⟩, G⟩ := E
  intro H locs ls h1 h2 h3
  exact lv_ior X.1 X.2.1 hd (kk H locs ls h1 h2 h3)
theorem r_ixor (X : FX ad E cc nL own ret fr lo) {x y : Int32} (hd : decode cc pc = .ok (.ixor, 1)) (kk : KK ad E Q (pc + 1) L (.int (x ^^^ y) :: st) σ) : KK ad E Q (pc) L (.int y :: .int x :: st) σ := by
  obtain ⟨p, l, e, R, s, m, args, below, meth, c9, ⟨Z, A, k9, n9⟩, G⟩ := E
  intro H locs ls h1 h2 h3
  exact lv_ixor X.1 X.2.1 hd (kk H locs ls h1 h2 h3)
theorem r_ishl (X : FX ad E cc nL own ret fr lo) {x y : Int32} (hd : decode cc pc = .ok (.ishl, 1)) (kk : KK ad E Q (pc + 1) L (.int (x <<< (y &&& 31)) :: st) σ) : KK ad E Q (pc) L (.int y :: .int x :: st) σ := by
  obtain ⟨p, l, e, R, s, m, args, below, meth, c9, ⟨Z, A, k9, n9⟩, G⟩ := E
  intro H locs ls h1 h2 h3
  exact lv_ishl X.1 X.2.1 hd (kk H locs ls h1 h2 h3)
theorem r_ishr (X : FX ad E cc nL own ret fr lo) {x y : Int32} (hd : decode cc pc = .ok (.ishr, 1)) (kk : KK ad E Q (pc + 1) L (.int (x >>> (y &&& 31)) :: st) σ) : KK ad E Q (pc) L (.int y :: .int x :: st) σ := by
  obtain ⟨p, l, e, R, s, m, args, below, meth, c9, ⟨Z, A, k9, n9⟩, G⟩ := E
  intro H locs ls h1 h2 h3
  exact lv_ishr X.1 X.2.1 hd (kk H locs ls h1 h2 h3)
theorem r_iushr (X : FX ad E cc nL own ret fr lo) {x y : Int32} (hd : decode cc pc = .ok (.iushr, 1)) (kk : KK ad E Q (pc + 1) L (.int (x.toUInt32 >>> (y.toUInt32 &&& Int32.toUInt32 31)).toInt32 :: st) σ) : KK ad E Q (pc) L (.int y :: .int x :: st) σ := by
  obtain ⟨p, l, e, R, s, m, args, below, meth, c9, ⟨Z, A, k9, n9⟩, G⟩ := E
  intro H locs ls h1 h2 h3
  exact lv_iushr X.1 X.2.1 hd rfl (kk H locs ls h1 h2 h3)
theorem r_idiv (X : FX ad E cc nL own ret fr lo) {x y : Int32} (hd : decode cc pc = .ok (.idiv, 1)) (hy : ¬ y = 0) (kk : KK ad E Q (pc + 1) L (.int (x / y) :: st) σ) : KK ad E Q (pc) L (.int y :: .int x :: st) σ := by
  obtain ⟨p, l, e, R, s, m, args, below, meth, c9, ⟨Z, A, k9, n9⟩, G⟩ := E
  intro H locs ls h1 h2 h3
  exact lv_idiv X.1 X.2.1 hd hy (kk H locs ls h1 h2 h3)
theorem r_irem (X : FX ad E cc nL own ret fr lo) {x y : Int32} (hd : decode cc pc = .ok (.irem, 1)) (hy : ¬ y = 0) (kk : KK ad E Q (pc + 1) L (.int (x - x / y * y) :: st) σ) : KK ad E Q (pc) L (.int y :: .int x :: st) σ := by
  obtain ⟨p, l, e, R, s, m, args, below, meth, c9, ⟨Z, A, k9, n9⟩, G⟩ := E
  intro H locs ls h1 h2 h3
  exact lv_irem X.1 X.2.1 hd hy (kk H locs ls h1 h2 h3)
theorem r_ladd (X : FX ad E cc nL own ret fr lo) {x y : Int64} (hd : decode cc pc = .ok (.ladd, 1)) (kk : KK ad E Q (pc + 1) L (.long (x + y) :: st) σ) : KK ad E Q (pc) L (.long y :: .long x :: st) σ := by
  obtain ⟨p, l, e, R, s, m, args, below, meth, c9, ⟨Z, A, k9, n9⟩, G⟩ := E
  intro H locs ls h1 h2 h3
  exact lv_ladd X.1 X.2.1 hd (kk H locs ls h1 h2 h3)
theorem r_lsub (X : FX ad E cc nL own ret fr lo) {x y : Int64} (hd : decode cc pc = .ok (.lsub, 1)) (kk : KK ad E Q (pc + 1) L (.long (x - y) :: st) σ) : KK ad E Q (pc) L (.long y :: .long x :: st) σ := by
  obtain ⟨p, l, e, R, s, m, args, below, meth, c9, ⟨Z, A, k9, n9⟩, G⟩ := E
  intro H locs ls h1 h2 h3
  exact lv_lsub X.1 X.2.1 hd (kk H locs ls h1 h2 h3)
theorem r_lmul (X : FX ad E cc nL own ret fr lo) {x y : Int64} (hd : decode cc pc = .ok (.lmul, 1)) (kk : KK ad E Q (pc + 1) L (.long (x * y) :: st) σ) : KK ad E Q (pc) L (.long y :: .long x :: st) σ := by
  obtain ⟨p, l, e, R, s, m, args, below, meth, c9, ⟨Z, A, k9, n9⟩, G⟩ := E
  intro H locs ls h1 h2 h3
  exact lv_lmul X.1 X.2.1 hd (kk H locs ls h1 h2 h3)
theorem r_land (X : FX ad E cc nL own ret fr lo) {x y : Int64} (hd : decode cc pc = .ok (.land, 1)) (kk : KK ad E Q (pc + 1) L (.long (x &&& y) :: st) σ) : KK ad E Q (pc) L (.long y :: .long x :: st) σ := by
  obtain ⟨p, l, e, R, s, m, args, below, meth, c9, ⟨Z, A, k9, n9⟩, G⟩ := E
  intro H locs ls h1 h2 h3
  exact lv_land X.1 X.2.1 hd (kk H locs ls h1 h2 h3)
theorem r_ldiv (X : FX ad E cc nL own ret fr lo) {x y : Int64} (hd : decode cc pc = .ok (.ldiv, 1)) (hy : ¬ y = 0) (kk : KK ad E Q (pc + 1) L (.long (x / y) :: st) σ) : KK ad E Q (pc) L (.long y :: .long x :: st) σ := by
  obtain ⟨p, l, e, R, s, m, args, below, meth, c9, ⟨Z, A, k9, n9⟩, G⟩ := E
  intro H locs ls h1 h2 h3
  exact lv_ldiv X.1 X.2.1 hd hy (kk H locs ls h1 h2 h3)
theorem r_lrem (X : FX ad E cc nL own ret fr lo) {x y : Int64} (hd : decode cc pc = .ok (.lrem, 1)) (hy : ¬ y = 0) (kk : KK ad E Q (pc + 1) L (.long (x - x / y * y) :: st) σ) : KK ad E Q (pc) L (.long y :: .long x :: st) σ := by
  obtain ⟨p, l, e, R, s, m, args, below, meth, c9, ⟨Z, A, k9, n9⟩, G⟩ := E
  intro H locs ls h1 h2 h3
  exact lv_lrem X.1 X.2.1 hd hy (kk H locs ls h1 h2 h3)
theorem r_lshl (X : FX ad E cc nL own ret fr lo) {x : Int64} {y : Int32} (hd : decode cc pc = .ok (.lshl, 1)) (kk : KK ad E Q (pc + 1) L (.long (x <<< (y.toInt64 &&& 63)) :: st) σ) : KK ad E Q (pc) L (.int y :: .long x :: st) σ := by
  obtain ⟨p, l, e, R, s, m, args, below, meth, c9, ⟨Z, A, k9, n9⟩, G⟩ := E
  intro H locs ls h1 h2 h3
  exact lv_lshl X.1 X.2.1 hd rfl (kk H locs ls h1 h2 h3)
theorem r_lshr (X : FX ad E cc nL own ret fr lo) {x : Int64} {y : Int32} (hd : decode cc pc = .ok (.lshr, 1)) (kk : KK ad E Q (pc + 1) L (.long (x >>> (y.toInt64 &&& 63)) :: st) σ) : KK ad E Q (pc) L (.int y :: .long x :: st) σ := by
  obtain ⟨p, l, e, R, s, m, args, below, meth, c9, ⟨Z, A, k9, n9⟩, G⟩ := E
  intro H locs ls h1 h2 h3
  exact lv_lshr X.1 X.2.1 hd rfl (kk H locs ls h1 h2 h3)
theorem r_i2l (X : FX ad E cc nL own ret fr lo) {x : Int32} (hd : decode cc pc = .ok (.i2l, 1)) (kk : KK ad E Q (pc + 1) L (.long x.toInt64 :: st) σ) : KK ad E Q (pc) L (.int x :: st) σ := by
  obtain ⟨p, l, e, R, s, m, args, below, meth, c9, ⟨Z, A, k9, n9⟩, G⟩ := E
  intro H locs ls h1 h2 h3
  exact lv_i2l X.1 X.2.1 hd rfl (kk H locs ls h1 h2 h3)
theorem r_i2b (X : FX ad E cc nL own ret fr lo) {x : Int32} (hd : decode cc pc = .ok (.i2b, 1)) (kk : KK ad E Q (pc + 1) L (.int x.toInt8.toInt32 :: st) σ) : KK ad E Q (pc) L (.int x :: st) σ := by
  obtain ⟨p, l, e, R, s, m, args, below, meth, c9, ⟨Z, A, k9, n9⟩, G⟩ := E
  intro H locs ls h1 h2 h3
  exact lv_i2b X.1 X.2.1 hd rfl (kk H locs ls h1 h2 h3)
theorem r_i2s (X : FX ad E cc nL own ret fr lo) {x : Int32} (hd : decode cc pc = .ok (.i2s, 1)) (kk : KK ad E Q (pc + 1) L (.int x.toInt16.toInt32 :: st) σ) : KK ad E Q (pc) L (.int x :: st) σ := by
  obtain ⟨p, l, e, R, s, m, args, below, meth, c9, ⟨Z, A, k9, n9⟩, G⟩ := E
  intro H locs ls h1 h2 h3
  exact lv_i2s X.1 X.2.1 hd rfl (kk H locs ls h1 h2 h3)
theorem r_lcmp (X : FX ad E cc nL own ret fr lo) {x y : Int64} (hd : decode cc pc = .ok (.lcmp, 1)) (kk : KK ad E Q (pc + 1) L (.int (lg_cmp x y) :: st) σ) : KK ad E Q (pc) L (.long y :: .long x :: st) σ := by
  obtain ⟨p, l, e, R, s, m, args, below, meth, c9, ⟨Z, A, k9, n9⟩, G⟩ := E
  intro H locs ls h1 h2 h3
  exact W.lcmp X.1 X.2.1 hd (kk H locs ls h1 h2 h3)
theorem r_dup (X : FX ad E cc nL own ret fr lo) {v : Value} (hd : decode cc pc = .ok (.dup, 1)) (hv : v.category = 1) (kk : KK ad E Q (pc + 1) L (v :: v :: st) σ) : KK ad E Q (pc) L (v :: st) σ := by
  obtain ⟨p, l, e, R, s, m, args, below, meth, c9, ⟨Z, A, k9, n9⟩, G⟩ := E
  intro H locs ls h1 h2 h3
  exact lv_dup X.1 X.2.1 hd hv (kk H locs ls h1 h2 h3)
theorem r_pop (X : FX ad E cc nL own ret fr lo) {v : Value} (hd : decode cc pc = .ok (.pop, 1)) (hv : v.category = 1) (kk : KK ad E Q (pc + 1) L (st) σ) : KK ad E Q (pc) L (v :: st) σ := by
  obtain ⟨p, l, e, R, s, m, args, below, meth, c9, ⟨Z, A, k9, n9⟩, G⟩ := E
  intro H locs ls h1 h2 h3
  exact lv_pop X.1 X.2.1 hd hv (kk H locs ls h1 h2 h3)
theorem r_dup2 (X : FX ad E cc nL own ret fr lo) {v w : Value} (hd : decode cc pc = .ok (.dup2, 1)) (hv : v.category = 1) (hw : w.category = 1) (kk : KK ad E Q (pc + 1) L (v :: w :: v :: w :: st) σ) : KK ad E Q (pc) L (v :: w :: st) σ := by
  obtain ⟨p, l, e, R, s, m, args, below, meth, c9, ⟨Z, A, k9, n9⟩, G⟩ := E
  intro H locs ls h1 h2 h3
  exact lv_dup2_11 X.1 X.2.1 hd hv hw (kk H locs ls h1 h2 h3)
theorem r_if_eq (X : FX ad E cc nL own ret fr lo) {x : Int32} {off : Int} (tgt : Nat) (hd : decode cc pc = .ok (.ifCond .eq off, 3)) (ht : (pc : Int) + off = (tgt : Int)) (kt : x = 0 → KK ad E Q (tgt) L (st) σ) (kf : ¬ x = 0 → KK ad E Q (pc + 3) L (st) σ) : KK ad E Q (pc) L (.int x :: st) σ := by
  obtain ⟨p, l, e, R, s, m, args, below, meth, c9, ⟨Z, A, k9, n9⟩, G⟩ := E
  intro H locs ls h1 h2 h3
  exact lv_if_eq X.1 X.2.1 hd ht (fun q => kt q H locs ls h1 h2 h3) (fun q => kf q H locs ls h1 h2 h3)
theorem r_if_ne (X : FX ad E cc nL own ret fr lo) {x : Int32} {off : Int} (tgt : Nat) (hd : decode cc pc = .ok (.ifCond .ne off, 3)) (ht : (pc : Int) + off = (tgt : Int)) (kt : ¬ x = 0 → KK ad E Q (tgt) L (st) σ) (kf : x = 0 → KK ad E Q (pc + 3) L (st) σ) : KK ad E Q (pc) L (.int x :: st) σ := by
  obtain ⟨p, l, e, R, s, m, args, below, meth, c9, ⟨Z, A, k9, n9⟩, G⟩ := E
  intro H locs ls h1 h2 h3
  exact lv_if_ne X.1 X.2.1 hd ht (fun q => kt q H locs ls h1 h2 h3) (fun q => kf q H locs ls h1 h2 h3)
theorem r_if_lt (X : FX ad E cc nL own ret fr lo) {x : Int32} {off : Int} (tgt : Nat) (hd : decode cc pc = .ok (.ifCond .lt off, 3)) (ht : (pc : Int) + off = (tgt : Int)) (kt : x < 0 → KK ad E Q (tgt) L (st) σ) (kf : ¬ x < 0 → KK ad E Q (pc + 3) L (st) σ) : KK ad E Q (pc) L (.int x :: st) σ := by
  obtain ⟨p, l, e, R, s, m, args, below, meth, c9, ⟨Z, A, k9, n9⟩, G⟩ := E
  intro H locs ls h1 h2 h3
  exact lv_if_lt X.1 X.2.1 hd ht (fun q => kt q H locs ls h1 h2 h3) (fun q => kf q H locs ls h1 h2 h3)
theorem r_if_ge (X : FX ad E cc nL own ret fr lo) {x : Int32} {off : Int} (tgt : Nat) (hd : decode cc pc = .ok (.ifCond .ge off, 3)) (ht : (pc : Int) + off = (tgt : Int)) (kt : 0 ≤ x → KK ad E Q (tgt) L (st) σ) (kf : ¬ 0 ≤ x → KK ad E Q (pc + 3) L (st) σ) : KK ad E Q (pc) L (.int x :: st) σ := by
  obtain ⟨p, l, e, R, s, m, args, below, meth, c9, ⟨Z, A, k9, n9⟩, G⟩ := E
  intro H locs ls h1 h2 h3
  exact lv_if_ge X.1 X.2.1 hd ht (fun q => kt q H locs ls h1 h2 h3) (fun q => kf q H locs ls h1 h2 h3)
theorem r_if_gt (X : FX ad E cc nL own ret fr lo) {x : Int32} {off : Int} (tgt : Nat) (hd : decode cc pc = .ok (.ifCond .gt off, 3)) (ht : (pc : Int) + off = (tgt : Int)) (kt : 0 < x → KK ad E Q (tgt) L (st) σ) (kf : ¬ 0 < x → KK ad E Q (pc + 3) L (st) σ) : KK ad E Q (pc) L (.int x :: st) σ := by
  obtain ⟨p, l, e, R, s, m, args, below, meth, c9, ⟨Z, A, k9, n9⟩, G⟩ := E
  intro H locs ls h1 h2 h3
  exact lv_if_gt X.1 X.2.1 hd ht (fun q => kt q H locs ls h1 h2 h3) (fun q => kf q H locs ls h1 h2 h3)
theorem r_if_le (X : FX ad E cc nL own ret fr lo) {x : Int32} {off : Int} (tgt : Nat) (hd : decode cc pc = .ok (.ifCond .le off, 3)) (ht : (pc : Int) + off = (tgt : Int)) (kt : x ≤ 0 → KK ad E Q (tgt) L (st) σ) (kf : ¬ x ≤ 0 → KK ad E Q (pc + 3) L (st) σ) : KK ad E Q (pc) L (.int x :: st) σ := by
  obtain ⟨p, l, e, R, s, m, args, below, meth, c9, ⟨Z, A, k9, n9⟩, G⟩ := E
  intro H locs ls h1 h2 h3
  exact lv_if_le X.1 X.2.1 hd ht (fun q => kt q H locs ls h1 h2 h3) (fun q => kf q H locs ls h1 h2 h3)
theorem r_icmp_eq (X : FX ad E cc nL own ret fr lo) {x y : Int32} {off : Int} (tgt : Nat) (hd : decode cc pc = .ok (.if_icmp .eq off, 3)) (ht : (pc : Int) + off = (tgt : Int)) (kt : x = y → KK ad E Q (tgt) L (st) σ) (kf : ¬ x = y → KK ad E Q (pc + 3) L (st) σ) : KK ad E Q (pc) L (.int y :: .int x :: st) σ := by
  obtain ⟨p, l, e, R, s, m, args, below, meth, c9, ⟨Z, A, k9, n9⟩, G⟩ := E
  intro H locs ls h1 h2 h3
  exact lv_icmp_eq X.1 X.2.1 hd ht (fun q => kt q H locs ls h1 h2 h3) (fun q => kf q H locs ls h1 h2 h3)
theorem r_icmp_ne (X : FX ad E cc nL own ret fr lo) {x y : Int32} {off : Int} (tgt : Nat) (hd : decode cc pc = .ok (.if_icmp .ne off, 3)) (ht : (pc : Int) + off = (tgt : Int)) (kt : ¬ x = y → KK ad E Q (tgt) L (st) σ) (kf : x = y → KK ad E Q (pc + 3) L (st) σ) : KK ad E Q (pc) L (.int y :: .int x :: st) σ := by
  obtain ⟨p, l, e, R, s, m, args, below, meth, c9, ⟨Z, A, k9, n9⟩, G⟩ := E
  intro H locs ls h1 h2 h3
  exact lv_icmp_ne X.1 X.2.1 hd ht (fun q => kt q H locs ls h1 h2 h3) (fun q => kf q H locs ls h1 h2 h3)
theorem r_icmp_lt (X : FX ad E cc nL own ret fr lo) {x y : Int32} {off : Int} (tgt : Nat) (hd : decode cc pc = .ok (.if_icmp .lt off, 3)) (ht : (pc : Int) + off = (tgt : Int)) (kt : x < y → KK ad E Q (tgt) L (st) σ) (kf : ¬ x < y → KK ad E Q (pc + 3) L (st) σ) : KK ad E Q (pc) L (.int y :: .int x :: st) σ := by
  obtain ⟨p, l, e, R, s, m, args, below, meth, c9, ⟨Z, A, k9, n9⟩, G⟩ := E
  intro H locs ls h1 h2 h3
  exact lv_icmp_lt X.1 X.2.1 hd ht (fun q => kt q H locs ls h1 h2 h3) (fun q => kf q H locs ls h1 h2 h3)
theorem r_icmp_ge (X : FX ad E cc nL own ret fr lo) {x y : Int32} {off : Int} (tgt : Nat) (hd : decode cc pc = .ok (.if_icmp .ge off, 3)) (ht : (pc : Int) + off = (tgt : Int)) (kt : y ≤ x → KK ad E Q (tgt) L (st) σ) (kf : ¬ y ≤ x → KK ad E Q (pc + 3) L (st) σ) : KK ad E Q (pc) L (.int y :: .int x :: st) σ := by
  obtain ⟨p, l, e, R, s, m, args, below, meth, c9, ⟨Z, A, k9, n9⟩, G⟩ := E
  intro H locs ls h1 h2 h3
  exact lv_icmp_ge X.1 X.2.1 hd ht (fun q => kt q H locs ls h1 h2 h3) (fun q => kf q H locs ls h1 h2 h3)
theorem r_icmp_gt (X : FX ad E cc nL own ret fr lo) {x y : Int32} {off : Int} (tgt : Nat) (hd : decode cc pc = .ok (.if_icmp .gt off, 3)) (ht : (pc : Int) + off = (tgt : Int)) (kt : y < x → KK ad E Q (tgt) L (st) σ) (kf : ¬ y < x → KK ad E Q (pc + 3) L (st) σ) : KK ad E Q (pc) L (.int y :: .int x :: st) σ := by
  obtain ⟨p, l, e, R, s, m, args, below, meth, c9, ⟨Z, A, k9, n9⟩, G⟩ := E
  intro H locs ls h1 h2 h3
  exact lv_icmp_gt X.1 X.2.1 hd ht (fun q => kt q H locs ls h1 h2 h3) (fun q => kf q H locs ls h1 h2 h3)
theorem r_icmp_le (X : FX ad E cc nL own ret fr lo) {x y : Int32} {off : Int} (tgt : Nat) (hd : decode cc pc = .ok (.if_icmp .le off, 3)) (ht : (pc : Int) + off = (tgt : Int)) (kt : x ≤ y → KK ad E Q (tgt) L (st) σ) (kf : ¬ x ≤ y → KK ad E Q (pc + 3) L (st) σ) : KK ad E Q (pc) L (.int y :: .int x :: st) σ := by
  obtain ⟨p, l, e, R, s, m, args, below, meth, c9, ⟨Z, A, k9, n9⟩, G⟩ := E
  intro H locs ls h1 h2 h3
  exact lv_icmp_le X.1 X.2.1 hd ht (fun q => kt q H locs ls h1 h2 h3) (fun q => kf q H locs ls h1 h2 h3)
theorem r_goto (X : FX ad E cc nL own ret fr lo) {off : Int} (tgt : Nat) (hd : decode cc pc = .ok (.goto off, 3)) (ht : (pc : Int) + off = (tgt : Int)) (kk : KK ad E Q (tgt) L (st) σ) : KK ad E Q (pc) L (st) σ := by
  obtain ⟨p, l, e, R, s, m, args, below, meth, c9, ⟨Z, A, k9, n9⟩, G⟩ := E
  intro H locs ls h1 h2 h3
  exact lv_goto X.1 X.2.1 hd ht (kk H locs ls h1 h2 h3)
theorem r_ifnonnull (X : FX ad E cc nL own ret fr lo) {x : Nat} {off : Int} (tgt : Nat) (hd : decode cc pc = .ok (.ifnonnull off, 3)) (ht : (pc : Int) + off = (tgt : Int)) (kk : KK ad E Q (tgt) L (st) σ) : KK ad E Q (pc) L (.ref x :: st) σ := by
  obtain ⟨p, l, e, R, s, m, args, below, meth, c9, ⟨Z, A, k9, n9⟩, G⟩ := E
  intro H locs ls h1 h2 h3
  exact lv_ifnonnull X.1 X.2.1 hd ht (kk H locs ls h1 h2 h3)
theorem r_ifnull (X : FX ad E cc nL own ret fr lo) {x : Nat} {off : Int} (hd : decode cc pc = .ok (.ifnull off, 3)) (kk : KK ad E Q (pc + 3) L (st) σ) : KK ad E Q (pc) L (.ref x :: st) σ := by
  obtain ⟨p, l, e, R, s, m, args, below, meth, c9, ⟨Z, A, k9, n9⟩, G⟩ := E
  intro H locs ls h1 h2 h3
  exact lv_ifnull X.1 X.2.1 hd (kk H locs ls h1 h2 h3)
theorem r_ifnullN (X : FX ad E cc nL own ret fr lo) {off : Int} (tgt : Nat) (hd : decode cc pc = .ok (.ifnull off, 3)) (ht : (pc : Int) + off = (tgt : Int)) (kk : KK ad E Q (tgt) L (st) σ) : KK ad E Q (pc) L (.null :: st) σ := by
  obtain ⟨p, l, e, R, s, m, args, below, meth, c9, ⟨Z, A, k9, n9⟩, G⟩ := E
  intro H locs ls h1 h2 h3
  exact lv_ifnullN X.1 X.2.1 hd ht (kk H locs ls h1 h2 h3)
theorem r_ifnonnullN (X : FX ad E cc nL own ret fr lo) {off : Int} (hd : decode cc pc = .ok (.ifnonnull off, 3)) (kk : KK ad E Q (pc + 3) L (st) σ) : KK ad E Q (pc) L (.null :: st) σ := by
  obtain ⟨p, l, e, R, s, m, args, below, meth, c9, ⟨Z, A, k9, n9⟩, G⟩ := E
  intro H locs ls h1 h2 h3
  exact lv_ifnonnullN X.1 X.2.1 hd (kk H locs ls h1 h2 h3)
theorem r_tabIn (X : FX ad E cc nL own ret fr lo) {dflt lo1 hi1 : Int} {offs : Array Int} {len : Nat} {x : Int32} {off : Int} (tgt : Nat) (hd : decode cc pc = .ok (.tableswitch dflt lo1 hi1 offs, len)) (g1 : ¬ x.toInt < lo1) (g2 : ¬ hi1 < x.toInt) (ho : offs[(x.toInt - lo1).toNat]? = some off) (ht : (pc : Int) + off = (tgt : Int)) (kk : KK ad E Q (tgt) L (st) σ) : KK ad E Q (pc) L (.int x :: st) σ := by
  obtain ⟨p, l, e, R, s, m, args, below, meth, c9, ⟨Z, A, k9, n9⟩, G⟩ := E
  intro H locs ls h1 h2 h3
  exact lv_tableIn X.1 X.2.1 hd g1 g2 ho ht (kk H locs ls h1 h2 h3)
theorem r_tabOut (X : FX ad E cc nL own ret fr lo) {dflt lo1 hi1 : Int} {offs : Array Int} {len : Nat} {x : Int32} (tgt : Nat) (hd : decode cc pc = .ok (.tableswitch dflt lo1 hi1 offs, len)) (g1 : x.toInt < lo1 ∨ hi1 < x.toInt) (ht : (pc : Int) + dflt = (tgt : Int)) (kk : KK ad E Q (tgt) L (st) σ) : KK ad E Q (pc) L (.int x :: st) σ := by
  obtain ⟨p, l, e, R, s, m, args, below, meth, c9, ⟨Z, A, k9, n9⟩, G⟩ := E
  intro H locs ls h1 h2 h3
  exact lv_tableOut X.1 X.2.1 hd g1 ht (kk H locs ls h1 h2 h3)
theorem r_iret (X : FX ad E cc nL own ret fr lo) (hr0 : ret = some .int) {v : Int32} (hd : decode cc pc = .ok (.ireturn, 1)) (hq : Q (some (.int v)) σ) : KK ad E Q pc L [.int v] σ := by
  obtain ⟨p, l, e, R, s, m, args, below, meth, c9, ⟨Z, A, k9, n9⟩, G⟩ := E
  intro H locs ls h1 h2 h3
  obtain ⟨hx, hb, -, -, -, -, -, hr1, hlk, -, -, -, -⟩ := X
  subst hr0
  obtain ⟨hr, rfl, rfl, rfl, rfl⟩ := hr1 (by simp)
  exact W.iret hx hb hr (fun t ht hW => ⟨⟨_, σ, rfl, hq, by rw [ht]; exact h2⟩, h3.F ht⟩) h3.2.2 hd hlk
theorem r_zret (X : FX ad E cc nL own ret fr lo) (hr0 : ret = some .boolean) {v : Int32} (hd : decode cc pc = .ok (.ireturn, 1)) (hv : v = 0 ∨ v = 1) (hq : Q (some (.int v)) σ) : KK ad E Q pc L [.int v] σ := by
  obtain ⟨p, l, e, R, s, m, args, below, meth, c9, ⟨Z, A, k9, n9⟩, G⟩ := E
  intro H locs ls h1 h2 h3
  obtain ⟨hx, hb, -, -, -, -, -, hr1, hlk, -, -, -, -⟩ := X
  subst hr0
  obtain ⟨hr, rfl, rfl, rfl, rfl⟩ := hr1 (by simp)
  exact W.zret hx hb hr (by rcases hv with rfl | rfl <;> rfl) (fun t ht hW => ⟨⟨_, σ, rfl, hq, by rw [ht]; exact h2⟩, h3.F ht⟩) h3.2.2 hd hlk
theorem r_lret (X : FX ad E cc nL own ret fr lo) (hr0 : ret = some .long) {v : Int64} (hd : decode cc pc = .ok (.lreturn, 1)) (hq : Q (some (.long v)) σ) : KK ad E Q pc L [.long v] σ := by
  obtain ⟨p, l, e, R, s, m, args, below, meth, c9, ⟨Z, A, k9, n9⟩, G⟩ := E
  intro H locs ls h1 h2 h3
  obtain ⟨hx, hb, -, -, -, -, -, hr1, hlk, -, -, -, -⟩ := X
  subst hr0
  obtain ⟨hr, rfl, rfl, rfl, rfl⟩ := hr1 (by simp)
  exact W.lret hx hb hr (fun t ht hW => ⟨⟨_, σ, rfl, hq, by rw [ht]; exact h2⟩, h3.F ht⟩) h3.2.2 hd hlk
theorem r_vret (X : FX ad E cc nL own ret fr lo) (hr0 : ret = none) (hd : decode cc pc = .ok (.return_, 1)) (hq : Q none σ) : KK ad E Q pc L [] σ := by
  obtain ⟨p, l, e, R, s, m, args, below, meth, c9, ⟨Z, A, k9, n9⟩, G⟩ := E
  intro H locs ls h1 h2 h3
  obtain ⟨hx, hb, -, -, -, -, -, hr1, hlk, -, -, -, -⟩ := X
  subst hr0
  obtain ⟨hr, rfl, rfl, rfl, rfl⟩ := hr1 (by simp)
  exact W.vret hx hb hr (fun t ht hW => ⟨⟨_, σ, rfl, hq, by rw [ht]; exact h2⟩, h3.F ht⟩) h3.2.2 hd hlk
theorem r_aret (X : FX ad E cc nL own ret fr lo) {C : String} (hr0 : ret = some (.object C)) {a : Nat} (hd : decode cc pc = .ok (.areturn, 1)) (hq : Q (some (.ref a)) σ) : KK ad E Q pc L [.ref a] σ := by
  obtain ⟨p, l, e, R, s, m, args, below, meth, c9, ⟨Z, A, k9, n9⟩, G⟩ := E
  intro H locs ls h1 h2 h3
  obtain ⟨hx, hb, -, -, -, -, -, hr1, hlk, -, -, -, -⟩ := X
  subst hr0
  obtain ⟨hr, rfl, rfl, rfl, rfl⟩ := hr1 (by simp)
  exact W.aret hx hb hr (Or.inl ⟨_, rfl⟩) (Or.inr ⟨_, rfl⟩) (fun t ht hW => ⟨⟨_, σ, rfl, hq, by rw [ht]; exact h2⟩, h3.F ht⟩) h3.2.2 hd hlk
theorem r_aretN (X : FX ad E cc nL own ret fr lo) {C : String} (hr0 : ret = some (.object C)) (hd : decode cc pc = .ok (.areturn, 1)) (hq : Q (some .null) σ) : KK ad E Q pc L [.null] σ := by
  obtain ⟨p, l, e, R, s, m, args, below, meth, c9, ⟨Z, A, k9, n9⟩, G⟩ := E
  intro H locs ls h1 h2 h3
  obtain ⟨hx, hb, -, -, -, -, -, hr1, hlk, -, -, -, -⟩ := X
  subst hr0
  obtain ⟨hr, rfl, rfl, rfl, rfl⟩ := hr1 (by simp)
  exact W.aret hx hb hr (Or.inl ⟨_, rfl⟩) (Or.inl rfl) (fun t ht hW => ⟨⟨_, σ, rfl, hq, by rw [ht]; exact h2⟩, h3.F ht⟩) h3.2.2 hd hlk
theorem r_get (X : FX ad E cc nL own ret fr lo) {o c N : Nat} {R1 ref : String} {T : u_T} {index : Nat} (ho : x_cl o = c) (h8 : c < 8) (hcl : x_cls[c]? = some (R1, T, N)) (hin : ∀ w ∈ u_ws R1 T N, w ∈ x_big) (k : Nat) (hk : k < N) (href : (T k).1 = ref) (hlink : Cond.fieldLink own index ref (T k).2.1 (T k).2.2.1 ∈ x_big) {v : Value} (hv : (x_fl ad σ c o)[k]? = some v) (hd : decode cc pc = .ok (.getfield index, 3)) (kk : KK ad E Q (pc + 3) L (v :: st) σ) : KK ad E Q (pc) L (.ref (ad o 0 0) :: st) σ := by
  obtain ⟨p, l, e, R, s, m, args, below, meth, c9, ⟨Z, A, k9, n9⟩, G⟩ := E
  intro H locs ls h1 h2 h3
  subst href
  exact va_get X.1 X.2.1 X.2.2.2.2.1 hin X.2.2.2.1 X.2.2.2.2.2.1.1 (h2.one (x_ent_o ho h8)) 0 rfl hcl k hk (X.2.2.2.2.1 _ hlink) (fun _ q => q) hv hd (kk H locs ls h1 h2 h3)
theorem r_getN (X : FX ad E cc nL own ret fr lo) {o c N : Nat} {R1 ref host : String} {T : u_T} {index : Nat} (ho : x_cl o = c) (h8 : c < 8) (hcl : x_cls[c]? = some (R1, T, N)) (hin : ∀ w ∈ u_ws R1 T N, w ∈ x_big) (k : Nat) (hk : k < N) (href : (T k).1 = ref) (hlink : (own, index, ref, (T k).2.1, (T k).2.2.1, host) ∈ x_nf) {v : Value} (hv : (x_fl ad σ c o)[k]? = some v) (hd : decode cc pc = .ok (.getfield index, 3)) (kk : KK ad E Q (pc + 3) L (v :: st) σ) : KK ad E Q (pc) L (.ref (ad o 0 0) :: st) σ := by
  obtain ⟨p, l, e, R, s, m, args, below, meth, c9, ⟨Z, A, k9, n9⟩, G⟩ := E
  intro H locs ls h1 h2 h3
  subst href
  exact va_getN (host := host) X.1 X.2.1 X.2.2.2.2.1 hin X.2.2.2.1 X.2.2.2.2.2.1.1 (h2.one (x_ent_o ho h8)) 0 rfl hcl k hk (va_Nw.use rfl (X.2.2.2.2.2.1.2.1 _ hlink)) (fun _ q => q) hv hd (kk H locs ls h1 h2 h3)
theorem r_put (X : FX ad E cc nL own ret fr lo) {o c N : Nat} {R1 ref : String} {T : u_T} {index : Nat} (ho : x_cl o = c) (h8 : c < 8) (hcl : x_cls[c]? = some (R1, T, N)) (hin : ∀ w ∈ u_ws R1 T N, w ∈ x_big) (ty0 : Nat → FieldType) (hty : ∀ k, k < N → parseFieldDescriptor (T k).2.2.1 = some (ty0 k)) (hnm : ∀ a, a < N → ∀ b, b < N → a ≠ b → (T a).2.1 ≠ (T b).2.1) (k : Nat) (hk : k < N) (href : (T k).1 = ref) (hlink : Cond.fieldLink own index ref (T k).2.1 (T k).2.2.1 ∈ x_big) (hfin : (T k).2.2.2 = false) {ty : FieldType} {v : Int32} (hdd : parseFieldDescriptor (T k).2.2.1 = some ty) (hn : narrow ty (.int v) = .int v) (hfit : fits ty (.int v) = true) (hl : k < (x_fl ad σ c o).length) (hset : x_fl ad (xsI σ o k v) c o = (x_fl ad σ c o).set k (.int v)) (hd : decode cc pc = .ok (.putfield index, 3)) (kk : KK ad E Q (pc + 3) L (st) (xsI σ o k v)) : KK ad E Q (pc) L (.int v :: .ref (ad o 0 0) :: st) σ := by
  obtain ⟨p, l, e, R, s, m, args, below, meth, c9, ⟨Z, A, k9, n9⟩, G⟩ := E
  intro H locs ls h1 h2 h3
  subst href
  obtain ⟨hx, hb, -, hown, hts, hV, hJ, -, -, -, -, hA, -⟩ := X
  have hK := hV.1
  have hin2 : ∀ w ∈ u_ws R1 T N, w ∈ x_big := hin
  have hap := va_apart (own := own) hts hin2 ty0 hty hnm hK hcl
  have he0 := x_ent_o (ad := ad) (G := G) (σ := σ) ho h8
  obtain ⟨r, g1, cell, q1, q2, q3, q4⟩ := h2 o 0 0 _ he0
  have hr : r = (R1, T, N) := Option.some.inj (g1.symm.trans hcl)
  subst hr
  obtain ⟨hS, hfc, kC, hkC, hkind⟩ := hK.1 c _ hcl
  obtain ⟨cf, kf, fi, f, hi, hsl⟩ := hS k hk
  have hlay := hts _ (hin2 _ (u_in_lay hk))
  unfold u_lay at hlay
  rw [if_neg (by rw [hfin]; decide)] at hlay
  have hst := (u_facts hfc hkC (u_lays hts hin2 hk) hi).1
  have h6 := u_store hfc hkC hkind hlay hi hdd hn hfit
  refine W.putK hx hb (f := f) ⟨hown, hts _ hlink, ⟨_, _, _, hi⟩, hst⟩ (by rw [q2]; exact h6) q1 q3 (by rw [hsl]; exact k2_hasslot (q4 k hk)) rfl rfl hd fun H' e1 e2 e3 => ?_
  rw [hsl] at e1 ⊢
  refine kk H' _ ls h1 (h2.set (e := .inr (c, (x_fl ad σ c o).set k (.int v))) hJ (x_ent_dom he0) (by rw [x_ent_o ho h8, hset]) (fun o' f' r' q => x_ent_setI q) ⟨_, hcl, t_OB.to (V := updV (vp_V (x_fl ad σ c o)) k (.int v)) ⟨_, e1, q2, q3, t_set q4 hap hk _⟩ (fun j _ => vp_updV_set hl _ j)⟩ e3) (h3.put e2 e3 (hA _ ⟨o, 0, 0, x_ent_dom he0, rfl⟩))
theorem r_putN (X : FX ad E cc nL own ret fr lo) {o c N : Nat} {R1 ref host : String} {T : u_T} {index : Nat} (ho : x_cl o = c) (h8 : c < 8) (hcl : x_cls[c]? = some (R1, T, N)) (hin : ∀ w ∈ u_ws R1 T N, w ∈ x_big) (ty0 : Nat → FieldType) (hty : ∀ k, k < N → parseFieldDescriptor (T k).2.2.1 = some (ty0 k)) (hnm : ∀ a, a < N → ∀ b, b < N → a ≠ b → (T a).2.1 ≠ (T b).2.1) (k : Nat) (hk : k < N) (href : (T k).1 = ref) (hlink : (own, index, ref, (T k).2.1, (T k).2.2.1, host) ∈ x_nf) (hfin : (T k).2.2.2 = false) {ty : FieldType} {v : Int32} (hdd : parseFieldDescriptor (T k).2.2.1 = some ty) (hn : narrow ty (.int v) = .int v) (hfit : fits ty (.int v) = true) (hl : k < (x_fl ad σ c o).length) (hset : x_fl ad (xsI σ o k v) c o = (x_fl ad σ c o).set k (.int v)) (hd : decode cc pc = .ok (.putfield index, 3)) (kk : KK ad E Q (pc + 3) L (st) (xsI σ o k v)) : KK ad E Q (pc) L (.int v :: .ref (ad o 0 0) :: st) σ := by
  obtain ⟨p, l, e, R, s, m, args, below, meth, c9, ⟨Z, A, k9, n9⟩, G⟩ := E
  intro H locs ls h1 h2 h3
  subst href
  obtain ⟨hx, hb, -, hown, hts, hV, hJ, -, -, -, -, hA, -⟩ := X
  have hK := hV.1
  have hin2 : ∀ w ∈ u_ws R1 T N, w ∈ x_big := hin
  have hap := va_apart (own := own) hts hin2 ty0 hty hnm hK hcl
  have he0 := x_ent_o (ad := ad) (G := G) (σ := σ) ho h8
  obtain ⟨r, g1, cell, q1, q2, q3, q4⟩ := h2 o 0 0 _ he0
  have hr : r = (R1, T, N) := Option.some.inj (g1.symm.trans hcl)
  subst hr
  obtain ⟨hS, hfc, kC, hkC, hkind⟩ := hK.1 c _ hcl
  obtain ⟨cf, kf, fi, f, hi, hsl⟩ := hS k hk
  have hlay := hts _ (hin2 _ (u_in_lay hk))
  unfold u_lay at hlay
  rw [if_neg (by rw [hfin]; decide)] at hlay
  have hst := (u_facts hfc hkC (u_lays hts hin2 hk) hi).1
  have h6 := u_store hfc hkC hkind hlay hi hdd hn hfit
  refine va_WputK hx hb (f := f) (host := host) hown (va_Nw.use rfl (hV.2.1 _ hlink)) hi hst (by rw [q2]; exact h6) q1 q3 (by rw [hsl]; exact k2_hasslot (q4 k hk)) rfl rfl hd fun H' e1 e2 e3 => ?_
  rw [hsl] at e1 ⊢
  refine kk H' _ ls h1 (h2.set (e := .inr (c, (x_fl ad σ c o).set k (.int v))) hJ (x_ent_dom he0) (by rw [x_ent_o ho h8, hset]) (fun o' f' r' q => x_ent_setI q) ⟨_, hcl, t_OB.to (V := updV (vp_V (x_fl ad σ c o)) k (.int v)) ⟨_, e1, q2, q3, t_set q4 hap hk _⟩ (fun j _ => vp_updV_set hl _ j)⟩ e3) (h3.put e2 e3 (hA _ ⟨o, 0, 0, x_ent_dom he0, rfl⟩))
theorem r_iald (X : FX ad E cc nL own ret fr lo) {o c k n : Nat} (ho : x_cl o = c) (ha : x_ar c o k = some (0, n)) {i : Int32} (hin : vp_in i n) (hd : decode cc pc = .ok (.iaload, 1)) (kk : KK ad E Q (pc + 1) L (.int (xA σ o k i.toNatClampNeg) :: st) σ) : KK ad E Q (pc) L (.int i :: .ref (ad o (k + 1) 0) :: st) σ := by
  obtain ⟨p, l, e, R, s, m, args, below, meth, c9, ⟨Z, A, k9, n9⟩, G⟩ := E
  intro H locs ls h1 h2 h3
  subst ho
  exact va_iald X.1 X.2.1 X.2.2.2.2.2.1.1 (h2.one (x_ent_a ha)) 0 0 rfl rfl hin hd (kk H locs ls h1 h2 h3)
theorem r_zald (X : FX ad E cc nL own ret fr lo) {o c k n : Nat} (ho : x_cl o = c) (ha : x_ar c o k = some (1, n)) {i : Int32} (hin : vp_in i n) (hd : decode cc pc = .ok (.baload, 1)) (kk : KK ad E Q (pc + 1) L (.int (xA σ o k i.toNatClampNeg) :: st) σ) : KK ad E Q (pc) L (.int i :: .ref (ad o (k + 1) 0) :: st) σ := by
  obtain ⟨p, l, e, R, s, m, args, below, meth, c9, ⟨Z, A, k9, n9⟩, G⟩ := E
  intro H locs ls h1 h2 h3
  subst ho
  exact va_zald X.1 X.2.1 X.2.2.2.2.2.1.1 (h2.one (x_ent_z ha)) 0 1 rfl rfl hin hd (kk H locs ls h1 h2 h3)
theorem r_iald2 (X : FX ad E cc nL own ret fr lo) {o c k n : Nat} (ho : x_cl o = c) (ha : x_ar c o k = some (2, n)) {r i : Int32} (hr : vp_in r 20) (hin : vp_in i n) (hd : decode cc pc = .ok (.iaload, 1)) (kk : KK ad E Q (pc + 1) L (.int (xB σ o k r.toNatClampNeg i.toNatClampNeg) :: st) σ) : KK ad E Q (pc) L (.int i :: .ref (ad o (k + 1) (r.toNatClampNeg + 1)) :: st) σ := by
  obtain ⟨p, l, e, R, s, m, args, below, meth, c9, ⟨Z, A, k9, n9⟩, G⟩ := E
  intro H locs ls h1 h2 h3
  subst ho
  exact va_iald X.1 X.2.1 X.2.2.2.2.2.1.1 (h2.one (x_ent_r ha (Nat.not_le.mp fun q => hr (Or.inr q)))) 0 0 rfl rfl hin hd (kk H locs ls h1 h2 h3)
theorem r_alen (X : FX ad E cc nL own ret fr lo) {o c k n : Nat} (ho : x_cl o = c) (ha : x_ar c o k = some (0, n)) {v : Int32} (hv : Int32.ofNat n = v) (hd : decode cc pc = .ok (.arraylength, 1)) (kk : KK ad E Q (pc + 1) L (.int v :: st) σ) : KK ad E Q (pc) L (.ref (ad o (k + 1) 0) :: st) σ := by
  obtain ⟨p, l, e, R, s, m, args, below, meth, c9, ⟨Z, A, k9, n9⟩, G⟩ := E
  intro H locs ls h1 h2 h3
  subst ho
  exact va_alen X.1 X.2.1 X.2.2.2.2.2.1.1 (h2.one (x_ent_a ha)) 0 0 rfl rfl hv hd (kk H locs ls h1 h2 h3)
theorem r_aald (X : FX ad E cc nL own ret fr lo) {o c k n : Nat} (ho : x_cl o = c) (ha : x_ar c o k = some (2, n)) {i : Int32} (hin : vp_in i 20) (hd : decode cc pc = .ok (.aaload, 1)) (kk : KK ad E Q (pc + 1) L (.ref (ad o (k + 1) (i.toNatClampNeg + 1)) :: st) σ) : KK ad E Q (pc) L (.int i :: .ref (ad o (k + 1) 0) :: st) σ := by
  obtain ⟨p, l, e, R, s, m, args, below, meth, c9, ⟨Z, A, k9, n9⟩, G⟩ := E
  intro H locs ls h1 h2 h3
  subst ho
  have hlt : i.toNatClampNeg < 20 := Nat.not_le.mp fun q => hin (Or.inr q)
  have hc : H[ad o (k + 1) 0]? = some (vp_cell G.2.2.2.2 (20, .inr (.inr (.inr (.inr (x_q ad o k)))))) := h2 o (k + 1) 0 _ (x_ent_g ha)
  have hv : va_rf (x_q ad o k i.toNatClampNeg) = .ref (ad o (k + 1) (i.toNatClampNeg + 1)) := by unfold x_q; rw [if_pos hlt]; rfl
  obtain ⟨N, hN⟩ : ∃ N : Nat, N = 20 := ⟨20, rfl⟩
  rw [← hN] at hin hc hlt
  exact W.aald (v := .ref (ad o (k + 1) (i.toNatClampNeg + 1))) (ty := .array .int) X.1 X.2.1 hc ((X.2.2.2.2.2.1.1.2 3 _ rfl).1 N (fun j => va_rf (x_q ad o k j))) rfl (fun q => by cases q) (by show ¬ (i < 0 ∨ (arrV _ _ _).slots.size ≤ _); rw [arrV_size]; exact hin) (by show (arrV _ _ _).slots[_]? = _; rw [arrV_read _ _ hlt]; rw [hv]) rfl rfl hd (kk H locs ls h1 h2 h3)
theorem r_aaldS (X : FX ad E cc nL own ret fr lo) {i : Int32} (hin : vp_in i 4) (hd : decode cc pc = .ok (.aaload, 1)) (kk : KK ad E Q (pc + 1) L (.ref (ad (9 + i.toNatClampNeg) 0 0) :: st) σ) : KK ad E Q (pc) L (.int i :: .ref (ad 0 9 0) :: st) σ := by
  obtain ⟨p, l, e, R, s, m, args, below, meth, c9, ⟨Z, A, k9, n9⟩, G⟩ := E
  intro H locs ls h1 h2 h3
  have hlt : i.toNatClampNeg < 4 := Nat.not_le.mp fun q => hin (Or.inr q)
  have hc : H[ad 0 9 0]? = some (vp_cell G.2.2.2.1 (4, .inr (.inr (.inr (.inr (x_sh ad)))))) := h2 0 9 0 _ rfl
  exact W.aald (v := .ref (ad (9 + i.toNatClampNeg) 0 0)) (ty := .object "WoodliceSenate$Sheet") X.1 X.2.1 hc ((X.2.2.2.2.2.1.1.2 2 _ rfl).1 4 (fun j => va_rf (x_sh ad j))) rfl (fun q => by cases q) (by show ¬ (i < 0 ∨ (arrV _ _ _).slots.size ≤ _); rw [arrV_size]; exact hin) (by show (arrV _ _ _).slots[_]? = _; rw [arrV_read _ _ hlt]; show some (va_rf (x_sh ad _)) = _; unfold x_sh; rw [if_pos hlt]; rfl) rfl rfl hd (kk H locs ls h1 h2 h3)
theorem r_iast (X : FX ad E cc nL own ret fr lo) {o c k n : Nat} (ho : x_cl o = c) (ha : x_ar c o k = some (0, n)) {i x : Int32} (hin : vp_in i n) (hd : decode cc pc = .ok (.iastore, 1)) (kk : KK ad E Q (pc + 1) L (st) (xuA σ o k i.toNatClampNeg x)) : KK ad E Q (pc) L (.int x :: .int i :: .ref (ad o (k + 1) 0) :: st) σ := by
  obtain ⟨p, l, e, R, s, m, args, below, meth, c9, ⟨Z, A, k9, n9⟩, G⟩ := E
  intro H locs ls h1 h2 h3
  subst ho
  obtain ⟨hx, hb, -, -, -, hV, hJ, -, -, -, -, hA, -⟩ := X
  have he0 := x_ent_a (ad := ad) (G := G) (σ := σ) ha
  have hc : H[ad o (k + 1) 0]? = some (vp_cell _ _) := h2 _ _ _ _ he0
  refine W.iast hx hb hc ((hV.1.2 0 _ rfl).1 n (fun j => .int (xA σ o k j))) (fun q => by cases q) (by show ¬ (i < 0 ∨ (arrV _ _ _).slots.size ≤ _); rw [arrV_size]; exact hin) rfl rfl hd fun H1 e z oq => ?_
  refine kk H1 _ ls h1 (h2.set hJ (x_ent_dom he0) (x_ent_a ha) (fun o' f' r' q => x_ent_setA q) ?_ oq) (h3.put z oq (hA _ ⟨_, _, _, x_ent_dom he0, rfl⟩))
  show H1[ad o (k + 1) 0]? = some (vp_cell _ _)
  rw [e]
  rw [vp_cell_i, vp_cell_i, arrV_store]
  congr 2
  funext q
  
  by_cases hq : q = i.toNatClampNeg
  · subst hq
    simp [updV, upd, vp_nar, xuA, xsA, xA]
    try rfl
  · simp [updV, upd, hq, xuA, xsA, xA]
theorem r_zast (X : FX ad E cc nL own ret fr lo) {o c k n : Nat} (ho : x_cl o = c) (ha : x_ar c o k = some (1, n)) {i x : Int32} (hin : vp_in i n) (hd : decode cc pc = .ok (.bastore, 1)) (kk : KK ad E Q (pc + 1) L (st) (xuA σ o k i.toNatClampNeg (vp_nar .boolean x))) : KK ad E Q (pc) L (.int x :: .int i :: .ref (ad o (k + 1) 0) :: st) σ := by
  obtain ⟨p, l, e, R, s, m, args, below, meth, c9, ⟨Z, A, k9, n9⟩, G⟩ := E
  intro H locs ls h1 h2 h3
  subst ho
  obtain ⟨hx, hb, -, -, -, hV, hJ, -, -, -, -, hA, -⟩ := X
  have he0 := x_ent_z (ad := ad) (G := G) (σ := σ) ha
  have hc : H[ad o (k + 1) 0]? = some (vp_cell _ _) := h2 _ _ _ _ he0
  refine W.zast hx hb hc ((hV.1.2 1 _ rfl).1 n (fun j => .int (xA σ o k j))) (fun q => by cases q) (by show ¬ (i < 0 ∨ (arrV _ _ _).slots.size ≤ _); rw [arrV_size]; exact hin) rfl rfl hd fun H1 e z oq => ?_
  refine kk H1 _ ls h1 (h2.set hJ (x_ent_dom he0) (x_ent_z ha) (fun o' f' r' q => x_ent_setA q) ?_ oq) (h3.put z oq (hA _ ⟨_, _, _, x_ent_dom he0, rfl⟩))
  show H1[ad o (k + 1) 0]? = some (vp_cell _ _)
  rw [e]
  rw [vp_cell_i, vp_cell_i, arrV_store]
  congr 2
  funext q
  
  by_cases hq : q = i.toNatClampNeg
  · subst hq
    simp [updV, upd, vp_nar, xuA, xsA, xA]
    try rfl
  · simp [updV, upd, hq, xuA, xsA, xA]
theorem r_iast2 (X : FX ad E cc nL own ret fr lo) {o c k n : Nat} (ho : x_cl o = c) (ha : x_ar c o k = some (2, n)) {r i x : Int32} (hr : vp_in r 20) (hin : vp_in i n) (hd : decode cc pc = .ok (.iastore, 1)) (kk : KK ad E Q (pc + 1) L (st) (xuB σ o k r.toNatClampNeg i.toNatClampNeg x)) : KK ad E Q (pc) L (.int x :: .int i :: .ref (ad o (k + 1) (r.toNatClampNeg + 1)) :: st) σ := by
  obtain ⟨p, l, e, R, s, m, args, below, meth, c9, ⟨Z, A, k9, n9⟩, G⟩ := E
  intro H locs ls h1 h2 h3
  have hr9 := Nat.not_le.mp fun q => hr (Or.inr q)
  subst ho
  obtain ⟨hx, hb, -, -, -, hV, hJ, -, -, -, -, hA, -⟩ := X
  have he0 := x_ent_r (ad := ad) (G := G) (σ := σ) ha hr9
  have hc : H[ad o (k + 1) (r.toNatClampNeg + 1)]? = some (vp_cell _ _) := h2 _ _ _ _ he0
  refine W.iast hx hb hc ((hV.1.2 0 _ rfl).1 n (fun j => .int (xB σ o k r.toNatClampNeg j))) (fun q => by cases q) (by show ¬ (i < 0 ∨ (arrV _ _ _).slots.size ≤ _); rw [arrV_size]; exact hin) rfl rfl hd fun H1 e z oq => ?_
  refine kk H1 _ ls h1 (h2.set hJ (x_ent_dom he0) (x_ent_r ha hr9) (fun o' f' r' q => x_ent_setB q) ?_ oq) (h3.put z oq (hA _ ⟨_, _, _, x_ent_dom he0, rfl⟩))
  show H1[ad o (k + 1) (r.toNatClampNeg + 1)]? = some (vp_cell _ _)
  rw [e]
  rw [vp_cell_i, vp_cell_i, arrV_store]
  congr 2
  funext q
  
  by_cases hq : q = i.toNatClampNeg
  · subst hq
    simp [updV, upd, vp_nar, xuB, xsB, xB]
    try rfl
  · simp [updV, upd, hq, xuB, xsB, xB]
theorem r_mmax (X : FX ad E cc nL own ret fr lo) {index : Nat} (w1 : Cond.methodLink own index Lib.Math.max.name ∈ x_big) (hr : 1 ≤ fr ∧ (st.map fun v => v.category).sum + 13 ≤ lo) {x y : Int32} (hd : decode cc pc = .ok (.invokestatic index, 3)) (kk : KK ad E Q (pc + 3) L (.int (if x < y then y else x) :: st) σ) : KK ad E Q (pc) L (.int y :: .int x :: st) σ := by
  obtain ⟨p, l, e, R, s, m, args, below, meth, c9, ⟨Z, A, k9, n9⟩, G⟩ := E
  intro H locs ls h1 h2 h3
  exact va_mmax X.1 X.2.1 h1.1.symm X.2.2.2.1 (X.2.2.2.2.1 _ w1) (X.2.2.2.2.1 _ ms_max) (X.2.2.2.2.1 _ mn_Math) (X.2.2.2.2.1 _ mc_max) (Nat.le_trans hr.1 X.2.2.2.2.2.2.2.2.2.1) (Nat.le_trans hr.2 X.2.2.2.2.2.2.2.2.2.2.1) X.2.2.2.2.2.2.2.2.2.2.2.2.1 X.2.2.2.2.2.2.2.2.2.2.2.2.2 hd (kk H locs ls h1 h2 h3)
theorem r_mmin (X : FX ad E cc nL own ret fr lo) {index : Nat} (w1 : Cond.methodLink own index Lib.Math.min.name ∈ x_big) (hr : 1 ≤ fr ∧ (st.map fun v => v.category).sum + 13 ≤ lo) {x y : Int32} (hd : decode cc pc = .ok (.invokestatic index, 3)) (kk : KK ad E Q (pc + 3) L (.int (if y < x then y else x) :: st) σ) : KK ad E Q (pc) L (.int y :: .int x :: st) σ := by
  obtain ⟨p, l, e, R, s, m, args, below, meth, c9, ⟨Z, A, k9, n9⟩, G⟩ := E
  intro H locs ls h1 h2 h3
  exact va_mmin X.1 X.2.1 h1.1.symm X.2.2.2.1 (X.2.2.2.2.1 _ w1) (X.2.2.2.2.1 _ ms_min) (X.2.2.2.2.1 _ mn_Math) (X.2.2.2.2.1 _ mc_min) (Nat.le_trans hr.1 X.2.2.2.2.2.2.2.2.2.1) (Nat.le_trans hr.2 X.2.2.2.2.2.2.2.2.2.2.1) X.2.2.2.2.2.2.2.2.2.2.2.2.1 X.2.2.2.2.2.2.2.2.2.2.2.2.2 hd (kk H locs ls h1 h2 h3)
theorem x_call {ad : xAd} {A : Nat → Prop} {k9 n9 : Nat} {p : Program} {l : Launch} {e : Env} {R : Room} {s : State} {m : MethodId} {args : Array Value} {below : List Frame} {meth : Method} {c : Code} {H : Heap} {locs : List Loc} {QQ : State → Prop} {pc : Nat} {ls : Array Slot} {rest st0 : List Value} {a : Array Value} {G : xG} {Qc : Option Value → xSt → Prop} (hr : va_Run p l e R s m args below meth c H locs k9 n9 0 0 (F0 m pc ls st0) rest (xQ ad G Qc a) (xW ad)) (hA : ∀ q, xW ad q → A q) (hS : va_S A s.heap H locs)
    (kk : ∀ (v : Option Value) (σ' : xSt) (H1 : Heap) (locs1 : List Loc), Qc v σ' → xP ad G σ' H1 → va_S A s.heap H1 locs1 → W p l e R s m args below meth c H1 locs1 k9 n9 QQ (F0 m (pc + 3) ls (v.toList ++ rest))) : W p l e R s m args below meth c H locs k9 n9 QQ (F0 m pc ls st0) := by
  intro T hT X
  obtain ⟨v, st₀, t, T', L, h0, X', hL, e1, e2, ⟨⟨v', σ', hv, hq, hP⟩, hz, hk⟩, st⟩ := hr T hT X
  cases hv
  rw [h0] at hz hk
  obtain ⟨t2, a1, b1⟩ := kk v σ' T'.heap (locs ++ L) hq (by rw [e1]; exact hP)
    ⟨Nat.le_trans hS.1 (by rw [e1]; exact hz), fun q h1 h2 => by rw [e1, hk q (Nat.lt_of_lt_of_le h1 hS.1) (fun z => h2 (hA q z))]; exact hS.2.1 q h1 h2, fun q hq => by
      rcases List.mem_append.mp hq with h | h
      · exact hS.2.2 q h
      · exact hA _ (hL q h)⟩ T' rfl X'
  exact ⟨t2, st t2 a1, b1⟩
theorem x_blind {ad : xAd} {G : xG} {av : List Value} {σ : xSt} : FrameBlind (xPc ad G av σ) := fun a U g mk h => by
  obtain ⟨h0, h1, h2, h3⟩ := h
  exact ⟨h0, h1, xV.same (s := U) (U := U.calling g mk a) rfl h2, h3⟩
theorem x_pre {ad : xAd} {A : Nat → Prop} {G : xG} {av : List Value} {σ : xSt} {s : State} {H : Heap} {locs : List Loc} (hP : xP ad G σ H) (hV : xV G A s s.heap) (hJ : xJ ad) (hA : ∀ q, xW ad q → A q) (hS : va_S A s.heap H locs) : ∀ U : State, U.heap = H → s.WarmedH U.vm → xPc ad G av σ av.toArray U := fun U hU hW => by
  subst hU
  exact ⟨rfl, hP, ((hV.kept hS.2.1).warm hW).narrow hA, hJ⟩
theorem x_gin {y : MethodName} {b : ByteArray} {n : Nat} {rt : Option FieldType} (w5 : Cond.code y b n rt ∈ x_big) : GoodIn x_big (.code y b n rt :: x_big) := fun w h => by
  rcases List.mem_cons.mp h with rfl | h
  · exact ⟨w5, (x_good _ w5).2⟩
  · exact ⟨h, (x_good _ h).2⟩
theorem r_callV (X : FX ad E cc nL own ret fr lo) {index n mL fr1 lo1 : Nat} {y : MethodName} {b1 : ByteArray} {rt : Option FieldType} {As : List Value} {Qc : Option Value → xSt → Prop} {o c N : Nat} {C : String} {T : u_T} (hm : MC ad (eG E) (eL E) y b1 mL rt fr1 lo1 (.ref (ad o 0 0) :: As) σ Qc) (ho : x_cl o = c) (h8 : c < 8) (hcl : x_cls[c]? = some (C, T, N)) (w1 : Cond.methodLink own index y ∈ x_big) (w2 : Cond.instanceMethod y ∈ x_big) (w3 : Cond.selects C y y ∈ x_big) (w4 : Cond.initialized y.cls ∈ x_big) (w5 : Cond.code y b1 mL rt ∈ x_big) (hy : y.cls ≠ "java/lang/invoke/MethodHandle" ∧ y.cls ≠ "java/lang/invoke/VarHandle" ∧ (parseMethodDescriptor y.desc).map (fun d => d.parameters.length) = some n) (hn : As.length = n) (hr : fr1 + 1 ≤ fr ∧ 8 + (mL + 11) + lo1 ≤ lo) (hst : (st.map fun v => v.category).sum ≤ 8) (hd : decode cc pc = .ok (.invokevirtual index, 3)) (kk : ∀ (v : Option Value) (σ1 : xSt), Qc v σ1 → KK ad E Q (pc + 3) L (v.toList ++ st) σ1) : KK ad E Q (pc) L (As.reverse ++ .ref (ad o 0 0) :: st) σ := by
  obtain ⟨p, l, e, R, s, m, args, below, meth, c9, ⟨Z, A, k9, n9⟩, G⟩ := E
  intro H locs ls h1 h2 h3
  obtain ⟨hx, hb, hml, hown, hts, hV, hJ, -, -, g1, g2, hA, hc⟩ := X
  exact x_call (va_runV (Ts := x_big) (As := As) (rest := st) ⟨hx, hb, hml, hown, hts⟩ hm ⟨callB_of n hts (x_gin w5) rfl rfl rfl (hts _ w4) (hts _ w1) hy ⟨Nat.le_trans hr.1 g1, Nat.le_trans hr.2 g2⟩, hts _ w2, hts _ w3⟩ ⟨x_blind, va_recv hV.1 (h2.one (x_ent_o ho h8)) hcl (q0 := 0) rfl, x_pre h2 hV hJ hA h3⟩ rfl hn (h1.1.trans hml) rfl (lv_room hst) hd hc) hA h3 (fun v σ1 H1 locs1 q g2 g3 => kk v σ1 q H1 locs1 ls h1 g2 g3)
theorem r_callS (X : FX ad E cc nL own ret fr lo) {index n mL fr1 lo1 : Nat} {y : MethodName} {b1 : ByteArray} {rt : Option FieldType} {As : List Value} {Qc : Option Value → xSt → Prop} (hm : MC ad (eG E) (eL E) y b1 mL rt fr1 lo1 As σ Qc) (w1 : Cond.methodLink own index y ∈ x_big) (w2 : Cond.static y ∈ x_big) (w4 : Cond.initialized y.cls ∈ x_big) (w5 : Cond.code y b1 mL rt ∈ x_big) (hy : y.cls ≠ "java/lang/invoke/MethodHandle" ∧ y.cls ≠ "java/lang/invoke/VarHandle" ∧ (parseMethodDescriptor y.desc).map (fun d => d.parameters.length) = some n) (hn : As.length = n) (hr : fr1 + 1 ≤ fr ∧ 8 + (mL + 11) + lo1 ≤ lo) (hst : (st.map fun v => v.category).sum ≤ 8) (hd : decode cc pc = .ok (.invokestatic index, 3)) (kk : ∀ (v : Option Value) (σ1 : xSt), Qc v σ1 → KK ad E Q (pc + 3) L (v.toList ++ st) σ1) : KK ad E Q (pc) L (As.reverse ++ st) σ := by
  obtain ⟨p, l, e, R, s, m, args, below, meth, c9, ⟨Z, A, k9, n9⟩, G⟩ := E
  intro H locs ls h1 h2 h3
  obtain ⟨hx, hb, hml, hown, hts, hV, hJ, -, -, g1, g2, hA, hc⟩ := X
  exact x_call (va_runS (Ts := x_big) (As := As) (rest := st) ⟨hx, hb, hml, hown, hts⟩ hm ⟨callB_of n hts (x_gin w5) rfl rfl rfl (hts _ w4) (hts _ w1) hy ⟨Nat.le_trans hr.1 g1, Nat.le_trans hr.2 g2⟩, hts _ w2⟩ ⟨x_blind, x_pre h2 hV hJ hA h3⟩ rfl hn (h1.1.trans hml) rfl (lv_room hst) hd hc) hA h3 (fun v σ1 H1 locs1 q g2 g3 => kk v σ1 q H1 locs1 ls h1 g2 g3)
theorem r_callSN (X : FX ad E cc nL own ret fr lo) {index n mL fr1 lo1 : Nat} {y : MethodName} {b1 : ByteArray} {rt : Option FieldType} {As : List Value} {Qc : Option Value → xSt → Prop} {host : String} (hm : MC ad (eG E) (eL E) y b1 mL rt fr1 lo1 As σ Qc) (w1 : (own, index, y, host) ∈ x_nm) (w2 : Cond.static y ∈ x_big) (w4 : Cond.initialized y.cls ∈ x_big) (w5 : Cond.code y b1 mL rt ∈ x_big) (hy : y.cls ≠ "java/lang/invoke/MethodHandle" ∧ y.cls ≠ "java/lang/invoke/VarHandle" ∧ (parseMethodDescriptor y.desc).map (fun d => d.parameters.length) = some n) (hn : As.length = n) (hr : fr1 + 1 ≤ fr ∧ 8 + (mL + 11) + lo1 ≤ lo) (hst : (st.map fun v => v.category).sum ≤ 8) (hd : decode cc pc = .ok (.invokestatic index, 3)) (kk : ∀ (v : Option Value) (σ1 : xSt), Qc v σ1 → KK ad E Q (pc + 3) L (v.toList ++ st) σ1) : KK ad E Q (pc) L (As.reverse ++ st) σ := by
  obtain ⟨p, l, e, R, s, m, args, below, meth, c9, ⟨Z, A, k9, n9⟩, G⟩ := E
  intro H locs ls h1 h2 h3
  obtain ⟨hx, hb, hml, hown, hts, hV, hJ, -, -, g1, g2, hA, hc⟩ := X
  exact x_call (va_runSN (Ts := x_big) (host := host) (As := As) (rest := st) ⟨hx, hb, hml, hown, hts⟩ hm ⟨va_cnB n hts (x_gin w5) rfl rfl rfl (hV.2.2.1 _ w1) (hts _ w4) hy ⟨Nat.le_trans hr.1 g1, Nat.le_trans hr.2 g2⟩, hts _ w2, trivial⟩ ⟨x_blind, x_pre h2 hV hJ hA h3⟩ rfl hn (h1.1.trans hml) rfl (lv_room hst) hd hc) hA h3 (fun v σ1 H1 locs1 q g2 g3 => kk v σ1 q H1 locs1 ls h1 g2 g3)
end XR
def qV (Q : xSt → Prop) : Option Value → xSt → Prop := fun v σ => v = none ∧ Q σ
def qI (Q : Int32 → xSt → Prop) : Option Value → xSt → Prop := fun v σ => ∃ r : Int32, v = some (.int r) ∧ Q r σ
def qZ (Q : Int32 → xSt → Prop) : Option Value → xSt → Prop := fun v σ => ∃ r : Int32, v = some (.int r) ∧ (r = 0 ∨ r = 1) ∧ Q r σ
def qL (Q : Int64 → xSt → Prop) : Option Value → xSt → Prop := fun v σ => ∃ r : Int64, v = some (.long r) ∧ Q r σ
def qC (ad : xAd) (o : Nat) (Q : xSt → Prop) : Option Value → xSt → Prop := fun v σ => v = some (.ref (ad o 0 0)) ∧ Q σ
def qR (ad : xAd) (c : Nat) (Q : Option Nat → xSt → Prop) : Option Value → xSt → Prop := fun v σ => (v = some .null ∧ Q none σ) ∨ ∃ o : Nat, x_cl o = c ∧ v = some (.ref (ad o 0 0)) ∧ Q (some o) σ
