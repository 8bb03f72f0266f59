/-! the ops that touch no cell are sound (printed by wip/whole/gen/ops.py) -/
section MMD
theorem sn_iconst {mi : mm_I} {pc : Nat} {n : Int} {v : Int32} (hd : decode mi.2.1 pc = .ok (.iconst n, 1)) (hv : Int32.ofInt n = v) : mm_Snd mi pc (mo_push 1 (.int v)) := by
  intro p l e R s m args below meth c D cy r bs sk sv c0 s0 Q res K F hc hF hE hK lv st u h
  exact mm_same (hK _ _ _ _ h) (fun H locs cells slots ls hW hS hl kk => lv_iconst hc.1 hc.2.1 hd hv (kk ls hl))
theorem sn_bipush {mi : mm_I} {pc : Nat} {n : Int} {v : Int32} (hd : decode mi.2.1 pc = .ok (.bipush n, 2)) (hv : (Int8.ofInt n).toInt32 = v) : mm_Snd mi pc (mo_push 2 (.int v)) := by
  intro p l e R s m args below meth c D cy r bs sk sv c0 s0 Q res K F hc hF hE hK lv st u h
  exact mm_same (hK _ _ _ _ h) (fun H locs cells slots ls hW hS hl kk => lv_bipush hc.1 hc.2.1 hd hv (kk ls hl))
theorem sn_sipush {mi : mm_I} {pc : Nat} {n : Int} {v : Int32} (hd : decode mi.2.1 pc = .ok (.sipush n, 3)) (hv : (Int16.ofInt n).toInt32 = v) : mm_Snd mi pc (mo_push 3 (.int v)) := by
  intro p l e R s m args below meth c D cy r bs sk sv c0 s0 Q res K F hc hF hE hK lv st u h
  exact mm_same (hK _ _ _ _ h) (fun H locs cells slots ls hW hS hl kk => lv_sipush hc.1 hc.2.1 hd hv (kk ls hl))
theorem sn_lconst {mi : mm_I} {pc : Nat} {n : Fin 2} {v : Int64} (hd : decode mi.2.1 pc = .ok (.lconst n, 1)) (hv : Int64.ofNat (n : Nat) = v) : mm_Snd mi pc (mo_push 1 (.long v)) := by
  intro p l e R s m args below meth c D cy r bs sk sv c0 s0 Q res K F hc hF hE hK lv st u h
  exact mm_same (hK _ _ _ _ h) (fun H locs cells slots ls hW hS hl kk => lv_lconst hc.1 hc.2.1 hd hv (kk ls hl))
theorem sn_fconst0 {mi : mm_I} {pc : Nat} (hd : decode mi.2.1 pc = .ok (.fconst 0, 1)) : mm_Snd mi pc (mo_push 1 (.float FP.fconst0)) := by
  intro p l e R s m args below meth c D cy r bs sk sv c0 s0 Q res K F hc hF hE hK lv st u h
  exact mm_same (hK _ _ _ _ h) (fun H locs cells slots ls hW hS hl kk => lv_fconst0 hc.1 hc.2.1 hd (kk ls hl))
theorem sn_ldc {mi : mm_I} {pc : Nat} {i : Nat} {v : Int32} (hd : decode mi.2.1 pc = .ok (.ldc i, 2)) (hw : Cond.constant mi.1 i v ∈ mm_gw) : mm_Snd mi pc (mo_push 2 (.int v)) := by
  intro p l e R s m args below meth c D cy r bs sk sv c0 s0 Q res K F hc hF hE hK lv st u h
  exact mm_same (hK _ _ _ _ h) (fun H locs cells slots ls hW hS hl kk => lv_ldc hc.1 hc.2.1 hc.2.2.2.2.2.1 (hc.2.2.2.2.2.2.2.2.2.2.2.1 _ hw) hd (kk ls hl))
theorem sn_ldc2 {mi : mm_I} {pc : Nat} {i : Nat} {v : Int64} (hd : decode mi.2.1 pc = .ok (.ldc2_w i, 3)) (hw : Cond.constantLong mi.1 i v ∈ mm_gw) : mm_Snd mi pc (mo_push 3 (.long v)) := by
  intro p l e R s m args below meth c D cy r bs sk sv c0 s0 Q res K F hc hF hE hK lv st u h
  exact mm_same (hK _ _ _ _ h) (fun H locs cells slots ls hW hS hl kk => lv_ldc2 hc.1 hc.2.1 hc.2.2.2.2.2.1 (hc.2.2.2.2.2.2.2.2.2.2.2.1 _ hw) hd (kk ls hl))
theorem sn_iload_n {mi : mm_I} {pc : Nat} {k : Fin 4} {i : Nat} (hd : decode mi.2.1 pc = .ok (.iload_n k, 1)) (hi : (k : Nat) = i) : mm_Snd mi pc (mo_ldi 1 i) := by
  intro p l e R s m args below meth c D cy r bs sk sv c0 s0 Q res K F hc hF hE hK lv st u h
  simp only [mo_ldi] at h
  split at h
  · rename_i hq
    exact mm_same (hK _ _ _ _ h) (fun H locs cells slots ls hW hS hl kk => lv_iload_n hc.1 hc.2.1 hd hi (mm_ld_at hl hq) (kk ls hl))
  · cases h
theorem sn_iload {mi : mm_I} {pc : Nat} {i : Nat} (hd : decode mi.2.1 pc = .ok (.iload i, 2)) : mm_Snd mi pc (mo_ldi 2 i) := by
  intro p l e R s m args below meth c D cy r bs sk sv c0 s0 Q res K F hc hF hE hK lv st u h
  simp only [mo_ldi] at h
  split at h
  · rename_i hq
    exact mm_same (hK _ _ _ _ h) (fun H locs cells slots ls hW hS hl kk => lv_iload hc.1 hc.2.1 hd (mm_ld_at hl hq) (kk ls hl))
  · cases h
theorem sn_aload_n {mi : mm_I} {pc : Nat} {k : Fin 4} {i : Nat} (hd : decode mi.2.1 pc = .ok (.aload_n k, 1)) (hi : (k : Nat) = i) : mm_Snd mi pc (mo_lda 1 i) := by
  intro p l e R s m args below meth c D cy r bs sk sv c0 s0 Q res K F hc hF hE hK lv st u h
  simp only [mo_lda] at h
  split at h
  · rename_i hq
    exact mm_same (hK _ _ _ _ h) (fun H locs cells slots ls hW hS hl kk => lv_aload_n hc.1 hc.2.1 hd hi (mm_ld_at hl hq) (kk ls hl))
  · cases h
theorem sn_aload {mi : mm_I} {pc : Nat} {i : Nat} (hd : decode mi.2.1 pc = .ok (.aload i, 2)) : mm_Snd mi pc (mo_lda 2 i) := by
  intro p l e R s m args below meth c D cy r bs sk sv c0 s0 Q res K F hc hF hE hK lv st u h
  simp only [mo_lda] at h
  split at h
  · rename_i hq
    exact mm_same (hK _ _ _ _ h) (fun H locs cells slots ls hW hS hl kk => lv_aload hc.1 hc.2.1 hd (mm_ld_at hl hq) (kk ls hl))
  · cases h
theorem sn_lload_n {mi : mm_I} {pc : Nat} {k : Fin 4} {i : Nat} (hd : decode mi.2.1 pc = .ok (.lload_n k, 1)) (hi : (k : Nat) = i) : mm_Snd mi pc (mo_ldl 1 i) := by
  intro p l e R s m args below meth c D cy r bs sk sv c0 s0 Q res K F hc hF hE hK lv st u h
  simp only [mo_ldl] at h
  split at h
  · rename_i hq
    exact mm_same (hK _ _ _ _ h) (fun H locs cells slots ls hW hS hl kk => lv_lload_n hc.1 hc.2.1 hd hi (mm_ld_at hl hq) (kk ls hl))
  · cases h
theorem sn_lload {mi : mm_I} {pc : Nat} {i : Nat} (hd : decode mi.2.1 pc = .ok (.lload i, 2)) : mm_Snd mi pc (mo_ldl 2 i) := by
  intro p l e R s m args below meth c D cy r bs sk sv c0 s0 Q res K F hc hF hE hK lv st u h
  simp only [mo_ldl] at h
  split at h
  · rename_i hq
    exact mm_same (hK _ _ _ _ h) (fun H locs cells slots ls hW hS hl kk => lv_lload hc.1 hc.2.1 hd (mm_ld_at hl hq) (kk ls hl))
  · cases h
theorem sn_dload_n {mi : mm_I} {pc : Nat} {k : Fin 4} {i : Nat} (hd : decode mi.2.1 pc = .ok (.dload_n k, 1)) (hi : (k : Nat) = i) : mm_Snd mi pc (mo_ldd 1 i) := by
  intro p l e R s m args below meth c D cy r bs sk sv c0 s0 Q res K F hc hF hE hK lv st u h
  simp only [mo_ldd] at h
  split at h
  · rename_i hq
    exact mm_same (hK _ _ _ _ h) (fun H locs cells slots ls hW hS hl kk => lv_dload_n hc.1 hc.2.1 hd hi (mm_ld_at hl hq) (kk ls hl))
  · cases h
theorem sn_dload {mi : mm_I} {pc : Nat} {i : Nat} (hd : decode mi.2.1 pc = .ok (.dload i, 2)) : mm_Snd mi pc (mo_ldd 2 i) := by
  intro p l e R s m args below meth c D cy r bs sk sv c0 s0 Q res K F hc hF hE hK lv st u h
  simp only [mo_ldd] at h
  split at h
  · rename_i hq
    exact mm_same (hK _ _ _ _ h) (fun H locs cells slots ls hW hS hl kk => lv_dload hc.1 hc.2.1 hd (mm_ld_at hl hq) (kk ls hl))
  · cases h
theorem sn_istore_n {mi : mm_I} {pc : Nat} {k : Fin 4} {i : Nat} (hd : decode mi.2.1 pc = .ok (.istore_n k, 1)) (hi : (k : Nat) = i) (hn : i < mi.2.2.1) : mm_Snd mi pc (mo_sti 1 i) := by
  intro p l e R s m args below meth c D cy r bs sk sv c0 s0 Q res K F hc hF hE hK lv st u h
  simp only [mo_sti] at h
  split at h
  · exact mm_same (hK _ _ _ _ h) (fun H locs cells slots ls hW hS hl kk => lv_istore_n hc.1 hc.2.1 hd hi hl hn (mm_s1_map r lv i (Value.int _)).symm (fun ls hl => kk ls hl))
  · cases h
theorem sn_istore {mi : mm_I} {pc : Nat} {i : Nat} (hd : decode mi.2.1 pc = .ok (.istore i, 2)) (hn : i < mi.2.2.1) : mm_Snd mi pc (mo_sti 2 i) := by
  intro p l e R s m args below meth c D cy r bs sk sv c0 s0 Q res K F hc hF hE hK lv st u h
  simp only [mo_sti] at h
  split at h
  · exact mm_same (hK _ _ _ _ h) (fun H locs cells slots ls hW hS hl kk => lv_istore hc.1 hc.2.1 hd hl hn (mm_s1_map r lv i (Value.int _)).symm (fun ls hl => kk ls hl))
  · cases h
theorem sn_astore_n {mi : mm_I} {pc : Nat} {k : Fin 4} {i : Nat} (hd : decode mi.2.1 pc = .ok (.astore_n k, 1)) (hi : (k : Nat) = i) (hn : i < mi.2.2.1) : mm_Snd mi pc (mo_sta 1 i) := by
  intro p l e R s m args below meth c D cy r bs sk sv c0 s0 Q res K F hc hF hE hK lv st u h
  simp only [mo_sta] at h
  split at h
  · exact mm_same (hK _ _ _ _ h) (fun H locs cells slots ls hW hS hl kk => lv_astore_n hc.1 hc.2.1 hd hi hl hn (mm_s1_map r lv i (Value.ref _)).symm (fun ls hl => kk ls hl))
  · cases h
theorem sn_astore {mi : mm_I} {pc : Nat} {i : Nat} (hd : decode mi.2.1 pc = .ok (.astore i, 2)) (hn : i < mi.2.2.1) : mm_Snd mi pc (mo_sta 2 i) := by
  intro p l e R s m args below meth c D cy r bs sk sv c0 s0 Q res K F hc hF hE hK lv st u h
  simp only [mo_sta] at h
  split at h
  · exact mm_same (hK _ _ _ _ h) (fun H locs cells slots ls hW hS hl kk => lv_astore hc.1 hc.2.1 hd hl hn (mm_s1_map r lv i (Value.ref _)).symm (fun ls hl => kk ls hl))
  · cases h
theorem sn_lstore_n {mi : mm_I} {pc : Nat} {k : Fin 4} {i : Nat} (hd : decode mi.2.1 pc = .ok (.lstore_n k, 1)) (hi : (k : Nat) = i) (hn : i + 1 < mi.2.2.1) : mm_Snd mi pc (mo_stl 1 i) := by
  intro p l e R s m args below meth c D cy r bs sk sv c0 s0 Q res K F hc hF hE hK lv st u h
  simp only [mo_stl] at h
  split at h
  · exact mm_same (hK _ _ _ _ h) (fun H locs cells slots ls hW hS hl kk => lv_lstore_n hc.1 hc.2.1 hd hi hl hn (mm_s2_map r lv i (Value.long _)).symm (fun ls hl => kk ls hl))
  · cases h
theorem sn_lstore {mi : mm_I} {pc : Nat} {i : Nat} (hd : decode mi.2.1 pc = .ok (.lstore i, 2)) (hn : i + 1 < mi.2.2.1) : mm_Snd mi pc (mo_stl 2 i) := by
  intro p l e R s m args below meth c D cy r bs sk sv c0 s0 Q res K F hc hF hE hK lv st u h
  simp only [mo_stl] at h
  split at h
  · exact mm_same (hK _ _ _ _ h) (fun H locs cells slots ls hW hS hl kk => lv_lstore hc.1 hc.2.1 hd hl hn (mm_s2_map r lv i (Value.long _)).symm (fun ls hl => kk ls hl))
  · cases h
theorem sn_dstore_n {mi : mm_I} {pc : Nat} {k : Fin 4} {i : Nat} (hd : decode mi.2.1 pc = .ok (.dstore_n k, 1)) (hi : (k : Nat) = i) (hn : i + 1 < mi.2.2.1) : mm_Snd mi pc (mo_std 1 i) := by
  intro p l e R s m args below meth c D cy r bs sk sv c0 s0 Q res K F hc hF hE hK lv st u h
  simp only [mo_std] at h
  split at h
  · exact mm_same (hK _ _ _ _ h) (fun H locs cells slots ls hW hS hl kk => lv_dstore_n hc.1 hc.2.1 hd hi hl hn (mm_s2_map r lv i (Value.double _)).symm (fun ls hl => kk ls hl))
  · cases h
theorem sn_dstore {mi : mm_I} {pc : Nat} {i : Nat} (hd : decode mi.2.1 pc = .ok (.dstore i, 2)) (hn : i + 1 < mi.2.2.1) : mm_Snd mi pc (mo_std 2 i) := by
  intro p l e R s m args below meth c D cy r bs sk sv c0 s0 Q res K F hc hF hE hK lv st u h
  simp only [mo_std] at h
  split at h
  · exact mm_same (hK _ _ _ _ h) (fun H locs cells slots ls hW hS hl kk => lv_dstore hc.1 hc.2.1 hd hl hn (mm_s2_map r lv i (Value.double _)).symm (fun ls hl => kk ls hl))
  · cases h
theorem sn_iadd {mi : mm_I} {pc : Nat} (hd : decode mi.2.1 pc = .ok (.iadd, 1)) : mm_Snd mi pc (mo_bi (fun x y => x + y)) := by
  intro p l e R s m args below meth c D cy r bs sk sv c0 s0 Q res K F hc hF hE hK lv st u h
  simp only [mo_bi] at h
  split at h
  · exact mm_same (hK _ _ _ _ h) (fun H locs cells slots ls hW hS hl kk => lv_iadd hc.1 hc.2.1 hd (kk ls hl))
  · cases h
theorem sn_isub {mi : mm_I} {pc : Nat} (hd : decode mi.2.1 pc = .ok (.isub, 1)) : mm_Snd mi pc (mo_bi (fun x y => x - y)) := by
  intro p l e R s m args below meth c D cy r bs sk sv c0 s0 Q res K F hc hF hE hK lv st u h
  simp only [mo_bi] at h
  split at h
  · exact mm_same (hK _ _ _ _ h) (fun H locs cells slots ls hW hS hl kk => lv_isub hc.1 hc.2.1 hd (kk ls hl))
  · cases h
theorem sn_imul {mi : mm_I} {pc : Nat} (hd : decode mi.2.1 pc = .ok (.imul, 1)) : mm_Snd mi pc (mo_bi (fun x y => x * y)) := by
  intro p l e R s m args below meth c D cy r bs sk sv c0 s0 Q res K F hc hF hE hK lv st u h
  simp only [mo_bi] at h
  split at h
  · exact mm_same (hK _ _ _ _ h) (fun H locs cells slots ls hW hS hl kk => lv_imul hc.1 hc.2.1 hd (kk ls hl))
  · cases h
theorem sn_iand {mi : mm_I} {pc : Nat} (hd : decode mi.2.1 pc = .ok (.iand, 1)) : mm_Snd mi pc (mo_bi (fun x y => x &&& y)) := by
  intro p l e R s m args below meth c D cy r bs sk sv c0 s0 Q res K F hc hF hE hK lv st u h
  simp only [mo_bi] at h
  split at h
  · exact mm_same (hK _ _ _ _ h) (fun H locs cells slots ls hW hS hl kk => lv_iand hc.1 hc.2.1 hd (kk ls hl))
  · cases h
theorem sn_ior {mi : mm_I} {pc : Nat} (hd : decode mi.2.1 pc = .ok (.ior, 1)) : mm_Snd mi pc (mo_bi (fun x y => x ||| y)) := by
  intro p l e R s m args below meth c D cy r bs sk sv c0 s0 Q res K F hc hF hE hK lv st u h
  simp only [mo_bi] at h
  split at h
  · exact mm_same (hK _ _ _ _ h) (fun H locs cells slots ls hW hS hl kk => lv_ior hc.1 hc.2.1 hd (kk ls hl))
  · cases h
theorem sn_ixor {mi : mm_I} {pc : Nat} (hd : decode mi.2.1 pc = .ok (.ixor, 1)) : mm_Snd mi pc (mo_bi (fun x y => x ^^^ y)) := by
  intro p l e R s m args below meth c D cy r bs sk sv c0 s0 Q res K F hc hF hE hK lv st u h
  simp only [mo_bi] at h
  split at h
  · exact mm_same (hK _ _ _ _ h) (fun H locs cells slots ls hW hS hl kk => lv_ixor hc.1 hc.2.1 hd (kk ls hl))
  · cases h
theorem sn_ishl {mi : mm_I} {pc : Nat} (hd : decode mi.2.1 pc = .ok (.ishl, 1)) : mm_Snd mi pc (mo_bi (fun x y => x <<< (y &&& 31))) := by
  intro p l e R s m args below meth c D cy r bs sk sv c0 s0 Q res K F hc hF hE hK lv st u h
  simp only [mo_bi] at h
  split at h
  · exact mm_same (hK _ _ _ _ h) (fun H locs cells slots ls hW hS hl kk => lv_ishl hc.1 hc.2.1 hd (kk ls hl))
  · cases h
theorem sn_ishr {mi : mm_I} {pc : Nat} (hd : decode mi.2.1 pc = .ok (.ishr, 1)) : mm_Snd mi pc (mo_bi (fun x y => x >>> (y &&& 31))) := by
  intro p l e R s m args below meth c D cy r bs sk sv c0 s0 Q res K F hc hF hE hK lv st u h
  simp only [mo_bi] at h
  split at h
  · exact mm_same (hK _ _ _ _ h) (fun H locs cells slots ls hW hS hl kk => lv_ishr hc.1 hc.2.1 hd (kk ls hl))
  · cases h
theorem sn_iushr {mi : mm_I} {pc : Nat} (hd : decode mi.2.1 pc = .ok (.iushr, 1)) : mm_Snd mi pc (mo_bi (fun x y => (x.toUInt32 >>> (y.toUInt32 &&& Int32.toUInt32 31)).toInt32)) := by
  intro p l e R s m args below meth c D cy r bs sk sv c0 s0 Q res K F hc hF hE hK lv st u h
  simp only [mo_bi] at h
  split at h
  · exact mm_same (hK _ _ _ _ h) (fun H locs cells slots ls hW hS hl kk => lv_iushr hc.1 hc.2.1 hd rfl (kk ls hl))
  · cases h
theorem sn_idiv {mi : mm_I} {pc : Nat} (hd : decode mi.2.1 pc = .ok (.idiv, 1)) : mm_Snd mi pc (mo_dv (fun x y => x / y)) := by
  intro p l e R s m args below meth c D cy r bs sk sv c0 s0 Q res K F hc hF hE hK lv st u h
  simp only [mo_dv] at h
  split at h
  · split at h
    · cases h
    · rename_i hy
      exact mm_same (hK _ _ _ _ h) (fun H locs cells slots ls hW hS hl kk => lv_idiv hc.1 hc.2.1 hd hy (kk ls hl))
  · cases h
theorem sn_irem {mi : mm_I} {pc : Nat} (hd : decode mi.2.1 pc = .ok (.irem, 1)) : mm_Snd mi pc (mo_dv (fun x y => x - x / y * y)) := by
  intro p l e R s m args below meth c D cy r bs sk sv c0 s0 Q res K F hc hF hE hK lv st u h
  simp only [mo_dv] at h
  split at h
  · split at h
    · cases h
    · rename_i hy
      exact mm_same (hK _ _ _ _ h) (fun H locs cells slots ls hW hS hl kk => lv_irem hc.1 hc.2.1 hd hy (kk ls hl))
  · cases h
theorem sn_ladd {mi : mm_I} {pc : Nat} (hd : decode mi.2.1 pc = .ok (.ladd, 1)) : mm_Snd mi pc (mo_bl (fun x y => x + y)) := by
  intro p l e R s m args below meth c D cy r bs sk sv c0 s0 Q res K F hc hF hE hK lv st u h
  simp only [mo_bl] at h
  split at h
  · exact mm_same (hK _ _ _ _ h) (fun H locs cells slots ls hW hS hl kk => lv_ladd hc.1 hc.2.1 hd (kk ls hl))
  · cases h
theorem sn_lmul {mi : mm_I} {pc : Nat} (hd : decode mi.2.1 pc = .ok (.lmul, 1)) : mm_Snd mi pc (mo_bl (fun x y => x * y)) := by
  intro p l e R s m args below meth c D cy r bs sk sv c0 s0 Q res K F hc hF hE hK lv st u h
  simp only [mo_bl] at h
  split at h
  · exact mm_same (hK _ _ _ _ h) (fun H locs cells slots ls hW hS hl kk => lv_lmul hc.1 hc.2.1 hd (kk ls hl))
  · cases h
theorem sn_lor {mi : mm_I} {pc : Nat} (hd : decode mi.2.1 pc = .ok (.lor, 1)) : mm_Snd mi pc (mo_bl (fun x y => x ||| y)) := by
  intro p l e R s m args below meth c D cy r bs sk sv c0 s0 Q res K F hc hF hE hK lv st u h
  simp only [mo_bl] at h
  split at h
  · exact mm_same (hK _ _ _ _ h) (fun H locs cells slots ls hW hS hl kk => lv_lor hc.1 hc.2.1 hd (kk ls hl))
  · cases h
theorem sn_lshl {mi : mm_I} {pc : Nat} (hd : decode mi.2.1 pc = .ok (.lshl, 1)) : mm_Snd mi pc (mo_lshl) := by
  intro p l e R s m args below meth c D cy r bs sk sv c0 s0 Q res K F hc hF hE hK lv st u h
  simp only [mo_lshl] at h
  split at h
  · exact mm_same (hK _ _ _ _ h) (fun H locs cells slots ls hW hS hl kk => lv_lshl hc.1 hc.2.1 hd rfl (kk ls hl))
  · cases h
theorem sn_lcmp {mi : mm_I} {pc : Nat} (hd : decode mi.2.1 pc = .ok (.lcmp, 1)) : mm_Snd mi pc (mo_lcmp) := by
  intro p l e R s m args below meth c D cy r bs sk sv c0 s0 Q res K F hc hF hE hK lv st u h
  simp only [mo_lcmp] at h
  split at h
  · exact mm_same (hK _ _ _ _ h) (fun H locs cells slots ls hW hS hl kk => W.lcmp hc.1 hc.2.1 hd (kk ls hl))
  · cases h
theorem sn_i2l {mi : mm_I} {pc : Nat} (hd : decode mi.2.1 pc = .ok (.i2l, 1)) : mm_Snd mi pc (mo_i2l) := by
  intro p l e R s m args below meth c D cy r bs sk sv c0 s0 Q res K F hc hF hE hK lv st u h
  simp only [mo_i2l] at h
  split at h
  · exact mm_same (hK _ _ _ _ h) (fun H locs cells slots ls hW hS hl kk => lv_i2l hc.1 hc.2.1 hd rfl (kk ls hl))
  · cases h
theorem sn_l2i {mi : mm_I} {pc : Nat} (hd : decode mi.2.1 pc = .ok (.l2i, 1)) : mm_Snd mi pc (mo_l2i) := by
  intro p l e R s m args below meth c D cy r bs sk sv c0 s0 Q res K F hc hF hE hK lv st u h
  simp only [mo_l2i] at h
  split at h
  · exact mm_same (hK _ _ _ _ h) (fun H locs cells slots ls hW hS hl kk => lv_l2i hc.1 hc.2.1 hd rfl (kk ls hl))
  · cases h
theorem sn_i2c {mi : mm_I} {pc : Nat} (hd : decode mi.2.1 pc = .ok (.i2c, 1)) : mm_Snd mi pc (mo_ui (fun x => (x.toUInt32 % 65536).toInt32)) := by
  intro p l e R s m args below meth c D cy r bs sk sv c0 s0 Q res K F hc hF hE hK lv st u h
  simp only [mo_ui] at h
  split at h
  · exact mm_same (hK _ _ _ _ h) (fun H locs cells slots ls hW hS hl kk => lv_i2c hc.1 hc.2.1 hd rfl (kk ls hl))
  · cases h
theorem sn_i2f {mi : mm_I} {pc : Nat} (hd : decode mi.2.1 pc = .ok (.i2f, 1)) : mm_Snd mi pc (mo_i2f) := by
  intro p l e R s m args below meth c D cy r bs sk sv c0 s0 Q res K F hc hF hE hK lv st u h
  simp only [mo_i2f] at h
  split at h
  · exact mm_same (hK _ _ _ _ h) (fun H locs cells slots ls hW hS hl kk => lv_i2f hc.1 hc.2.1 hd (kk ls hl))
  · cases h
theorem sn_fdiv {mi : mm_I} {pc : Nat} (hd : decode mi.2.1 pc = .ok (.fdiv, 1)) : mm_Snd mi pc mo_fdiv := by
  intro p l e R s m args below meth c D cy r bs sk sv c0 s0 Q res K F hc hF hE hK lv st u h
  simp only [mo_fdiv] at h
  split at h
  · split at h
    · rename_i hy
      exact mm_same (hK _ _ _ _ h) (fun H locs cells slots ls hW hS hl kk => lv_fdiv hc.1 hc.2.1 hd hy (kk ls hl))
    · cases h
  · cases h
theorem sn_f2d {mi : mm_I} {pc : Nat} (hd : decode mi.2.1 pc = .ok (.f2d, 1)) : mm_Snd mi pc mo_f2d := by
  intro p l e R s m args below meth c D cy r bs sk sv c0 s0 Q res K F hc hF hE hK lv st u h
  simp only [mo_f2d] at h
  split at h
  · split at h
    · rename_i hy
      exact mm_same (hK _ _ _ _ h) (fun H locs cells slots ls hW hS hl kk => lv_f2d hc.1 hc.2.1 hd hy (kk ls hl))
    · cases h
  · cases h
theorem sn_dcmp {mi : mm_I} {pc : Nat} {o : CmpOp} (hd : decode mi.2.1 pc = .ok (.dcmp o, 1)) : mm_Snd mi pc (mo_dcmp o) := by
  intro p l e R s m args below meth c D cy r bs sk sv c0 s0 Q res K F hc hF hE hK lv st u h
  simp only [mo_dcmp] at h
  split at h
  · exact mm_same (hK _ _ _ _ h) (fun H locs cells slots ls hW hS hl kk => lv_dcmp hc.1 hc.2.1 hd (kk ls hl))
  · cases h
theorem sn_dup {mi : mm_I} {pc : Nat} (hd : decode mi.2.1 pc = .ok (.dup, 1)) : mm_Snd mi pc (mo_dup) := by
  intro p l e R s m args below meth c D cy r bs sk sv c0 s0 Q res K F hc hF hE hK lv st u h
  simp only [mo_dup] at h
  split at h
  · exact mm_same (hK _ _ _ _ h) (fun H locs cells slots ls hW hS hl kk => lv_dup hc.1 hc.2.1 hd rfl (kk ls hl))
  · exact mm_same (hK _ _ _ _ h) (fun H locs cells slots ls hW hS hl kk => lv_dup hc.1 hc.2.1 hd rfl (kk ls hl))
  · cases h
theorem sn_pop {mi : mm_I} {pc : Nat} (hd : decode mi.2.1 pc = .ok (.pop, 1)) : mm_Snd mi pc (mo_pop) := by
  intro p l e R s m args below meth c D cy r bs sk sv c0 s0 Q res K F hc hF hE hK lv st u h
  simp only [mo_pop] at h
  split at h
  · exact mm_same (hK _ _ _ _ h) (fun H locs cells slots ls hW hS hl kk => lv_pop hc.1 hc.2.1 hd rfl (kk ls hl))
  · exact mm_same (hK _ _ _ _ h) (fun H locs cells slots ls hW hS hl kk => lv_pop hc.1 hc.2.1 hd rfl (kk ls hl))
  · cases h
theorem sn_dup2 {mi : mm_I} {pc : Nat} (hd : decode mi.2.1 pc = .ok (.dup2, 1)) : mm_Snd mi pc (mo_dup2) := by
  intro p l e R s m args below meth c D cy r bs sk sv c0 s0 Q res K F hc hF hE hK lv st u h
  simp only [mo_dup2] at h
  split at h
  · exact mm_same (hK _ _ _ _ h) (fun H locs cells slots ls hW hS hl kk => lv_dup2_11 hc.1 hc.2.1 hd rfl rfl (kk ls hl))
  · cases h
theorem sn_goto {mi : mm_I} {pc : Nat} {off : Int} {t : Nat} (hd : decode mi.2.1 pc = .ok (.goto off, 3)) (ht : (pc : Int) + off = (t : Int)) : mm_Snd mi pc (mo_go t) := by
  intro p l e R s m args below meth c D cy r bs sk sv c0 s0 Q res K F hc hF hE hK lv st u h
  exact mm_same (hK _ _ _ _ h) (fun H locs cells slots ls hW hS hl kk => lv_goto hc.1 hc.2.1 hd ht (kk ls hl))
theorem sn_icmp_eq {mi : mm_I} {pc : Nat} {off : Int} {t : Nat} (hd : decode mi.2.1 pc = .ok (.if_icmp .eq off, 3)) (ht : (pc : Int) + off = (t : Int)) : mm_Snd mi pc (mo_cmp (fun x y => decide (x = y)) t) := by
  intro p l e R s m args below meth c D cy r bs sk sv c0 s0 Q res K F hc hF hE hK lv st u h
  simp only [mo_cmp] at h
  split at h
  · split at h
    · rename_i hq
      have hq := of_decide_eq_true hq
      exact mm_same (hK _ _ _ _ h) (fun H locs cells slots ls hW hS hl kk => lv_icmp_eq hc.1 hc.2.1 hd ht (fun _ => kk ls hl) (fun q => absurd hq q))
    · rename_i hq
      have hq := fun z => hq (decide_eq_true z)
      exact mm_same (hK _ _ _ _ h) (fun H locs cells slots ls hW hS hl kk => lv_icmp_eq hc.1 hc.2.1 hd ht (fun q => absurd q hq) (fun _ => kk ls hl))
  · cases h
theorem sn_if_eq {mi : mm_I} {pc : Nat} {off : Int} {t : Nat} (hd : decode mi.2.1 pc = .ok (.ifCond .eq off, 3)) (ht : (pc : Int) + off = (t : Int)) : mm_Snd mi pc (mo_if (fun x => decide (x = 0)) t) := by
  intro p l e R s m args below meth c D cy r bs sk sv c0 s0 Q res K F hc hF hE hK lv st u h
  simp only [mo_if] at h
  split at h
  · split at h
    · rename_i hq
      have hq := of_decide_eq_true hq
      exact mm_same (hK _ _ _ _ h) (fun H locs cells slots ls hW hS hl kk => lv_if_eq hc.1 hc.2.1 hd ht (fun _ => kk ls hl) (fun q => absurd hq q))
    · rename_i hq
      have hq := fun z => hq (decide_eq_true z)
      exact mm_same (hK _ _ _ _ h) (fun H locs cells slots ls hW hS hl kk => lv_if_eq hc.1 hc.2.1 hd ht (fun q => absurd q hq) (fun _ => kk ls hl))
  · cases h
theorem sn_icmp_ne {mi : mm_I} {pc : Nat} {off : Int} {t : Nat} (hd : decode mi.2.1 pc = .ok (.if_icmp .ne off, 3)) (ht : (pc : Int) + off = (t : Int)) : mm_Snd mi pc (mo_cmp (fun x y => decide (¬ x = y)) t) := by
  intro p l e R s m args below meth c D cy r bs sk sv c0 s0 Q res K F hc hF hE hK lv st u h
  simp only [mo_cmp] at h
  split at h
  · split at h
    · rename_i hq
      have hq := of_decide_eq_true hq
      exact mm_same (hK _ _ _ _ h) (fun H locs cells slots ls hW hS hl kk => lv_icmp_ne hc.1 hc.2.1 hd ht (fun _ => kk ls hl) (fun q => absurd q hq))
    · rename_i hq
      have hq := Classical.not_not.mp (fun z => hq (decide_eq_true z))
      exact mm_same (hK _ _ _ _ h) (fun H locs cells slots ls hW hS hl kk => lv_icmp_ne hc.1 hc.2.1 hd ht (fun q => absurd hq q) (fun _ => kk ls hl))
  · cases h
theorem sn_if_ne {mi : mm_I} {pc : Nat} {off : Int} {t : Nat} (hd : decode mi.2.1 pc = .ok (.ifCond .ne off, 3)) (ht : (pc : Int) + off = (t : Int)) : mm_Snd mi pc (mo_if (fun x => decide (¬ x = 0)) t) := by
  intro p l e R s m args below meth c D cy r bs sk sv c0 s0 Q res K F hc hF hE hK lv st u h
  simp only [mo_if] at h
  split at h
  · split at h
    · rename_i hq
      have hq := of_decide_eq_true hq
      exact mm_same (hK _ _ _ _ h) (fun H locs cells slots ls hW hS hl kk => lv_if_ne hc.1 hc.2.1 hd ht (fun _ => kk ls hl) (fun q => absurd q hq))
    · rename_i hq
      have hq := Classical.not_not.mp (fun z => hq (decide_eq_true z))
      exact mm_same (hK _ _ _ _ h) (fun H locs cells slots ls hW hS hl kk => lv_if_ne hc.1 hc.2.1 hd ht (fun q => absurd hq q) (fun _ => kk ls hl))
  · cases h
theorem sn_icmp_lt {mi : mm_I} {pc : Nat} {off : Int} {t : Nat} (hd : decode mi.2.1 pc = .ok (.if_icmp .lt off, 3)) (ht : (pc : Int) + off = (t : Int)) : mm_Snd mi pc (mo_cmp (fun x y => decide (x < y)) t) := by
  intro p l e R s m args below meth c D cy r bs sk sv c0 s0 Q res K F hc hF hE hK lv st u h
  simp only [mo_cmp] at h
  split at h
  · split at h
    · rename_i hq
      have hq := of_decide_eq_true hq
      exact mm_same (hK _ _ _ _ h) (fun H locs cells slots ls hW hS hl kk => lv_icmp_lt hc.1 hc.2.1 hd ht (fun _ => kk ls hl) (fun q => absurd hq q))
    · rename_i hq
      have hq := fun z => hq (decide_eq_true z)
      exact mm_same (hK _ _ _ _ h) (fun H locs cells slots ls hW hS hl kk => lv_icmp_lt hc.1 hc.2.1 hd ht (fun q => absurd q hq) (fun _ => kk ls hl))
  · cases h
theorem sn_if_lt {mi : mm_I} {pc : Nat} {off : Int} {t : Nat} (hd : decode mi.2.1 pc = .ok (.ifCond .lt off, 3)) (ht : (pc : Int) + off = (t : Int)) : mm_Snd mi pc (mo_if (fun x => decide (x < 0)) t) := by
  intro p l e R s m args below meth c D cy r bs sk sv c0 s0 Q res K F hc hF hE hK lv st u h
  simp only [mo_if] at h
  split at h
  · split at h
    · rename_i hq
      have hq := of_decide_eq_true hq
      exact mm_same (hK _ _ _ _ h) (fun H locs cells slots ls hW hS hl kk => lv_if_lt hc.1 hc.2.1 hd ht (fun _ => kk ls hl) (fun q => absurd hq q))
    · rename_i hq
      have hq := fun z => hq (decide_eq_true z)
      exact mm_same (hK _ _ _ _ h) (fun H locs cells slots ls hW hS hl kk => lv_if_lt hc.1 hc.2.1 hd ht (fun q => absurd q hq) (fun _ => kk ls hl))
  · cases h
theorem sn_icmp_ge {mi : mm_I} {pc : Nat} {off : Int} {t : Nat} (hd : decode mi.2.1 pc = .ok (.if_icmp .ge off, 3)) (ht : (pc : Int) + off = (t : Int)) : mm_Snd mi pc (mo_cmp (fun x y => decide (y ≤ x)) t) := by
  intro p l e R s m args below meth c D cy r bs sk sv c0 s0 Q res K F hc hF hE hK lv st u h
  simp only [mo_cmp] at h
  split at h
  · split at h
    · rename_i hq
      have hq := of_decide_eq_true hq
      exact mm_same (hK _ _ _ _ h) (fun H locs cells slots ls hW hS hl kk => lv_icmp_ge hc.1 hc.2.1 hd ht (fun _ => kk ls hl) (fun q => absurd hq q))
    · rename_i hq
      have hq := fun z => hq (decide_eq_true z)
      exact mm_same (hK _ _ _ _ h) (fun H locs cells slots ls hW hS hl kk => lv_icmp_ge hc.1 hc.2.1 hd ht (fun q => absurd q hq) (fun _ => kk ls hl))
  · cases h
theorem sn_if_ge {mi : mm_I} {pc : Nat} {off : Int} {t : Nat} (hd : decode mi.2.1 pc = .ok (.ifCond .ge off, 3)) (ht : (pc : Int) + off = (t : Int)) : mm_Snd mi pc (mo_if (fun x => decide (0 ≤ x)) t) := by
  intro p l e R s m args below meth c D cy r bs sk sv c0 s0 Q res K F hc hF hE hK lv st u h
  simp only [mo_if] at h
  split at h
  · split at h
    · rename_i hq
      have hq := of_decide_eq_true hq
      exact mm_same (hK _ _ _ _ h) (fun H locs cells slots ls hW hS hl kk => lv_if_ge hc.1 hc.2.1 hd ht (fun _ => kk ls hl) (fun q => absurd hq q))
    · rename_i hq
      have hq := fun z => hq (decide_eq_true z)
      exact mm_same (hK _ _ _ _ h) (fun H locs cells slots ls hW hS hl kk => lv_if_ge hc.1 hc.2.1 hd ht (fun q => absurd q hq) (fun _ => kk ls hl))
  · cases h
theorem sn_icmp_gt {mi : mm_I} {pc : Nat} {off : Int} {t : Nat} (hd : decode mi.2.1 pc = .ok (.if_icmp .gt off, 3)) (ht : (pc : Int) + off = (t : Int)) : mm_Snd mi pc (mo_cmp (fun x y => decide (y < x)) t) := by
  intro p l e R s m args below meth c D cy r bs sk sv c0 s0 Q res K F hc hF hE hK lv st u h
  simp only [mo_cmp] at h
  split at h
  · split at h
    · rename_i hq
      have hq := of_decide_eq_true hq
      exact mm_same (hK _ _ _ _ h) (fun H locs cells slots ls hW hS hl kk => lv_icmp_gt hc.1 hc.2.1 hd ht (fun _ => kk ls hl) (fun q => absurd hq q))
    · rename_i hq
      have hq := fun z => hq (decide_eq_true z)
      exact mm_same (hK _ _ _ _ h) (fun H locs cells slots ls hW hS hl kk => lv_icmp_gt hc.1 hc.2.1 hd ht (fun q => absurd q hq) (fun _ => kk ls hl))
  · cases h
theorem sn_if_gt {mi : mm_I} {pc : Nat} {off : Int} {t : Nat} (hd : decode mi.2.1 pc = .ok (.ifCond .gt off, 3)) (ht : (pc : Int) + off = (t : Int)) : mm_Snd mi pc (mo_if (fun x => decide (0 < x)) t) := by
  intro p l e R s m args below meth c D cy r bs sk sv c0 s0 Q res K F hc hF hE hK lv st u h
  simp only [mo_if] at h
  split at h
  · split at h
    · rename_i hq
      have hq := of_decide_eq_true hq
      exact mm_same (hK _ _ _ _ h) (fun H locs cells slots ls hW hS hl kk => lv_if_gt hc.1 hc.2.1 hd ht (fun _ => kk ls hl) (fun q => absurd hq q))
    · rename_i hq
      have hq := fun z => hq (decide_eq_true z)
      exact mm_same (hK _ _ _ _ h) (fun H locs cells slots ls hW hS hl kk => lv_if_gt hc.1 hc.2.1 hd ht (fun q => absurd q hq) (fun _ => kk ls hl))
  · cases h
theorem sn_icmp_le {mi : mm_I} {pc : Nat} {off : Int} {t : Nat} (hd : decode mi.2.1 pc = .ok (.if_icmp .le off, 3)) (ht : (pc : Int) + off = (t : Int)) : mm_Snd mi pc (mo_cmp (fun x y => decide (x ≤ y)) t) := by
  intro p l e R s m args below meth c D cy r bs sk sv c0 s0 Q res K F hc hF hE hK lv st u h
  simp only [mo_cmp] at h
  split at h
  · split at h
    · rename_i hq
      have hq := of_decide_eq_true hq
      exact mm_same (hK _ _ _ _ h) (fun H locs cells slots ls hW hS hl kk => lv_icmp_le hc.1 hc.2.1 hd ht (fun _ => kk ls hl) (fun q => absurd hq q))
    · rename_i hq
      have hq := fun z => hq (decide_eq_true z)
      exact mm_same (hK _ _ _ _ h) (fun H locs cells slots ls hW hS hl kk => lv_icmp_le hc.1 hc.2.1 hd ht (fun q => absurd q hq) (fun _ => kk ls hl))
  · cases h
theorem sn_if_le {mi : mm_I} {pc : Nat} {off : Int} {t : Nat} (hd : decode mi.2.1 pc = .ok (.ifCond .le off, 3)) (ht : (pc : Int) + off = (t : Int)) : mm_Snd mi pc (mo_if (fun x => decide (x ≤ 0)) t) := by
  intro p l e R s m args below meth c D cy r bs sk sv c0 s0 Q res K F hc hF hE hK lv st u h
  simp only [mo_if] at h
  split at h
  · split at h
    · rename_i hq
      have hq := of_decide_eq_true hq
      exact mm_same (hK _ _ _ _ h) (fun H locs cells slots ls hW hS hl kk => lv_if_le hc.1 hc.2.1 hd ht (fun _ => kk ls hl) (fun q => absurd hq q))
    · rename_i hq
      have hq := fun z => hq (decide_eq_true z)
      exact mm_same (hK _ _ _ _ h) (fun H locs cells slots ls hW hS hl kk => lv_if_le hc.1 hc.2.1 hd ht (fun q => absurd q hq) (fun _ => kk ls hl))
  · cases h
end MMD
