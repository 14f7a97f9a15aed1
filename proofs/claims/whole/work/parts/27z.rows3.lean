section
variable {α : Type} {E : z_E} {l : Launch} {Y : z_Y} {cv : α → Option Value × z_W} {res : Option α} {pc : Nat} {lv : List (Nat × Value)} {st : List Value} {w : z_W} {S : z_S} {d : z_D} {k n : Nat}
theorem r_aloadN (i q : Nat) (hq : lv[q]? = some (i, .null)) (pc' : Nat) (hp : pc + 2 = pc') (hd : decode Y.2.1 pc = .ok (.aload i, 2)) (K : z_G E l Y cv res pc' lv (.null :: st) w k n) : z_G E l Y cv res pc lv st w k n := by
  subst hp
  exact fun z hz p e s m args below meth c H locs ls C => lv_aloadN C.1.1 C.1.2.1 hd (lv_at C.2.2.2.2.2.2.2 q hq) (K z hz p e s m args below meth c H locs ls C)
theorem r_astoreN (i : Nat) (lv' : List (Nat × Value)) (hn : i < Y.2.2.1) (hl : (i, Value.null) :: lv.filter (fun q => !(q.1 == i) && !(q.1 + 1 == i && q.2.category == 2)) = lv') (pc' : Nat) (hp : pc + 2 = pc') (hd : decode Y.2.1 pc = .ok (.astore i, 2)) (K : z_G E l Y cv res pc' lv' st w k n) : z_G E l Y cv res pc lv (.null :: st) w k n := by
  subst hp
  exact fun z hz p e s m args below meth c H locs ls C => lv_astoreN C.1.1 C.1.2.1 hd C.2.2.2.2.2.2.2 hn hl (fun ls9 h9 => K z hz p e s m args below meth c H locs ls9 (C.ls h9))
end
