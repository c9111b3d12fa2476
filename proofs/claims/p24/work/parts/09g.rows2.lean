section P24S
variable {tb : List ExceptionTableEntry} {h : zH} {ad ad0 : Nat → Nat} {lay lay' : List zK} {nL o : Nat} {G : zG} {cc : ByteArray} {own : String} {Ts : List Cond} {F L : Nat} {σ σ1 σ' : zS} {pc : Nat} {lv lv' : List (Nat × Value)} {st rest : List Value}
theorem z_astore_n (C : zCT tb h ad lay nL G cc own Ts F L) {kk : Fin 4} {i x : Nat} (hdg : decode cc pc = .ok (.astore_n kk, 1)) (hi : (kk : Nat) = i) (hn : i < nL) (hl9 : (i, Value.ref x) :: lv.filter (fun q => !(q.1 == i) && !(q.1 + 1 == i && q.2.category == 2)) = lv') (k : zV h ad lay nL G σ (pc + 1) lv' st) : zV h ad lay nL G σ pc lv (.ref x :: st) := by
  obtain ⟨p, e, R, s, m, args, below, meth, c, Q, cells, slots⟩ := G
  obtain ⟨⟨hx, hb, hml, hown, hts⟩, hK, hI, hN, hZ, hlocks, hnt, hF, hL, hst, hcs, hss⟩ := C
  exact fun H locs ls hP hS hl => lv_astore_n hx hb hdg hi hl hn hl9 (fun ls hl => k H locs ls hP hS hl)
theorem zBud_e {f : Nat} (hB : zBud G (f + 42)) : zBud (zGa G 27 252) f := by
  obtain ⟨p, e, R, s, m, args, below, meth, c, Q, cells, slots⟩ := G
  obtain ⟨h1, h2⟩ := hB
  refine ⟨?_, ?_⟩
  · show cells + 27 + f ≤ R.cells
    omega
  · show slots + 252 + 6 * f ≤ R.slots
    omega
theorem zC_e27 (C : zCT tb h ad0 ([] : List zK) nL G cc own Ts F L) (hI : zI ad lay.length) (hAi : ∀ i, i < lay.length → G.2.2.2.1.heap.size ≤ ad i) (hB : zBud G 42) : zCT tb h ad lay nL (zGa G 27 252) cc own Ts F L := by
  obtain ⟨p, e, R, s, m, args, below, meth, c, Q, cells, slots⟩ := G
  obtain ⟨h0, hK, _, hN, hZ, hlocks, hnt, hF, hL, hst9, hcs, hss⟩ := C
  obtain ⟨h1, h2⟩ := hB
  refine ⟨h0, hK, hI, hN, zHS_to hZ (fun _ _ _ => rfl) ?_ (Vm.Alike.refl s.vm), hlocks, hnt, hF, hL, hst9, ?_, ?_⟩
  · rintro q (⟨k, hk, rfl⟩ | hq)
    · exact Or.inr (hAi k hk)
    · exact Or.inr hq
  · show cells + 27 ≤ R.cells
    omega
  · show slots + 252 ≤ R.slots
    omega
theorem zQm_p {mc ms : Nat} {σ0 : zS} (hQ : zQm mc ms h ad0 σ0 ad G) : zQm mc ms h ad0 σ0 ad (zGp G) := by
  obtain ⟨p, e, R, s, m, args, below, meth, c, Q, cells, slots⟩ := G
  exact hQ
end P24S
