def ST_X12_reads : mo_S := fun as σ Q => as = [.inr (.inr (50, 0))] ∧ ((mo_mS σ ∧ σ.1 50 0 35 = (-1 : Int32) ∧ 0 ≤ (999 : Int32) ∧ (999 : Int32) ≤ 999) ∧ ((mo_mnum σ (999 : Int32) → (∀ ρ1 : Nat → Int32, (mo_mto σ ρ1 (mo_mN σ)) → ((¬ ((mo_rowI σ 50 0 ρ1).1 50 0 35 = (-1 : Int32)) → Q (some (.inl (((nI (mo_mnv σ)) * (1000 : Int32) + (0 : Int32)) * (1000 : Int32) + (0 : Int32)))) (mo_rowI σ 50 0 ρ1)) ∧ ((mo_rowI σ 50 0 ρ1).1 50 0 35 = (-1 : Int32) → ((mo_mS (mo_rowI σ 50 0 ρ1) ∧ (¬ (48 ≤ (46 : Int32) ∧ (46 : Int32) ≤ 57) ∧ ¬ (97 ≤ (46 : Int32) ∧ (46 : Int32) ≤ 122))) ∧ ((¬ (mo_msg (mo_rowI σ 50 0 ρ1) (46 : Int32)) → Q (some (.inl (((nI (mo_mnv σ)) * (1000 : Int32) + (0 : Int32)) * (1000 : Int32) + (0 : Int32)))) (mo_rowI σ 50 0 ρ1)) ∧ (mo_msg (mo_rowI σ 50 0 ρ1) (46 : Int32) → ((mo_le ((mo_rowI σ 50 0 ρ1).1 50 0 31) 200 ∧ mo_le ((mo_rowI σ 50 0 ρ1).1 50 0 33) ((mo_rowI σ 50 0 ρ1).1 50 0 31).toNatClampNeg) ∧ (∀ ρ2 : Nat → Int32, (mo_mto (mo_rowI σ 50 0 ρ1) ρ2 (mo_tS (σ.1 72 0) (mo_mz (mo_rowI σ 50 0 ρ1)) ((mo_rowI σ 50 0 ρ1).1 50 0 33).toNatClampNeg)) → ((mo_mS (mo_rowI (mo_rowI σ 50 0 ρ1) 50 0 ρ2) ∧ (mo_rowI (mo_rowI σ 50 0 ρ1) 50 0 ρ2).1 50 0 35 = (-1 : Int32) ∧ 0 ≤ (999 : Int32) ∧ (999 : Int32) ≤ 999) ∧ ((mo_mnum (mo_rowI (mo_rowI σ 50 0 ρ1) 50 0 ρ2) (999 : Int32) → (∀ ρ3 : Nat → Int32, (mo_mto (mo_rowI (mo_rowI σ 50 0 ρ1) 50 0 ρ2) ρ3 (mo_mN (mo_rowI (mo_rowI σ 50 0 ρ1) 50 0 ρ2))) → ((¬ ((mo_rowI (mo_rowI (mo_rowI σ 50 0 ρ1) 50 0 ρ2) 50 0 ρ3).1 50 0 35 = (-1 : Int32)) → Q (some (.inl (((nI (mo_mnv σ)) * (1000 : Int32) + (nI (mo_mnv (mo_rowI (mo_rowI σ 50 0 ρ1) 50 0 ρ2)))) * (1000 : Int32) + (0 : Int32)))) (mo_rowI (mo_rowI (mo_rowI σ 50 0 ρ1) 50 0 ρ2) 50 0 ρ3)) ∧ ((mo_rowI (mo_rowI (mo_rowI σ 50 0 ρ1) 50 0 ρ2) 50 0 ρ3).1 50 0 35 = (-1 : Int32) → ((mo_mS (mo_rowI (mo_rowI (mo_rowI σ 50 0 ρ1) 50 0 ρ2) 50 0 ρ3) ∧ (¬ (48 ≤ (46 : Int32) ∧ (46 : Int32) ≤ 57) ∧ ¬ (97 ≤ (46 : Int32) ∧ (46 : Int32) ≤ 122))) ∧ ((¬ (mo_msg (mo_rowI (mo_rowI (mo_rowI σ 50 0 ρ1) 50 0 ρ2) 50 0 ρ3) (46 : Int32)) → Q (some (.inl (((nI (mo_mnv σ)) * (1000 : Int32) + (nI (mo_mnv (mo_rowI (mo_rowI σ 50 0 ρ1) 50 0 ρ2)))) * (1000 : Int32) + (0 : Int32)))) (mo_rowI (mo_rowI (mo_rowI σ 50 0 ρ1) 50 0 ρ2) 50 0 ρ3)) ∧ (mo_msg (mo_rowI (mo_rowI (mo_rowI σ 50 0 ρ1) 50 0 ρ2) 50 0 ρ3) (46 : Int32) → ((mo_le ((mo_rowI (mo_rowI (mo_rowI σ 50 0 ρ1) 50 0 ρ2) 50 0 ρ3).1 50 0 31) 200 ∧ mo_le ((mo_rowI (mo_rowI (mo_rowI σ 50 0 ρ1) 50 0 ρ2) 50 0 ρ3).1 50 0 33) ((mo_rowI (mo_rowI (mo_rowI σ 50 0 ρ1) 50 0 ρ2) 50 0 ρ3).1 50 0 31).toNatClampNeg) ∧ (∀ ρ4 : Nat → Int32, (mo_mto (mo_rowI (mo_rowI (mo_rowI σ 50 0 ρ1) 50 0 ρ2) 50 0 ρ3) ρ4 (mo_tS (σ.1 72 0) (mo_mz (mo_rowI (mo_rowI (mo_rowI σ 50 0 ρ1) 50 0 ρ2) 50 0 ρ3)) ((mo_rowI (mo_rowI (mo_rowI σ 50 0 ρ1) 50 0 ρ2) 50 0 ρ3).1 50 0 33).toNatClampNeg)) → ((mo_mS (mo_rowI (mo_rowI (mo_rowI (mo_rowI σ 50 0 ρ1) 50 0 ρ2) 50 0 ρ3) 50 0 ρ4) ∧ (mo_rowI (mo_rowI (mo_rowI (mo_rowI σ 50 0 ρ1) 50 0 ρ2) 50 0 ρ3) 50 0 ρ4).1 50 0 35 = (-1 : Int32) ∧ 0 ≤ (999 : Int32) ∧ (999 : Int32) ≤ 999) ∧ ((mo_mnum (mo_rowI (mo_rowI (mo_rowI (mo_rowI σ 50 0 ρ1) 50 0 ρ2) 50 0 ρ3) 50 0 ρ4) (999 : Int32) → (∀ ρ5 : Nat → Int32, (mo_mto (mo_rowI (mo_rowI (mo_rowI (mo_rowI σ 50 0 ρ1) 50 0 ρ2) 50 0 ρ3) 50 0 ρ4) ρ5 (mo_mN (mo_rowI (mo_rowI (mo_rowI (mo_rowI σ 50 0 ρ1) 50 0 ρ2) 50 0 ρ3) 50 0 ρ4))) → Q (some (.inl (((nI (mo_mnv σ)) * (1000 : Int32) + (nI (mo_mnv (mo_rowI (mo_rowI σ 50 0 ρ1) 50 0 ρ2)))) * (1000 : Int32) + (nI (mo_mnv (mo_rowI (mo_rowI (mo_rowI (mo_rowI σ 50 0 ρ1) 50 0 ρ2) 50 0 ρ3) 50 0 ρ4)))))) (mo_rowI (mo_rowI (mo_rowI (mo_rowI (mo_rowI σ 50 0 ρ1) 50 0 ρ2) 50 0 ρ3) 50 0 ρ4) 50 0 ρ5))) ∧ (¬ mo_mnum (mo_rowI (mo_rowI (mo_rowI (mo_rowI σ 50 0 ρ1) 50 0 ρ2) 50 0 ρ3) 50 0 ρ4) (999 : Int32) → (∀ ρ6 : Nat → Int32, (mo_mfl (mo_rowI (mo_rowI (mo_rowI (mo_rowI σ 50 0 ρ1) 50 0 ρ2) 50 0 ρ3) 50 0 ρ4) ρ6 (mo_mp (mo_rowI (mo_rowI (mo_rowI (mo_rowI σ 50 0 ρ1) 50 0 ρ2) 50 0 ρ3) 50 0 ρ4))) → Q (some (.inl (((nI (mo_mnv σ)) * (1000 : Int32) + (nI (mo_mnv (mo_rowI (mo_rowI σ 50 0 ρ1) 50 0 ρ2)))) * (1000 : Int32) + (0 : Int32)))) (mo_rowI (mo_rowI (mo_rowI (mo_rowI (mo_rowI σ 50 0 ρ1) 50 0 ρ2) 50 0 ρ3) 50 0 ρ4) 50 0 ρ6)))))))))))))) ∧ (¬ mo_mnum (mo_rowI (mo_rowI σ 50 0 ρ1) 50 0 ρ2) (999 : Int32) → (∀ ρ7 : Nat → Int32, (mo_mfl (mo_rowI (mo_rowI σ 50 0 ρ1) 50 0 ρ2) ρ7 (mo_mp (mo_rowI (mo_rowI σ 50 0 ρ1) 50 0 ρ2))) → ((¬ ((mo_rowI (mo_rowI (mo_rowI σ 50 0 ρ1) 50 0 ρ2) 50 0 ρ7).1 50 0 35 = (-1 : Int32)) → Q (some (.inl (((nI (mo_mnv σ)) * (1000 : Int32) + (0 : Int32)) * (1000 : Int32) + (0 : Int32)))) (mo_rowI (mo_rowI (mo_rowI σ 50 0 ρ1) 50 0 ρ2) 50 0 ρ7)) ∧ ((mo_rowI (mo_rowI (mo_rowI σ 50 0 ρ1) 50 0 ρ2) 50 0 ρ7).1 50 0 35 = (-1 : Int32) → ((mo_mS (mo_rowI (mo_rowI (mo_rowI σ 50 0 ρ1) 50 0 ρ2) 50 0 ρ7) ∧ (¬ (48 ≤ (46 : Int32) ∧ (46 : Int32) ≤ 57) ∧ ¬ (97 ≤ (46 : Int32) ∧ (46 : Int32) ≤ 122))) ∧ ((¬ (mo_msg (mo_rowI (mo_rowI (mo_rowI σ 50 0 ρ1) 50 0 ρ2) 50 0 ρ7) (46 : Int32)) → Q (some (.inl (((nI (mo_mnv σ)) * (1000 : Int32) + (0 : Int32)) * (1000 : Int32) + (0 : Int32)))) (mo_rowI (mo_rowI (mo_rowI σ 50 0 ρ1) 50 0 ρ2) 50 0 ρ7)) ∧ (mo_msg (mo_rowI (mo_rowI (mo_rowI σ 50 0 ρ1) 50 0 ρ2) 50 0 ρ7) (46 : Int32) → ((mo_le ((mo_rowI (mo_rowI (mo_rowI σ 50 0 ρ1) 50 0 ρ2) 50 0 ρ7).1 50 0 31) 200 ∧ mo_le ((mo_rowI (mo_rowI (mo_rowI σ 50 0 ρ1) 50 0 ρ2) 50 0 ρ7).1 50 0 33) ((mo_rowI (mo_rowI (mo_rowI σ 50 0 ρ1) 50 0 ρ2) 50 0 ρ7).1 50 0 31).toNatClampNeg) ∧ (∀ ρ8 : Nat → Int32, (mo_mto (mo_rowI (mo_rowI (mo_rowI σ 50 0 ρ1) 50 0 ρ2) 50 0 ρ7) ρ8 (mo_tS (σ.1 72 0) (mo_mz (mo_rowI (mo_rowI (mo_rowI σ 50 0 ρ1) 50 0 ρ2) 50 0 ρ7)) ((mo_rowI (mo_rowI (mo_rowI σ 50 0 ρ1) 50 0 ρ2) 50 0 ρ7).1 50 0 33).toNatClampNeg)) → ((mo_mS (mo_rowI (mo_rowI (mo_rowI (mo_rowI σ 50 0 ρ1) 50 0 ρ2) 50 0 ρ7) 50 0 ρ8) ∧ (mo_rowI (mo_rowI (mo_rowI (mo_rowI σ 50 0 ρ1) 50 0 ρ2) 50 0 ρ7) 50 0 ρ8).1 50 0 35 = (-1 : Int32) ∧ 0 ≤ (999 : Int32) ∧ (999 : Int32) ≤ 999) ∧ ((mo_mnum (mo_rowI (mo_rowI (mo_rowI (mo_rowI σ 50 0 ρ1) 50 0 ρ2) 50 0 ρ7) 50 0 ρ8) (999 : Int32) → (∀ ρ9 : Nat → Int32, (mo_mto (mo_rowI (mo_rowI (mo_rowI (mo_rowI σ 50 0 ρ1) 50 0 ρ2) 50 0 ρ7) 50 0 ρ8) ρ9 (mo_mN (mo_rowI (mo_rowI (mo_rowI (mo_rowI σ 50 0 ρ1) 50 0 ρ2) 50 0 ρ7) 50 0 ρ8))) → Q (some (.inl (((nI (mo_mnv σ)) * (1000 : Int32) + (0 : Int32)) * (1000 : Int32) + (nI (mo_mnv (mo_rowI (mo_rowI (mo_rowI (mo_rowI σ 50 0 ρ1) 50 0 ρ2) 50 0 ρ7) 50 0 ρ8)))))) (mo_rowI (mo_rowI (mo_rowI (mo_rowI (mo_rowI σ 50 0 ρ1) 50 0 ρ2) 50 0 ρ7) 50 0 ρ8) 50 0 ρ9))) ∧ (¬ mo_mnum (mo_rowI (mo_rowI (mo_rowI (mo_rowI σ 50 0 ρ1) 50 0 ρ2) 50 0 ρ7) 50 0 ρ8) (999 : Int32) → (∀ ρ10 : Nat → Int32, (mo_mfl (mo_rowI (mo_rowI (mo_rowI (mo_rowI σ 50 0 ρ1) 50 0 ρ2) 50 0 ρ7) 50 0 ρ8) ρ10 (mo_mp (mo_rowI (mo_rowI (mo_rowI (mo_rowI σ 50 0 ρ1) 50 0 ρ2) 50 0 ρ7) 50 0 ρ8))) → Q (some (.inl (((nI (mo_mnv σ)) * (1000 : Int32) + (0 : Int32)) * (1000 : Int32) + (0 : Int32)))) (mo_rowI (mo_rowI (mo_rowI (mo_rowI (mo_rowI σ 50 0 ρ1) 50 0 ρ2) 50 0 ρ7) 50 0 ρ8) 50 0 ρ10))))))))))))))))))))))))) ∧ (¬ mo_mnum σ (999 : Int32) → (∀ ρ11 : Nat → Int32, (mo_mfl σ ρ11 (mo_mp σ)) → ((¬ ((mo_rowI σ 50 0 ρ11).1 50 0 35 = (-1 : Int32)) → Q (some (.inl (((0 : Int32) * (1000 : Int32) + (0 : Int32)) * (1000 : Int32) + (0 : Int32)))) (mo_rowI σ 50 0 ρ11)) ∧ ((mo_rowI σ 50 0 ρ11).1 50 0 35 = (-1 : Int32) → ((mo_mS (mo_rowI σ 50 0 ρ11) ∧ (¬ (48 ≤ (46 : Int32) ∧ (46 : Int32) ≤ 57) ∧ ¬ (97 ≤ (46 : Int32) ∧ (46 : Int32) ≤ 122))) ∧ ((¬ (mo_msg (mo_rowI σ 50 0 ρ11) (46 : Int32)) → Q (some (.inl (((0 : Int32) * (1000 : Int32) + (0 : Int32)) * (1000 : Int32) + (0 : Int32)))) (mo_rowI σ 50 0 ρ11)) ∧ (mo_msg (mo_rowI σ 50 0 ρ11) (46 : Int32) → ((mo_le ((mo_rowI σ 50 0 ρ11).1 50 0 31) 200 ∧ mo_le ((mo_rowI σ 50 0 ρ11).1 50 0 33) ((mo_rowI σ 50 0 ρ11).1 50 0 31).toNatClampNeg) ∧ (∀ ρ12 : Nat → Int32, (mo_mto (mo_rowI σ 50 0 ρ11) ρ12 (mo_tS (σ.1 72 0) (mo_mz (mo_rowI σ 50 0 ρ11)) ((mo_rowI σ 50 0 ρ11).1 50 0 33).toNatClampNeg)) → ((mo_mS (mo_rowI (mo_rowI σ 50 0 ρ11) 50 0 ρ12) ∧ (mo_rowI (mo_rowI σ 50 0 ρ11) 50 0 ρ12).1 50 0 35 = (-1 : Int32) ∧ 0 ≤ (999 : Int32) ∧ (999 : Int32) ≤ 999) ∧ ((mo_mnum (mo_rowI (mo_rowI σ 50 0 ρ11) 50 0 ρ12) (999 : Int32) → (∀ ρ13 : Nat → Int32, (mo_mto (mo_rowI (mo_rowI σ 50 0 ρ11) 50 0 ρ12) ρ13 (mo_mN (mo_rowI (mo_rowI σ 50 0 ρ11) 50 0 ρ12))) → ((¬ ((mo_rowI (mo_rowI (mo_rowI σ 50 0 ρ11) 50 0 ρ12) 50 0 ρ13).1 50 0 35 = (-1 : Int32)) → Q (some (.inl (((0 : Int32) * (1000 : Int32) + (nI (mo_mnv (mo_rowI (mo_rowI σ 50 0 ρ11) 50 0 ρ12)))) * (1000 : Int32) + (0 : Int32)))) (mo_rowI (mo_rowI (mo_rowI σ 50 0 ρ11) 50 0 ρ12) 50 0 ρ13)) ∧ ((mo_rowI (mo_rowI (mo_rowI σ 50 0 ρ11) 50 0 ρ12) 50 0 ρ13).1 50 0 35 = (-1 : Int32) → ((mo_mS (mo_rowI (mo_rowI (mo_rowI σ 50 0 ρ11) 50 0 ρ12) 50 0 ρ13) ∧ (¬ (48 ≤ (46 : Int32) ∧ (46 : Int32) ≤ 57) ∧ ¬ (97 ≤ (46 : Int32) ∧ (46 : Int32) ≤ 122))) ∧ ((¬ (mo_msg (mo_rowI (mo_rowI (mo_rowI σ 50 0 ρ11) 50 0 ρ12) 50 0 ρ13) (46 : Int32)) → Q (some (.inl (((0 : Int32) * (1000 : Int32) + (nI (mo_mnv (mo_rowI (mo_rowI σ 50 0 ρ11) 50 0 ρ12)))) * (1000 : Int32) + (0 : Int32)))) (mo_rowI (mo_rowI (mo_rowI σ 50 0 ρ11) 50 0 ρ12) 50 0 ρ13)) ∧ (mo_msg (mo_rowI (mo_rowI (mo_rowI σ 50 0 ρ11) 50 0 ρ12) 50 0 ρ13) (46 : Int32) → ((mo_le ((mo_rowI (mo_rowI (mo_rowI σ 50 0 ρ11) 50 0 ρ12) 50 0 ρ13).1 50 0 31) 200 ∧ mo_le ((mo_rowI (mo_rowI (mo_rowI σ 50 0 ρ11) 50 0 ρ12) 50 0 ρ13).1 50 0 33) ((mo_rowI (mo_rowI (mo_rowI σ 50 0 ρ11) 50 0 ρ12) 50 0 ρ13).1 50 0 31).toNatClampNeg) ∧ (∀ ρ14 : Nat → Int32, (mo_mto (mo_rowI (mo_rowI (mo_rowI σ 50 0 ρ11) 50 0 ρ12) 50 0 ρ13) ρ14 (mo_tS (σ.1 72 0) (mo_mz (mo_rowI (mo_rowI (mo_rowI σ 50 0 ρ11) 50 0 ρ12) 50 0 ρ13)) ((mo_rowI (mo_rowI (mo_rowI σ 50 0 ρ11) 50 0 ρ12) 50 0 ρ13).1 50 0 33).toNatClampNeg)) → ((mo_mS (mo_rowI (mo_rowI (mo_rowI (mo_rowI σ 50 0 ρ11) 50 0 ρ12) 50 0 ρ13) 50 0 ρ14) ∧ (mo_rowI (mo_rowI (mo_rowI (mo_rowI σ 50 0 ρ11) 50 0 ρ12) 50 0 ρ13) 50 0 ρ14).1 50 0 35 = (-1 : Int32) ∧ 0 ≤ (999 : Int32) ∧ (999 : Int32) ≤ 999) ∧ ((mo_mnum (mo_rowI (mo_rowI (mo_rowI (mo_rowI σ 50 0 ρ11) 50 0 ρ12) 50 0 ρ13) 50 0 ρ14) (999 : Int32) → (∀ ρ15 : Nat → Int32, (mo_mto (mo_rowI (mo_rowI (mo_rowI (mo_rowI σ 50 0 ρ11) 50 0 ρ12) 50 0 ρ13) 50 0 ρ14) ρ15 (mo_mN (mo_rowI (mo_rowI (mo_rowI (mo_rowI σ 50 0 ρ11) 50 0 ρ12) 50 0 ρ13) 50 0 ρ14))) → Q (some (.inl (((0 : Int32) * (1000 : Int32) + (nI (mo_mnv (mo_rowI (mo_rowI σ 50 0 ρ11) 50 0 ρ12)))) * (1000 : Int32) + (nI (mo_mnv (mo_rowI (mo_rowI (mo_rowI (mo_rowI σ 50 0 ρ11) 50 0 ρ12) 50 0 ρ13) 50 0 ρ14)))))) (mo_rowI (mo_rowI (mo_rowI (mo_rowI (mo_rowI σ 50 0 ρ11) 50 0 ρ12) 50 0 ρ13) 50 0 ρ14) 50 0 ρ15))) ∧ (¬ mo_mnum (mo_rowI (mo_rowI (mo_rowI (mo_rowI σ 50 0 ρ11) 50 0 ρ12) 50 0 ρ13) 50 0 ρ14) (999 : Int32) → (∀ ρ16 : Nat → Int32, (mo_mfl (mo_rowI (mo_rowI (mo_rowI (mo_rowI σ 50 0 ρ11) 50 0 ρ12) 50 0 ρ13) 50 0 ρ14) ρ16 (mo_mp (mo_rowI (mo_rowI (mo_rowI (mo_rowI σ 50 0 ρ11) 50 0 ρ12) 50 0 ρ13) 50 0 ρ14))) → Q (some (.inl (((0 : Int32) * (1000 : Int32) + (nI (mo_mnv (mo_rowI (mo_rowI σ 50 0 ρ11) 50 0 ρ12)))) * (1000 : Int32) + (0 : Int32)))) (mo_rowI (mo_rowI (mo_rowI (mo_rowI (mo_rowI σ 50 0 ρ11) 50 0 ρ12) 50 0 ρ13) 50 0 ρ14) 50 0 ρ16)))))))))))))) ∧ (¬ mo_mnum (mo_rowI (mo_rowI σ 50 0 ρ11) 50 0 ρ12) (999 : Int32) → (∀ ρ17 : Nat → Int32, (mo_mfl (mo_rowI (mo_rowI σ 50 0 ρ11) 50 0 ρ12) ρ17 (mo_mp (mo_rowI (mo_rowI σ 50 0 ρ11) 50 0 ρ12))) → ((¬ ((mo_rowI (mo_rowI (mo_rowI σ 50 0 ρ11) 50 0 ρ12) 50 0 ρ17).1 50 0 35 = (-1 : Int32)) → Q (some (.inl (((0 : Int32) * (1000 : Int32) + (0 : Int32)) * (1000 : Int32) + (0 : Int32)))) (mo_rowI (mo_rowI (mo_rowI σ 50 0 ρ11) 50 0 ρ12) 50 0 ρ17)) ∧ ((mo_rowI (mo_rowI (mo_rowI σ 50 0 ρ11) 50 0 ρ12) 50 0 ρ17).1 50 0 35 = (-1 : Int32) → ((mo_mS (mo_rowI (mo_rowI (mo_rowI σ 50 0 ρ11) 50 0 ρ12) 50 0 ρ17) ∧ (¬ (48 ≤ (46 : Int32) ∧ (46 : Int32) ≤ 57) ∧ ¬ (97 ≤ (46 : Int32) ∧ (46 : Int32) ≤ 122))) ∧ ((¬ (mo_msg (mo_rowI (mo_rowI (mo_rowI σ 50 0 ρ11) 50 0 ρ12) 50 0 ρ17) (46 : Int32)) → Q (some (.inl (((0 : Int32) * (1000 : Int32) + (0 : Int32)) * (1000 : Int32) + (0 : Int32)))) (mo_rowI (mo_rowI (mo_rowI σ 50 0 ρ11) 50 0 ρ12) 50 0 ρ17)) ∧ (mo_msg (mo_rowI (mo_rowI (mo_rowI σ 50 0 ρ11) 50 0 ρ12) 50 0 ρ17) (46 : Int32) → ((mo_le ((mo_rowI (mo_rowI (mo_rowI σ 50 0 ρ11) 50 0 ρ12) 50 0 ρ17).1 50 0 31) 200 ∧ mo_le ((mo_rowI (mo_rowI (mo_rowI σ 50 0 ρ11) 50 0 ρ12) 50 0 ρ17).1 50 0 33) ((mo_rowI (mo_rowI (mo_rowI σ 50 0 ρ11) 50 0 ρ12) 50 0 ρ17).1 50 0 31).toNatClampNeg) ∧ (∀ ρ18 : Nat → Int32, (mo_mto (mo_rowI (mo_rowI (mo_rowI σ 50 0 ρ11) 50 0 ρ12) 50 0 ρ17) ρ18 (mo_tS (σ.1 72 0) (mo_mz (mo_rowI (mo_rowI (mo_rowI σ 50 0 ρ11) 50 0 ρ12) 50 0 ρ17)) ((mo_rowI (mo_rowI (mo_rowI σ 50 0 ρ11) 50 0 ρ12) 50 0 ρ17).1 50 0 33).toNatClampNeg)) → ((mo_mS (mo_rowI (mo_rowI (mo_rowI (mo_rowI σ 50 0 ρ11) 50 0 ρ12) 50 0 ρ17) 50 0 ρ18) ∧ (mo_rowI (mo_rowI (mo_rowI (mo_rowI σ 50 0 ρ11) 50 0 ρ12) 50 0 ρ17) 50 0 ρ18).1 50 0 35 = (-1 : Int32) ∧ 0 ≤ (999 : Int32) ∧ (999 : Int32) ≤ 999) ∧ ((mo_mnum (mo_rowI (mo_rowI (mo_rowI (mo_rowI σ 50 0 ρ11) 50 0 ρ12) 50 0 ρ17) 50 0 ρ18) (999 : Int32) → (∀ ρ19 : Nat → Int32, (mo_mto (mo_rowI (mo_rowI (mo_rowI (mo_rowI σ 50 0 ρ11) 50 0 ρ12) 50 0 ρ17) 50 0 ρ18) ρ19 (mo_mN (mo_rowI (mo_rowI (mo_rowI (mo_rowI σ 50 0 ρ11) 50 0 ρ12) 50 0 ρ17) 50 0 ρ18))) → Q (some (.inl (((0 : Int32) * (1000 : Int32) + (0 : Int32)) * (1000 : Int32) + (nI (mo_mnv (mo_rowI (mo_rowI (mo_rowI (mo_rowI σ 50 0 ρ11) 50 0 ρ12) 50 0 ρ17) 50 0 ρ18)))))) (mo_rowI (mo_rowI (mo_rowI (mo_rowI (mo_rowI σ 50 0 ρ11) 50 0 ρ12) 50 0 ρ17) 50 0 ρ18) 50 0 ρ19))) ∧ (¬ mo_mnum (mo_rowI (mo_rowI (mo_rowI (mo_rowI σ 50 0 ρ11) 50 0 ρ12) 50 0 ρ17) 50 0 ρ18) (999 : Int32) → (∀ ρ20 : Nat → Int32, (mo_mfl (mo_rowI (mo_rowI (mo_rowI (mo_rowI σ 50 0 ρ11) 50 0 ρ12) 50 0 ρ17) 50 0 ρ18) ρ20 (mo_mp (mo_rowI (mo_rowI (mo_rowI (mo_rowI σ 50 0 ρ11) 50 0 ρ12) 50 0 ρ17) 50 0 ρ18))) → Q (some (.inl (((0 : Int32) * (1000 : Int32) + (0 : Int32)) * (1000 : Int32) + (0 : Int32)))) (mo_rowI (mo_rowI (mo_rowI (mo_rowI (mo_rowI σ 50 0 ρ11) 50 0 ρ12) 50 0 ρ17) 50 0 ρ18) 50 0 ρ20)))))))))))))))))))))))))))
theorem mT_X12_reads : ∀ (as : List mo_V) (σ : mo_M) (P P' : mo_Q), (∀ x τ, P x τ → P' x τ) → ST_X12_reads as σ P → ST_X12_reads as σ P' := by
  rintro as σ P P' hm ⟨e, hq⟩
  exact ⟨e, ⟨hq.1, ⟨fun c1 => fun ρ1 hr1 => ⟨fun c2 => hm _ _ (((hq.2.1 c1) ρ1 hr1).1 c2), fun c2 => ⟨(((hq.2.1 c1) ρ1 hr1).2 c2).1, ⟨fun c3 => hm _ _ ((((hq.2.1 c1) ρ1 hr1).2 c2).2.1 c3), fun c3 => ⟨((((hq.2.1 c1) ρ1 hr1).2 c2).2.2 c3).1, fun ρ2 hr2 => ⟨(((((hq.2.1 c1) ρ1 hr1).2 c2).2.2 c3).2 ρ2 hr2).1, ⟨fun c4 => fun ρ3 hr3 => ⟨fun c5 => hm _ _ ((((((((hq.2.1 c1) ρ1 hr1).2 c2).2.2 c3).2 ρ2 hr2).2.1 c4) ρ3 hr3).1 c5), fun c5 => ⟨((((((((hq.2.1 c1) ρ1 hr1).2 c2).2.2 c3).2 ρ2 hr2).2.1 c4) ρ3 hr3).2 c5).1, ⟨fun c6 => hm _ _ (((((((((hq.2.1 c1) ρ1 hr1).2 c2).2.2 c3).2 ρ2 hr2).2.1 c4) ρ3 hr3).2 c5).2.1 c6), fun c6 => ⟨(((((((((hq.2.1 c1) ρ1 hr1).2 c2).2.2 c3).2 ρ2 hr2).2.1 c4) ρ3 hr3).2 c5).2.2 c6).1, fun ρ4 hr4 => ⟨((((((((((hq.2.1 c1) ρ1 hr1).2 c2).2.2 c3).2 ρ2 hr2).2.1 c4) ρ3 hr3).2 c5).2.2 c6).2 ρ4 hr4).1, ⟨fun c7 => fun ρ5 hr5 => hm _ _ ((((((((((((hq.2.1 c1) ρ1 hr1).2 c2).2.2 c3).2 ρ2 hr2).2.1 c4) ρ3 hr3).2 c5).2.2 c6).2 ρ4 hr4).2.1 c7) ρ5 hr5), fun c7 => fun ρ6 hr6 => hm _ _ ((((((((((((hq.2.1 c1) ρ1 hr1).2 c2).2.2 c3).2 ρ2 hr2).2.1 c4) ρ3 hr3).2 c5).2.2 c6).2 ρ4 hr4).2.2 c7) ρ6 hr6)⟩⟩⟩⟩⟩⟩, fun c4 => fun ρ7 hr7 => ⟨fun c5 => hm _ _ ((((((((hq.2.1 c1) ρ1 hr1).2 c2).2.2 c3).2 ρ2 hr2).2.2 c4) ρ7 hr7).1 c5), fun c5 => ⟨((((((((hq.2.1 c1) ρ1 hr1).2 c2).2.2 c3).2 ρ2 hr2).2.2 c4) ρ7 hr7).2 c5).1, ⟨fun c6 => hm _ _ (((((((((hq.2.1 c1) ρ1 hr1).2 c2).2.2 c3).2 ρ2 hr2).2.2 c4) ρ7 hr7).2 c5).2.1 c6), fun c6 => ⟨(((((((((hq.2.1 c1) ρ1 hr1).2 c2).2.2 c3).2 ρ2 hr2).2.2 c4) ρ7 hr7).2 c5).2.2 c6).1, fun ρ8 hr8 => ⟨((((((((((hq.2.1 c1) ρ1 hr1).2 c2).2.2 c3).2 ρ2 hr2).2.2 c4) ρ7 hr7).2 c5).2.2 c6).2 ρ8 hr8).1, ⟨fun c7 => fun ρ9 hr9 => hm _ _ ((((((((((((hq.2.1 c1) ρ1 hr1).2 c2).2.2 c3).2 ρ2 hr2).2.2 c4) ρ7 hr7).2 c5).2.2 c6).2 ρ8 hr8).2.1 c7) ρ9 hr9), fun c7 => fun ρ10 hr10 => hm _ _ ((((((((((((hq.2.1 c1) ρ1 hr1).2 c2).2.2 c3).2 ρ2 hr2).2.2 c4) ρ7 hr7).2 c5).2.2 c6).2 ρ8 hr8).2.2 c7) ρ10 hr10)⟩⟩⟩⟩⟩⟩⟩⟩⟩⟩⟩⟩, fun c1 => fun ρ11 hr11 => ⟨fun c2 => hm _ _ (((hq.2.2 c1) ρ11 hr11).1 c2), fun c2 => ⟨(((hq.2.2 c1) ρ11 hr11).2 c2).1, ⟨fun c3 => hm _ _ ((((hq.2.2 c1) ρ11 hr11).2 c2).2.1 c3), fun c3 => ⟨((((hq.2.2 c1) ρ11 hr11).2 c2).2.2 c3).1, fun ρ12 hr12 => ⟨(((((hq.2.2 c1) ρ11 hr11).2 c2).2.2 c3).2 ρ12 hr12).1, ⟨fun c4 => fun ρ13 hr13 => ⟨fun c5 => hm _ _ ((((((((hq.2.2 c1) ρ11 hr11).2 c2).2.2 c3).2 ρ12 hr12).2.1 c4) ρ13 hr13).1 c5), fun c5 => ⟨((((((((hq.2.2 c1) ρ11 hr11).2 c2).2.2 c3).2 ρ12 hr12).2.1 c4) ρ13 hr13).2 c5).1, ⟨fun c6 => hm _ _ (((((((((hq.2.2 c1) ρ11 hr11).2 c2).2.2 c3).2 ρ12 hr12).2.1 c4) ρ13 hr13).2 c5).2.1 c6), fun c6 => ⟨(((((((((hq.2.2 c1) ρ11 hr11).2 c2).2.2 c3).2 ρ12 hr12).2.1 c4) ρ13 hr13).2 c5).2.2 c6).1, fun ρ14 hr14 => ⟨((((((((((hq.2.2 c1) ρ11 hr11).2 c2).2.2 c3).2 ρ12 hr12).2.1 c4) ρ13 hr13).2 c5).2.2 c6).2 ρ14 hr14).1, ⟨fun c7 => fun ρ15 hr15 => hm _ _ ((((((((((((hq.2.2 c1) ρ11 hr11).2 c2).2.2 c3).2 ρ12 hr12).2.1 c4) ρ13 hr13).2 c5).2.2 c6).2 ρ14 hr14).2.1 c7) ρ15 hr15), fun c7 => fun ρ16 hr16 => hm _ _ ((((((((((((hq.2.2 c1) ρ11 hr11).2 c2).2.2 c3).2 ρ12 hr12).2.1 c4) ρ13 hr13).2 c5).2.2 c6).2 ρ14 hr14).2.2 c7) ρ16 hr16)⟩⟩⟩⟩⟩⟩, fun c4 => fun ρ17 hr17 => ⟨fun c5 => hm _ _ ((((((((hq.2.2 c1) ρ11 hr11).2 c2).2.2 c3).2 ρ12 hr12).2.2 c4) ρ17 hr17).1 c5), fun c5 => ⟨((((((((hq.2.2 c1) ρ11 hr11).2 c2).2.2 c3).2 ρ12 hr12).2.2 c4) ρ17 hr17).2 c5).1, ⟨fun c6 => hm _ _ (((((((((hq.2.2 c1) ρ11 hr11).2 c2).2.2 c3).2 ρ12 hr12).2.2 c4) ρ17 hr17).2 c5).2.1 c6), fun c6 => ⟨(((((((((hq.2.2 c1) ρ11 hr11).2 c2).2.2 c3).2 ρ12 hr12).2.2 c4) ρ17 hr17).2 c5).2.2 c6).1, fun ρ18 hr18 => ⟨((((((((((hq.2.2 c1) ρ11 hr11).2 c2).2.2 c3).2 ρ12 hr12).2.2 c4) ρ17 hr17).2 c5).2.2 c6).2 ρ18 hr18).1, ⟨fun c7 => fun ρ19 hr19 => hm _ _ ((((((((((((hq.2.2 c1) ρ11 hr11).2 c2).2.2 c3).2 ρ12 hr12).2.2 c4) ρ17 hr17).2 c5).2.2 c6).2 ρ18 hr18).2.1 c7) ρ19 hr19), fun c7 => fun ρ20 hr20 => hm _ _ ((((((((((((hq.2.2 c1) ρ11 hr11).2 c2).2.2 c3).2 ρ12 hr12).2.2 c4) ρ17 hr17).2 c5).2.2 c6).2 ρ18 hr18).2.2 c7) ρ20 hr20)⟩⟩⟩⟩⟩⟩⟩⟩⟩⟩⟩⟩⟩⟩⟩
def cs_X12_reads : Nat → mo_C := fun j => match j with
  | 0 => (2, true, 217, 12, S_X12_number)
  | 1 => (1, true, 198, 12, S_X12_good)
  | 2 => (2, true, 220, 12, SN_X12_isSign)
  | 3 => (1, true, 205, 12, SN_X12_next)
  | 4 => (3, false, 133, 50, S_X12_versionOf)
  | _ => (0, false, 0, 50, fun _ _ _ => False)
theorem cs_X12_reads_ok (g : mo_E) : ∀ j, mo_cok g t_X12_reads (cs_X12_reads j) ∧ mo_mon (cs_X12_reads j) := by
  intro j
  unfold cs_X12_reads
  split
  · exact ⟨mo_cokV ct_X12_number (by decide) ⟨_, _, rfl⟩ (by decide +kernel), m_X12_number⟩
  · exact ⟨mo_cokV ct_X12_good (by decide) ⟨_, _, rfl⟩ (by decide +kernel), m_X12_good⟩
  · exact ⟨mo_cokV ctN_X12_isSign (by decide) ⟨_, _, rfl⟩ (by decide +kernel), mN_X12_isSign⟩
  · exact ⟨mo_cokV ctN_X12_next (by decide) ⟨_, _, rfl⟩ (by decide +kernel), mN_X12_next⟩
  · exact ⟨mo_cokS ct_X12_versionOf (by decide +kernel), m_X12_versionOf⟩
  · exact ⟨mo_cok0 g _, mo_mon0⟩
set_option maxRecDepth 20000 in
set_option maxHeartbeats 2000000 in
theorem ctT_X12_reads : mo_ct yX12_reads t_X12_reads ST_X12_reads := by
  refine mo_ct_of (by decide) rfl ?_
  rintro g as σ Q ⟨rfl, hQ⟩
  refine ⟨Nat.le_of_ble_eq_true rfl, mo_go ok_X12_reads (cs_X12_reads_ok g) [] 40 ?_⟩
  intro K hK
  refine Exists.intro (999 : Int32) (And.intro rfl ?_)
  refine And.intro (show mo_mS σ ∧ σ.1 50 0 35 = (-1 : Int32) ∧ 0 ≤ (999 : Int32) ∧ (999 : Int32) ≤ 999 from hQ.1) ?_
  refine And.intro (fun (c1 : mo_mnum σ (999 : Int32)) => ?_) (fun (c1 : ¬ mo_mnum σ (999 : Int32)) => ?_)
  · intro ρ1 hr1
    refine And.intro rfl (And.intro trivial ?_)
    refine And.intro (fun (c2 : (mo_bl ((mo_rowI σ 50 0 ρ1).1 50 0 35 = (-1 : Int32))) = 0) => ?_) (fun (c2 : ¬ (mo_bl ((mo_rowI σ 50 0 ρ1).1 50 0 35 = (-1 : Int32))) = 0) => ?_)
    · replace c2 : ¬ ((mo_rowI σ 50 0 ρ1).1 50 0 35 = (-1 : Int32)) := mo_bl0.mp c2
      refine Exists.intro (nI (mo_mnv σ)) (Exists.intro (0 : Int32) (Exists.intro (0 : Int32) (And.intro rfl (And.intro trivial ?_))))
      exact (((hQ.2.1 c1) ρ1 hr1).1 c2)
    · replace c2 : (mo_rowI σ 50 0 ρ1).1 50 0 35 = (-1 : Int32) := mo_blT c2
      refine Exists.intro (46 : Int32) (And.intro rfl (And.intro (show mo_mS (mo_rowI σ 50 0 ρ1) ∧ (¬ (48 ≤ (46 : Int32) ∧ (46 : Int32) ≤ 57) ∧ ¬ (97 ≤ (46 : Int32) ∧ (46 : Int32) ≤ 122)) from (((hQ.2.1 c1) ρ1 hr1).2 c2).1) ?_))
      refine And.intro (fun (c3 : (mo_bl (mo_msg (mo_rowI σ 50 0 ρ1) (46 : Int32))) = 0) => ?_) (fun (c3 : ¬ (mo_bl (mo_msg (mo_rowI σ 50 0 ρ1) (46 : Int32))) = 0) => ?_)
      · replace c3 : ¬ (mo_msg (mo_rowI σ 50 0 ρ1) (46 : Int32)) := mo_bl0.mp c3
        refine Exists.intro (nI (mo_mnv σ)) (Exists.intro (0 : Int32) (Exists.intro (0 : Int32) (And.intro rfl (And.intro trivial ?_))))
        exact ((((hQ.2.1 c1) ρ1 hr1).2 c2).2.1 c3)
      · replace c3 : mo_msg (mo_rowI σ 50 0 ρ1) (46 : Int32) := mo_blT c3
        refine And.intro rfl ?_
        refine And.intro (show mo_le ((mo_rowI σ 50 0 ρ1).1 50 0 31) 200 ∧ mo_le ((mo_rowI σ 50 0 ρ1).1 50 0 33) ((mo_rowI σ 50 0 ρ1).1 50 0 31).toNatClampNeg from ((((hQ.2.1 c1) ρ1 hr1).2 c2).2.2 c3).1) ?_
        intro ρ2 hr2
        refine Exists.intro (999 : Int32) (And.intro rfl ?_)
        refine And.intro (show mo_mS (mo_rowI (mo_rowI σ 50 0 ρ1) 50 0 ρ2) ∧ (mo_rowI (mo_rowI σ 50 0 ρ1) 50 0 ρ2).1 50 0 35 = (-1 : Int32) ∧ 0 ≤ (999 : Int32) ∧ (999 : Int32) ≤ 999 from (((((hQ.2.1 c1) ρ1 hr1).2 c2).2.2 c3).2 ρ2 hr2).1) ?_
        refine And.intro (fun (c4 : mo_mnum (mo_rowI (mo_rowI σ 50 0 ρ1) 50 0 ρ2) (999 : Int32)) => ?_) (fun (c4 : ¬ mo_mnum (mo_rowI (mo_rowI σ 50 0 ρ1) 50 0 ρ2) (999 : Int32)) => ?_)
        · intro ρ3 hr3
          refine And.intro rfl (And.intro trivial ?_)
          refine And.intro (fun (c5 : (mo_bl ((mo_rowI (mo_rowI (mo_rowI σ 50 0 ρ1) 50 0 ρ2) 50 0 ρ3).1 50 0 35 = (-1 : Int32))) = 0) => ?_) (fun (c5 : ¬ (mo_bl ((mo_rowI (mo_rowI (mo_rowI σ 50 0 ρ1) 50 0 ρ2) 50 0 ρ3).1 50 0 35 = (-1 : Int32))) = 0) => ?_)
          · replace c5 : ¬ ((mo_rowI (mo_rowI (mo_rowI σ 50 0 ρ1) 50 0 ρ2) 50 0 ρ3).1 50 0 35 = (-1 : Int32)) := mo_bl0.mp c5
            refine Exists.intro (nI (mo_mnv σ)) (Exists.intro (nI (mo_mnv (mo_rowI (mo_rowI σ 50 0 ρ1) 50 0 ρ2))) (Exists.intro (0 : Int32) (And.intro rfl (And.intro trivial ?_))))
            exact ((((((((hQ.2.1 c1) ρ1 hr1).2 c2).2.2 c3).2 ρ2 hr2).2.1 c4) ρ3 hr3).1 c5)
          · replace c5 : (mo_rowI (mo_rowI (mo_rowI σ 50 0 ρ1) 50 0 ρ2) 50 0 ρ3).1 50 0 35 = (-1 : Int32) := mo_blT c5
            refine Exists.intro (46 : Int32) (And.intro rfl (And.intro (show mo_mS (mo_rowI (mo_rowI (mo_rowI σ 50 0 ρ1) 50 0 ρ2) 50 0 ρ3) ∧ (¬ (48 ≤ (46 : Int32) ∧ (46 : Int32) ≤ 57) ∧ ¬ (97 ≤ (46 : Int32) ∧ (46 : Int32) ≤ 122)) from ((((((((hQ.2.1 c1) ρ1 hr1).2 c2).2.2 c3).2 ρ2 hr2).2.1 c4) ρ3 hr3).2 c5).1) ?_))
            refine And.intro (fun (c6 : (mo_bl (mo_msg (mo_rowI (mo_rowI (mo_rowI σ 50 0 ρ1) 50 0 ρ2) 50 0 ρ3) (46 : Int32))) = 0) => ?_) (fun (c6 : ¬ (mo_bl (mo_msg (mo_rowI (mo_rowI (mo_rowI σ 50 0 ρ1) 50 0 ρ2) 50 0 ρ3) (46 : Int32))) = 0) => ?_)
            · replace c6 : ¬ (mo_msg (mo_rowI (mo_rowI (mo_rowI σ 50 0 ρ1) 50 0 ρ2) 50 0 ρ3) (46 : Int32)) := mo_bl0.mp c6
              refine Exists.intro (nI (mo_mnv σ)) (Exists.intro (nI (mo_mnv (mo_rowI (mo_rowI σ 50 0 ρ1) 50 0 ρ2))) (Exists.intro (0 : Int32) (And.intro rfl (And.intro trivial ?_))))
              exact (((((((((hQ.2.1 c1) ρ1 hr1).2 c2).2.2 c3).2 ρ2 hr2).2.1 c4) ρ3 hr3).2 c5).2.1 c6)
            · replace c6 : mo_msg (mo_rowI (mo_rowI (mo_rowI σ 50 0 ρ1) 50 0 ρ2) 50 0 ρ3) (46 : Int32) := mo_blT c6
              refine And.intro rfl ?_
              refine And.intro (show mo_le ((mo_rowI (mo_rowI (mo_rowI σ 50 0 ρ1) 50 0 ρ2) 50 0 ρ3).1 50 0 31) 200 ∧ mo_le ((mo_rowI (mo_rowI (mo_rowI σ 50 0 ρ1) 50 0 ρ2) 50 0 ρ3).1 50 0 33) ((mo_rowI (mo_rowI (mo_rowI σ 50 0 ρ1) 50 0 ρ2) 50 0 ρ3).1 50 0 31).toNatClampNeg from (((((((((hQ.2.1 c1) ρ1 hr1).2 c2).2.2 c3).2 ρ2 hr2).2.1 c4) ρ3 hr3).2 c5).2.2 c6).1) ?_
              intro ρ4 hr4
              refine Exists.intro (999 : Int32) (And.intro rfl ?_)
              refine And.intro (show mo_mS (mo_rowI (mo_rowI (mo_rowI (mo_rowI σ 50 0 ρ1) 50 0 ρ2) 50 0 ρ3) 50 0 ρ4) ∧ (mo_rowI (mo_rowI (mo_rowI (mo_rowI σ 50 0 ρ1) 50 0 ρ2) 50 0 ρ3) 50 0 ρ4).1 50 0 35 = (-1 : Int32) ∧ 0 ≤ (999 : Int32) ∧ (999 : Int32) ≤ 999 from ((((((((((hQ.2.1 c1) ρ1 hr1).2 c2).2.2 c3).2 ρ2 hr2).2.1 c4) ρ3 hr3).2 c5).2.2 c6).2 ρ4 hr4).1) ?_
              refine And.intro (fun (c7 : mo_mnum (mo_rowI (mo_rowI (mo_rowI (mo_rowI σ 50 0 ρ1) 50 0 ρ2) 50 0 ρ3) 50 0 ρ4) (999 : Int32)) => ?_) (fun (c7 : ¬ mo_mnum (mo_rowI (mo_rowI (mo_rowI (mo_rowI σ 50 0 ρ1) 50 0 ρ2) 50 0 ρ3) 50 0 ρ4) (999 : Int32)) => ?_)
              · intro ρ5 hr5
                refine Exists.intro (nI (mo_mnv σ)) (Exists.intro (nI (mo_mnv (mo_rowI (mo_rowI σ 50 0 ρ1) 50 0 ρ2))) (Exists.intro (nI (mo_mnv (mo_rowI (mo_rowI (mo_rowI (mo_rowI σ 50 0 ρ1) 50 0 ρ2) 50 0 ρ3) 50 0 ρ4))) (And.intro rfl (And.intro trivial ?_))))
                exact ((((((((((((hQ.2.1 c1) ρ1 hr1).2 c2).2.2 c3).2 ρ2 hr2).2.1 c4) ρ3 hr3).2 c5).2.2 c6).2 ρ4 hr4).2.1 c7) ρ5 hr5)
              · intro ρ6 hr6
                refine Exists.intro (nI (mo_mnv σ)) (Exists.intro (nI (mo_mnv (mo_rowI (mo_rowI σ 50 0 ρ1) 50 0 ρ2))) (Exists.intro (0 : Int32) (And.intro rfl (And.intro trivial ?_))))
                exact ((((((((((((hQ.2.1 c1) ρ1 hr1).2 c2).2.2 c3).2 ρ2 hr2).2.1 c4) ρ3 hr3).2 c5).2.2 c6).2 ρ4 hr4).2.2 c7) ρ6 hr6)
        · intro ρ7 hr7
          refine And.intro rfl (And.intro trivial ?_)
          refine And.intro (fun (c5 : (mo_bl ((mo_rowI (mo_rowI (mo_rowI σ 50 0 ρ1) 50 0 ρ2) 50 0 ρ7).1 50 0 35 = (-1 : Int32))) = 0) => ?_) (fun (c5 : ¬ (mo_bl ((mo_rowI (mo_rowI (mo_rowI σ 50 0 ρ1) 50 0 ρ2) 50 0 ρ7).1 50 0 35 = (-1 : Int32))) = 0) => ?_)
          · replace c5 : ¬ ((mo_rowI (mo_rowI (mo_rowI σ 50 0 ρ1) 50 0 ρ2) 50 0 ρ7).1 50 0 35 = (-1 : Int32)) := mo_bl0.mp c5
            refine Exists.intro (nI (mo_mnv σ)) (Exists.intro (0 : Int32) (Exists.intro (0 : Int32) (And.intro rfl (And.intro trivial ?_))))
            exact ((((((((hQ.2.1 c1) ρ1 hr1).2 c2).2.2 c3).2 ρ2 hr2).2.2 c4) ρ7 hr7).1 c5)
          · replace c5 : (mo_rowI (mo_rowI (mo_rowI σ 50 0 ρ1) 50 0 ρ2) 50 0 ρ7).1 50 0 35 = (-1 : Int32) := mo_blT c5
            refine Exists.intro (46 : Int32) (And.intro rfl (And.intro (show mo_mS (mo_rowI (mo_rowI (mo_rowI σ 50 0 ρ1) 50 0 ρ2) 50 0 ρ7) ∧ (¬ (48 ≤ (46 : Int32) ∧ (46 : Int32) ≤ 57) ∧ ¬ (97 ≤ (46 : Int32) ∧ (46 : Int32) ≤ 122)) from ((((((((hQ.2.1 c1) ρ1 hr1).2 c2).2.2 c3).2 ρ2 hr2).2.2 c4) ρ7 hr7).2 c5).1) ?_))
            refine And.intro (fun (c6 : (mo_bl (mo_msg (mo_rowI (mo_rowI (mo_rowI σ 50 0 ρ1) 50 0 ρ2) 50 0 ρ7) (46 : Int32))) = 0) => ?_) (fun (c6 : ¬ (mo_bl (mo_msg (mo_rowI (mo_rowI (mo_rowI σ 50 0 ρ1) 50 0 ρ2) 50 0 ρ7) (46 : Int32))) = 0) => ?_)
            · replace c6 : ¬ (mo_msg (mo_rowI (mo_rowI (mo_rowI σ 50 0 ρ1) 50 0 ρ2) 50 0 ρ7) (46 : Int32)) := mo_bl0.mp c6
              refine Exists.intro (nI (mo_mnv σ)) (Exists.intro (0 : Int32) (Exists.intro (0 : Int32) (And.intro rfl (And.intro trivial ?_))))
              exact (((((((((hQ.2.1 c1) ρ1 hr1).2 c2).2.2 c3).2 ρ2 hr2).2.2 c4) ρ7 hr7).2 c5).2.1 c6)
            · replace c6 : mo_msg (mo_rowI (mo_rowI (mo_rowI σ 50 0 ρ1) 50 0 ρ2) 50 0 ρ7) (46 : Int32) := mo_blT c6
              refine And.intro rfl ?_
              refine And.intro (show mo_le ((mo_rowI (mo_rowI (mo_rowI σ 50 0 ρ1) 50 0 ρ2) 50 0 ρ7).1 50 0 31) 200 ∧ mo_le ((mo_rowI (mo_rowI (mo_rowI σ 50 0 ρ1) 50 0 ρ2) 50 0 ρ7).1 50 0 33) ((mo_rowI (mo_rowI (mo_rowI σ 50 0 ρ1) 50 0 ρ2) 50 0 ρ7).1 50 0 31).toNatClampNeg from (((((((((hQ.2.1 c1) ρ1 hr1).2 c2).2.2 c3).2 ρ2 hr2).2.2 c4) ρ7 hr7).2 c5).2.2 c6).1) ?_
              intro ρ8 hr8
              refine Exists.intro (999 : Int32) (And.intro rfl ?_)
              refine And.intro (show mo_mS (mo_rowI (mo_rowI (mo_rowI (mo_rowI σ 50 0 ρ1) 50 0 ρ2) 50 0 ρ7) 50 0 ρ8) ∧ (mo_rowI (mo_rowI (mo_rowI (mo_rowI σ 50 0 ρ1) 50 0 ρ2) 50 0 ρ7) 50 0 ρ8).1 50 0 35 = (-1 : Int32) ∧ 0 ≤ (999 : Int32) ∧ (999 : Int32) ≤ 999 from ((((((((((hQ.2.1 c1) ρ1 hr1).2 c2).2.2 c3).2 ρ2 hr2).2.2 c4) ρ7 hr7).2 c5).2.2 c6).2 ρ8 hr8).1) ?_
              refine And.intro (fun (c7 : mo_mnum (mo_rowI (mo_rowI (mo_rowI (mo_rowI σ 50 0 ρ1) 50 0 ρ2) 50 0 ρ7) 50 0 ρ8) (999 : Int32)) => ?_) (fun (c7 : ¬ mo_mnum (mo_rowI (mo_rowI (mo_rowI (mo_rowI σ 50 0 ρ1) 50 0 ρ2) 50 0 ρ7) 50 0 ρ8) (999 : Int32)) => ?_)
              · intro ρ9 hr9
                refine Exists.intro (nI (mo_mnv σ)) (Exists.intro (0 : Int32) (Exists.intro (nI (mo_mnv (mo_rowI (mo_rowI (mo_rowI (mo_rowI σ 50 0 ρ1) 50 0 ρ2) 50 0 ρ7) 50 0 ρ8))) (And.intro rfl (And.intro trivial ?_))))
                exact ((((((((((((hQ.2.1 c1) ρ1 hr1).2 c2).2.2 c3).2 ρ2 hr2).2.2 c4) ρ7 hr7).2 c5).2.2 c6).2 ρ8 hr8).2.1 c7) ρ9 hr9)
              · intro ρ10 hr10
                refine Exists.intro (nI (mo_mnv σ)) (Exists.intro (0 : Int32) (Exists.intro (0 : Int32) (And.intro rfl (And.intro trivial ?_))))
                exact ((((((((((((hQ.2.1 c1) ρ1 hr1).2 c2).2.2 c3).2 ρ2 hr2).2.2 c4) ρ7 hr7).2 c5).2.2 c6).2 ρ8 hr8).2.2 c7) ρ10 hr10)
  · intro ρ11 hr11
    refine And.intro rfl (And.intro trivial ?_)
    refine And.intro (fun (c2 : (mo_bl ((mo_rowI σ 50 0 ρ11).1 50 0 35 = (-1 : Int32))) = 0) => ?_) (fun (c2 : ¬ (mo_bl ((mo_rowI σ 50 0 ρ11).1 50 0 35 = (-1 : Int32))) = 0) => ?_)
    · replace c2 : ¬ ((mo_rowI σ 50 0 ρ11).1 50 0 35 = (-1 : Int32)) := mo_bl0.mp c2
      refine Exists.intro (0 : Int32) (Exists.intro (0 : Int32) (Exists.intro (0 : Int32) (And.intro rfl (And.intro trivial ?_))))
      exact (((hQ.2.2 c1) ρ11 hr11).1 c2)
    · replace c2 : (mo_rowI σ 50 0 ρ11).1 50 0 35 = (-1 : Int32) := mo_blT c2
      refine Exists.intro (46 : Int32) (And.intro rfl (And.intro (show mo_mS (mo_rowI σ 50 0 ρ11) ∧ (¬ (48 ≤ (46 : Int32) ∧ (46 : Int32) ≤ 57) ∧ ¬ (97 ≤ (46 : Int32) ∧ (46 : Int32) ≤ 122)) from (((hQ.2.2 c1) ρ11 hr11).2 c2).1) ?_))
      refine And.intro (fun (c3 : (mo_bl (mo_msg (mo_rowI σ 50 0 ρ11) (46 : Int32))) = 0) => ?_) (fun (c3 : ¬ (mo_bl (mo_msg (mo_rowI σ 50 0 ρ11) (46 : Int32))) = 0) => ?_)
      · replace c3 : ¬ (mo_msg (mo_rowI σ 50 0 ρ11) (46 : Int32)) := mo_bl0.mp c3
        refine Exists.intro (0 : Int32) (Exists.intro (0 : Int32) (Exists.intro (0 : Int32) (And.intro rfl (And.intro trivial ?_))))
        exact ((((hQ.2.2 c1) ρ11 hr11).2 c2).2.1 c3)
      · replace c3 : mo_msg (mo_rowI σ 50 0 ρ11) (46 : Int32) := mo_blT c3
        refine And.intro rfl ?_
        refine And.intro (show mo_le ((mo_rowI σ 50 0 ρ11).1 50 0 31) 200 ∧ mo_le ((mo_rowI σ 50 0 ρ11).1 50 0 33) ((mo_rowI σ 50 0 ρ11).1 50 0 31).toNatClampNeg from ((((hQ.2.2 c1) ρ11 hr11).2 c2).2.2 c3).1) ?_
        intro ρ12 hr12
        refine Exists.intro (999 : Int32) (And.intro rfl ?_)
        refine And.intro (show mo_mS (mo_rowI (mo_rowI σ 50 0 ρ11) 50 0 ρ12) ∧ (mo_rowI (mo_rowI σ 50 0 ρ11) 50 0 ρ12).1 50 0 35 = (-1 : Int32) ∧ 0 ≤ (999 : Int32) ∧ (999 : Int32) ≤ 999 from (((((hQ.2.2 c1) ρ11 hr11).2 c2).2.2 c3).2 ρ12 hr12).1) ?_
        refine And.intro (fun (c4 : mo_mnum (mo_rowI (mo_rowI σ 50 0 ρ11) 50 0 ρ12) (999 : Int32)) => ?_) (fun (c4 : ¬ mo_mnum (mo_rowI (mo_rowI σ 50 0 ρ11) 50 0 ρ12) (999 : Int32)) => ?_)
        · intro ρ13 hr13
          refine And.intro rfl (And.intro trivial ?_)
          refine And.intro (fun (c5 : (mo_bl ((mo_rowI (mo_rowI (mo_rowI σ 50 0 ρ11) 50 0 ρ12) 50 0 ρ13).1 50 0 35 = (-1 : Int32))) = 0) => ?_) (fun (c5 : ¬ (mo_bl ((mo_rowI (mo_rowI (mo_rowI σ 50 0 ρ11) 50 0 ρ12) 50 0 ρ13).1 50 0 35 = (-1 : Int32))) = 0) => ?_)
          · replace c5 : ¬ ((mo_rowI (mo_rowI (mo_rowI σ 50 0 ρ11) 50 0 ρ12) 50 0 ρ13).1 50 0 35 = (-1 : Int32)) := mo_bl0.mp c5
            refine Exists.intro (0 : Int32) (Exists.intro (nI (mo_mnv (mo_rowI (mo_rowI σ 50 0 ρ11) 50 0 ρ12))) (Exists.intro (0 : Int32) (And.intro rfl (And.intro trivial ?_))))
            exact ((((((((hQ.2.2 c1) ρ11 hr11).2 c2).2.2 c3).2 ρ12 hr12).2.1 c4) ρ13 hr13).1 c5)
          · replace c5 : (mo_rowI (mo_rowI (mo_rowI σ 50 0 ρ11) 50 0 ρ12) 50 0 ρ13).1 50 0 35 = (-1 : Int32) := mo_blT c5
            refine Exists.intro (46 : Int32) (And.intro rfl (And.intro (show mo_mS (mo_rowI (mo_rowI (mo_rowI σ 50 0 ρ11) 50 0 ρ12) 50 0 ρ13) ∧ (¬ (48 ≤ (46 : Int32) ∧ (46 : Int32) ≤ 57) ∧ ¬ (97 ≤ (46 : Int32) ∧ (46 : Int32) ≤ 122)) from ((((((((hQ.2.2 c1) ρ11 hr11).2 c2).2.2 c3).2 ρ12 hr12).2.1 c4) ρ13 hr13).2 c5).1) ?_))
            refine And.intro (fun (c6 : (mo_bl (mo_msg (mo_rowI (mo_rowI (mo_rowI σ 50 0 ρ11) 50 0 ρ12) 50 0 ρ13) (46 : Int32))) = 0) => ?_) (fun (c6 : ¬ (mo_bl (mo_msg (mo_rowI (mo_rowI (mo_rowI σ 50 0 ρ11) 50 0 ρ12) 50 0 ρ13) (46 : Int32))) = 0) => ?_)
            · replace c6 : ¬ (mo_msg (mo_rowI (mo_rowI (mo_rowI σ 50 0 ρ11) 50 0 ρ12) 50 0 ρ13) (46 : Int32)) := mo_bl0.mp c6
              refine Exists.intro (0 : Int32) (Exists.intro (nI (mo_mnv (mo_rowI (mo_rowI σ 50 0 ρ11) 50 0 ρ12))) (Exists.intro (0 : Int32) (And.intro rfl (And.intro trivial ?_))))
              exact (((((((((hQ.2.2 c1) ρ11 hr11).2 c2).2.2 c3).2 ρ12 hr12).2.1 c4) ρ13 hr13).2 c5).2.1 c6)
            · replace c6 : mo_msg (mo_rowI (mo_rowI (mo_rowI σ 50 0 ρ11) 50 0 ρ12) 50 0 ρ13) (46 : Int32) := mo_blT c6
              refine And.intro rfl ?_
              refine And.intro (show mo_le ((mo_rowI (mo_rowI (mo_rowI σ 50 0 ρ11) 50 0 ρ12) 50 0 ρ13).1 50 0 31) 200 ∧ mo_le ((mo_rowI (mo_rowI (mo_rowI σ 50 0 ρ11) 50 0 ρ12) 50 0 ρ13).1 50 0 33) ((mo_rowI (mo_rowI (mo_rowI σ 50 0 ρ11) 50 0 ρ12) 50 0 ρ13).1 50 0 31).toNatClampNeg from (((((((((hQ.2.2 c1) ρ11 hr11).2 c2).2.2 c3).2 ρ12 hr12).2.1 c4) ρ13 hr13).2 c5).2.2 c6).1) ?_
              intro ρ14 hr14
              refine Exists.intro (999 : Int32) (And.intro rfl ?_)
              refine And.intro (show mo_mS (mo_rowI (mo_rowI (mo_rowI (mo_rowI σ 50 0 ρ11) 50 0 ρ12) 50 0 ρ13) 50 0 ρ14) ∧ (mo_rowI (mo_rowI (mo_rowI (mo_rowI σ 50 0 ρ11) 50 0 ρ12) 50 0 ρ13) 50 0 ρ14).1 50 0 35 = (-1 : Int32) ∧ 0 ≤ (999 : Int32) ∧ (999 : Int32) ≤ 999 from ((((((((((hQ.2.2 c1) ρ11 hr11).2 c2).2.2 c3).2 ρ12 hr12).2.1 c4) ρ13 hr13).2 c5).2.2 c6).2 ρ14 hr14).1) ?_
              refine And.intro (fun (c7 : mo_mnum (mo_rowI (mo_rowI (mo_rowI (mo_rowI σ 50 0 ρ11) 50 0 ρ12) 50 0 ρ13) 50 0 ρ14) (999 : Int32)) => ?_) (fun (c7 : ¬ mo_mnum (mo_rowI (mo_rowI (mo_rowI (mo_rowI σ 50 0 ρ11) 50 0 ρ12) 50 0 ρ13) 50 0 ρ14) (999 : Int32)) => ?_)
              · intro ρ15 hr15
                refine Exists.intro (0 : Int32) (Exists.intro (nI (mo_mnv (mo_rowI (mo_rowI σ 50 0 ρ11) 50 0 ρ12))) (Exists.intro (nI (mo_mnv (mo_rowI (mo_rowI (mo_rowI (mo_rowI σ 50 0 ρ11) 50 0 ρ12) 50 0 ρ13) 50 0 ρ14))) (And.intro rfl (And.intro trivial ?_))))
                exact ((((((((((((hQ.2.2 c1) ρ11 hr11).2 c2).2.2 c3).2 ρ12 hr12).2.1 c4) ρ13 hr13).2 c5).2.2 c6).2 ρ14 hr14).2.1 c7) ρ15 hr15)
              · intro ρ16 hr16
                refine Exists.intro (0 : Int32) (Exists.intro (nI (mo_mnv (mo_rowI (mo_rowI σ 50 0 ρ11) 50 0 ρ12))) (Exists.intro (0 : Int32) (And.intro rfl (And.intro trivial ?_))))
                exact ((((((((((((hQ.2.2 c1) ρ11 hr11).2 c2).2.2 c3).2 ρ12 hr12).2.1 c4) ρ13 hr13).2 c5).2.2 c6).2 ρ14 hr14).2.2 c7) ρ16 hr16)
        · intro ρ17 hr17
          refine And.intro rfl (And.intro trivial ?_)
          refine And.intro (fun (c5 : (mo_bl ((mo_rowI (mo_rowI (mo_rowI σ 50 0 ρ11) 50 0 ρ12) 50 0 ρ17).1 50 0 35 = (-1 : Int32))) = 0) => ?_) (fun (c5 : ¬ (mo_bl ((mo_rowI (mo_rowI (mo_rowI σ 50 0 ρ11) 50 0 ρ12) 50 0 ρ17).1 50 0 35 = (-1 : Int32))) = 0) => ?_)
          · replace c5 : ¬ ((mo_rowI (mo_rowI (mo_rowI σ 50 0 ρ11) 50 0 ρ12) 50 0 ρ17).1 50 0 35 = (-1 : Int32)) := mo_bl0.mp c5
            refine Exists.intro (0 : Int32) (Exists.intro (0 : Int32) (Exists.intro (0 : Int32) (And.intro rfl (And.intro trivial ?_))))
            exact ((((((((hQ.2.2 c1) ρ11 hr11).2 c2).2.2 c3).2 ρ12 hr12).2.2 c4) ρ17 hr17).1 c5)
          · replace c5 : (mo_rowI (mo_rowI (mo_rowI σ 50 0 ρ11) 50 0 ρ12) 50 0 ρ17).1 50 0 35 = (-1 : Int32) := mo_blT c5
            refine Exists.intro (46 : Int32) (And.intro rfl (And.intro (show mo_mS (mo_rowI (mo_rowI (mo_rowI σ 50 0 ρ11) 50 0 ρ12) 50 0 ρ17) ∧ (¬ (48 ≤ (46 : Int32) ∧ (46 : Int32) ≤ 57) ∧ ¬ (97 ≤ (46 : Int32) ∧ (46 : Int32) ≤ 122)) from ((((((((hQ.2.2 c1) ρ11 hr11).2 c2).2.2 c3).2 ρ12 hr12).2.2 c4) ρ17 hr17).2 c5).1) ?_))
            refine And.intro (fun (c6 : (mo_bl (mo_msg (mo_rowI (mo_rowI (mo_rowI σ 50 0 ρ11) 50 0 ρ12) 50 0 ρ17) (46 : Int32))) = 0) => ?_) (fun (c6 : ¬ (mo_bl (mo_msg (mo_rowI (mo_rowI (mo_rowI σ 50 0 ρ11) 50 0 ρ12) 50 0 ρ17) (46 : Int32))) = 0) => ?_)
            · replace c6 : ¬ (mo_msg (mo_rowI (mo_rowI (mo_rowI σ 50 0 ρ11) 50 0 ρ12) 50 0 ρ17) (46 : Int32)) := mo_bl0.mp c6
              refine Exists.intro (0 : Int32) (Exists.intro (0 : Int32) (Exists.intro (0 : Int32) (And.intro rfl (And.intro trivial ?_))))
              exact (((((((((hQ.2.2 c1) ρ11 hr11).2 c2).2.2 c3).2 ρ12 hr12).2.2 c4) ρ17 hr17).2 c5).2.1 c6)
            · replace c6 : mo_msg (mo_rowI (mo_rowI (mo_rowI σ 50 0 ρ11) 50 0 ρ12) 50 0 ρ17) (46 : Int32) := mo_blT c6
              refine And.intro rfl ?_
              refine And.intro (show mo_le ((mo_rowI (mo_rowI (mo_rowI σ 50 0 ρ11) 50 0 ρ12) 50 0 ρ17).1 50 0 31) 200 ∧ mo_le ((mo_rowI (mo_rowI (mo_rowI σ 50 0 ρ11) 50 0 ρ12) 50 0 ρ17).1 50 0 33) ((mo_rowI (mo_rowI (mo_rowI σ 50 0 ρ11) 50 0 ρ12) 50 0 ρ17).1 50 0 31).toNatClampNeg from (((((((((hQ.2.2 c1) ρ11 hr11).2 c2).2.2 c3).2 ρ12 hr12).2.2 c4) ρ17 hr17).2 c5).2.2 c6).1) ?_
              intro ρ18 hr18
              refine Exists.intro (999 : Int32) (And.intro rfl ?_)
              refine And.intro (show mo_mS (mo_rowI (mo_rowI (mo_rowI (mo_rowI σ 50 0 ρ11) 50 0 ρ12) 50 0 ρ17) 50 0 ρ18) ∧ (mo_rowI (mo_rowI (mo_rowI (mo_rowI σ 50 0 ρ11) 50 0 ρ12) 50 0 ρ17) 50 0 ρ18).1 50 0 35 = (-1 : Int32) ∧ 0 ≤ (999 : Int32) ∧ (999 : Int32) ≤ 999 from ((((((((((hQ.2.2 c1) ρ11 hr11).2 c2).2.2 c3).2 ρ12 hr12).2.2 c4) ρ17 hr17).2 c5).2.2 c6).2 ρ18 hr18).1) ?_
              refine And.intro (fun (c7 : mo_mnum (mo_rowI (mo_rowI (mo_rowI (mo_rowI σ 50 0 ρ11) 50 0 ρ12) 50 0 ρ17) 50 0 ρ18) (999 : Int32)) => ?_) (fun (c7 : ¬ mo_mnum (mo_rowI (mo_rowI (mo_rowI (mo_rowI σ 50 0 ρ11) 50 0 ρ12) 50 0 ρ17) 50 0 ρ18) (999 : Int32)) => ?_)
              · intro ρ19 hr19
                refine Exists.intro (0 : Int32) (Exists.intro (0 : Int32) (Exists.intro (nI (mo_mnv (mo_rowI (mo_rowI (mo_rowI (mo_rowI σ 50 0 ρ11) 50 0 ρ12) 50 0 ρ17) 50 0 ρ18))) (And.intro rfl (And.intro trivial ?_))))
                exact ((((((((((((hQ.2.2 c1) ρ11 hr11).2 c2).2.2 c3).2 ρ12 hr12).2.2 c4) ρ17 hr17).2 c5).2.2 c6).2 ρ18 hr18).2.1 c7) ρ19 hr19)
              · intro ρ20 hr20
                refine Exists.intro (0 : Int32) (Exists.intro (0 : Int32) (Exists.intro (0 : Int32) (And.intro rfl (And.intro trivial ?_))))
                exact ((((((((((((hQ.2.2 c1) ρ11 hr11).2 c2).2.2 c3).2 ρ12 hr12).2.2 c4) ρ17 hr17).2 c5).2.2 c6).2 ρ18 hr18).2.2 c7) ρ20 hr20)
theorem mo_rr50 (σ : mo_M) (ρ ρ' : Nat → Int32) : mo_rowI (mo_rowI σ 50 0 ρ) 50 0 ρ' = mo_rowI σ 50 0 ρ' := mo_rowI_r _ _ _ _ _
theorem mo_mst {σ : mo_M} {ρ : Nat → Int32} {s : Nat} (hl : mo_le (σ.1 50 0 31) 200) (h : mo_mto σ ρ s) : mo_mS (mo_rowI σ 50 0 ρ) ∧ (mo_rowI σ 50 0 ρ).1 50 0 35 = σ.1 50 0 35 ∧ (∀ c, mo_msg (mo_rowI σ 50 0 ρ) c = tk_sg (σ.1 72 0) (mo_mz σ) c s) ∧ (∀ a, mo_mnum (mo_rowI σ 50 0 ρ) a = tk_num (σ.1 72 0) (mo_mz σ) a.toInt s) ∧ mo_mN (mo_rowI σ 50 0 ρ) = tk_N (σ.1 72 0) (mo_mz σ) s ∧ mo_mnv (mo_rowI σ 50 0 ρ) = tk_nv (σ.1 72 0) (mo_mz σ) s ∧ mo_mp (mo_rowI σ 50 0 ρ) = s ∧ mo_mz (mo_rowI σ 50 0 ρ) = mo_mz σ ∧ ((mo_rowI σ 50 0 ρ).1 50 0 33).toNatClampNeg = mo_tE (σ.1 72 0) (mo_mz σ) s ∧ (∀ ρ' s', mo_mto (mo_rowI σ 50 0 ρ) ρ' s' → mo_mto σ ρ' s') ∧ (∀ ρ' s', mo_mfl (mo_rowI σ 50 0 ρ) ρ' s' → mo_mfl σ ρ' s') ∧ (∀ x, mo_mwd (mo_rowI σ 50 0 ρ) x = tk_wd (σ.1 72 0) (mo_mz σ) (tk_wof x) s) := by
  obtain ⟨h1, h2, h3, h4⟩ := h
  have hn := hl.2
  have hmn : mo_mz σ ≤ 200 := hn
  have hE := mo_tE_le (σ.1 72 0) h1
  have e31 : ρ 31 = σ.1 50 0 31 := h4 31 (by decide) (by decide)
  have a1 : mo_mz (mo_rowI σ 50 0 ρ) = mo_mz σ := by show (ρ 31).toNatClampNeg = _; rw [e31]; rfl
  have a2 : mo_mp (mo_rowI σ 50 0 ρ) = s := by show (ρ 32).toNatClampNeg = _; rw [h2]; exact mo_cl (by omega)
  have a3 : (mo_rowI σ 50 0 ρ).1 72 0 = σ.1 72 0 := rfl
  have a4 : (ρ 33).toNatClampNeg = mo_tE (σ.1 72 0) (mo_mz σ) s := by rw [h3]; exact mo_cl (by omega)
  refine ⟨⟨?_, ?_, ?_, ?_⟩, h4 35 (by decide) (by decide), fun c => ?_, fun a => ?_, ?_, ?_, a2, a1, a4, fun ρ' s' q => ?_, fun ρ' s' q => ?_, fun x => ?_⟩
  · show mo_le (ρ 31) 200; rw [e31]; exact hl
  · rw [a1, a2]; exact h1
  · rw [a2]; exact h2
  · rw [a1, a2, a3]; exact h3
  · unfold mo_msg; rw [a1, a2, a3]
  · unfold mo_mnum; rw [a1, a2, a3]
  · unfold mo_mN; rw [a1, a2, a3]
  · unfold mo_mnv; rw [a1, a2, a3]
  · obtain ⟨q1, q2, q3, q4⟩ := q
    rw [a1] at q1; rw [a1, a3] at q3
    exact ⟨q1, q2, q3, fun k x y => (q4 k x y).trans (h4 k x y)⟩
  · obtain ⟨q1, q2, q3⟩ := q
    rw [a1] at q1
    exact ⟨q1, q2, fun k x y z => (q3 k x y z).trans (h4 k x y)⟩
  · unfold mo_mwd; rw [a1, a2, a3]
theorem mo_vof (a b c : Nat) : (nI a * (1000 : Int32) + nI b) * (1000 : Int32) + nI c = nI (a * 1000000 + b * 1000 + c) := by
  rw [show (1000 : Int32) = nI 1000 from rfl, pk_mul, nI_add, pk_mul, nI_add]
  exact congrArg nI (by omega)
theorem mo_vof0 (a : Nat) : (nI a * (1000 : Int32) + nI 0) * (1000 : Int32) + nI 0 = nI (a * 1000000) := (mo_vof a 0 0).trans (congrArg nI (by omega))
theorem mo_vof1 (a b : Nat) : (nI a * (1000 : Int32) + nI b) * (1000 : Int32) + nI 0 = nI (a * 1000000 + b * 1000) := (mo_vof a b 0).trans (congrArg nI (by omega))
noncomputable def mo_mver (σ : mo_M) : Prop × Nat × Nat := tk_ver (σ.1 72 0) (mo_mz σ) (mo_mp σ)
def S_X12_reads : mo_S := fun as σ Q => as = [.inr (.inr (50, 0))] ∧ ((mo_mS σ ∧ σ.1 50 0 35 = (-1 : Int32)) ∧ (((mo_mver σ).1 → (∀ ρ : Nat → Int32, (mo_mto σ ρ (mo_mver σ).2.1) → Q (some (.inl (nI (mo_mver σ).2.2))) (mo_rowI σ 50 0 ρ))) ∧ (¬ (mo_mver σ).1 → (∀ ρ : Nat → Int32, ∀ v : Int32, (mo_mfl σ ρ (mo_mver σ).2.1) → Q (some (.inl v)) (mo_rowI σ 50 0 ρ)))))
theorem m_X12_reads : ∀ (as : List mo_V) (σ : mo_M) (P P' : mo_Q), (∀ x τ, P x τ → P' x τ) → S_X12_reads as σ P → S_X12_reads as σ P' := by
  rintro as σ P P' hm ⟨e, hq⟩
  exact ⟨e, ⟨hq.1, ⟨fun cc => fun ρ hz => hm _ _ ((hq.2.1 cc) ρ hz), fun cc => fun ρ v hz => hm _ _ ((hq.2.2 cc) ρ v hz)⟩⟩⟩

theorem mo_flm {σ : mo_M} {ρ : Nat → Int32} {s : Nat} (hl : mo_le (σ.1 50 0 31) 200) (h : mo_mfl σ ρ s) : ¬ (mo_rowI σ 50 0 ρ).1 50 0 35 = (-1 : Int32) := by
  show ¬ ρ 35 = -1
  rw [h.2.1]
  exact mo_nIm (by have := h.1; have := hl.2; unfold mo_mz at *; omega)
set_option maxHeartbeats 4000000 in
theorem ct_X12_reads : mo_ct yX12_reads t_X12_reads S_X12_reads := mo_ct_imp ctT_X12_reads (by
  rintro as σ Q ⟨rfl, ⟨hS, hg⟩, hok, hbad⟩
  refine ⟨rfl, ?_⟩
  have hl := hS.1
  have h999 : (999 : Int32).toInt = 999 := rfl
  have d0 : (0 : Int32) ≤ 999 := by decide
  have d9 : (999 : Int32) ≤ 999 := by decide
  have d46 : ¬ (48 ≤ (46 : Int32) ∧ (46 : Int32) ≤ 57) ∧ ¬ (97 ≤ (46 : Int32) ∧ (46 : Int32) ≤ 122) := by decide
  have vo := mo_vof
  rw [show (0 : Int32) = nI 0 from rfl] at *
  simp only [mo_rr50]
  unfold mo_mver tk_ver at hok hbad
  have hnum0 : mo_mnum σ (999 : Int32) = tk_num (σ.1 72 0) (mo_mz σ) 999 (mo_mp σ) := rfl
  have hN0 : mo_mN σ = tk_N (σ.1 72 0) (mo_mz σ) (mo_mp σ) := rfl
  have hv0 : mo_mnv σ = tk_nv (σ.1 72 0) (mo_mz σ) (mo_mp σ) := rfl
  rw [hnum0, hN0, hv0]
  refine ⟨⟨hS, hg, d0, d9⟩, fun q0 ρ1 h1 => ?_, fun q0 ρ8 h8 => ⟨fun _ => ?_, fun z => absurd z (mo_flm hl h8)⟩⟩
  · rw [mo_ite_t q0] at hok hbad
    obtain ⟨m1, m2, m3, m4, m5, m6, m7, m8, m9, m10, m11, -⟩ := mo_mst hl h1
    refine ⟨fun z => absurd (m2.trans hg) z, fun _ => ⟨⟨m1, d46⟩, fun q1 => ?_, fun q1 => ?_⟩⟩
    · rw [m3] at q1
      rw [mo_ite_f q1] at hok
      rw [mo_vof0]
      exact hok trivial ρ1 h1
    · rw [m3] at q1
      rw [mo_ite_t q1] at hok hbad
      refine ⟨mo_mS_pre m1, fun ρ2 h2 => ?_⟩
      rw [m8, m9] at h2
      have h2 : mo_mto σ ρ2 (tk_N (σ.1 72 0) (mo_mz σ) (tk_N (σ.1 72 0) (mo_mz σ) (mo_mp σ))) := m10 _ _ h2
      obtain ⟨n1, n2, n3, n4, n5, n6, n7, n8, n9, n10, n11, -⟩ := mo_mst hl h2
      refine ⟨⟨n1, n2.trans hg, d0, d9⟩, fun q2 ρ3 h3 => ?_, fun q2 ρ7 h7 => ⟨fun _ => ?_, fun z => absurd z (mo_flm hl (n11 _ _ h7))⟩⟩
      · rw [n4, h999] at q2
        rw [mo_ite_t q2] at hok hbad
        rw [n5] at h3
        have h3 := n10 _ _ h3
        obtain ⟨p1, p2, p3, p4, p5, p6, p7, p8, p9, p10, p11, -⟩ := mo_mst hl h3
        rw [n6]
        refine ⟨fun z => absurd (p2.trans hg) z, fun _ => ⟨⟨p1, d46⟩, fun q3 => ?_, fun q3 => ?_⟩⟩
        · rw [p3] at q3
          rw [mo_ite_f q3] at hok
          rw [mo_vof1]
          exact hok trivial ρ3 h3
        · rw [p3] at q3
          rw [mo_ite_t q3] at hok hbad
          refine ⟨mo_mS_pre p1, fun ρ4 h4 => ?_⟩
          rw [p8, p9] at h4
          have h4 : mo_mto σ ρ4 (tk_N (σ.1 72 0) (mo_mz σ) (tk_N (σ.1 72 0) (mo_mz σ) (tk_N (σ.1 72 0) (mo_mz σ) (tk_N (σ.1 72 0) (mo_mz σ) (mo_mp σ))))) := p10 _ _ h4
          obtain ⟨r1, r2, r3, r4, r5, r6, r7, r8, r9, r10, r11, -⟩ := mo_mst hl h4
          refine ⟨⟨r1, r2.trans hg, d0, d9⟩, fun q4 ρ5 h5 => ?_, fun q4 ρ6 h6 => ?_⟩
          · rw [r4, h999] at q4
            rw [mo_ite_t q4] at hok
            rw [r5] at h5
            rw [r6, vo]
            exact hok trivial ρ5 (r10 _ _ h5)
          · rw [r4, h999] at q4
            rw [mo_ite_f q4] at hbad
            rw [r7] at h6
            exact hbad id ρ6 _ (r11 _ _ h6)
      · rw [n4, h999] at q2
        rw [mo_ite_f q2] at hbad
        rw [n7] at h7
        exact hbad id ρ7 _ (n11 _ _ h7)
  · rw [mo_ite_f q0] at hbad
    exact hbad id ρ8 _ h8)
def mo_put (σ : mo_M) (a b : Int32) : mo_M := mo_wI (mo_wI (mo_wI (mo_wI σ 75 0 ((30 : Int32) * σ.1 50 0 36 + σ.1 50 0 43).toNatClampNeg a) 76 0 ((30 : Int32) * σ.1 50 0 36 + σ.1 50 0 43).toNatClampNeg b) 77 0 ((30 : Int32) * σ.1 50 0 36 + σ.1 50 0 43).toNatClampNeg (σ.1 50 0 44)) 50 0 43 (σ.1 50 0 43 + (1 : Int32))
def SN_X12_puts : mo_S := fun as σ Q => ∃ a : Int32, ∃ b : Int32, as = [.inr (.inr (50, 0)), .inl a, .inl b] ∧ ((σ.1 50 0 35 = (-1 : Int32) → ((vp_in ((30 : Int32) * σ.1 50 0 36 + σ.1 50 0 43) 600) ∧ Q (none) (mo_put σ a b))) ∧ (¬ σ.1 50 0 35 = (-1 : Int32) → Q (none) (σ)))
theorem mN_X12_puts : ∀ (as : List mo_V) (σ : mo_M) (P P' : mo_Q), (∀ x τ, P x τ → P' x τ) → SN_X12_puts as σ P → SN_X12_puts as σ P' := by
  rintro as σ P P' hm ⟨a, b, e, hq⟩
  exact ⟨a, b, e, ⟨fun cc => ⟨(hq.1 cc).1, hm _ _ (hq.1 cc).2⟩, fun cc => hm _ _ (hq.2 cc)⟩⟩

theorem ctN_X12_puts : mo_ct yX12_puts t_X12_puts SN_X12_puts := mo_ct_imp ct_X12_puts (by
  rintro as σ Q ⟨a, b, rfl, h1, h2⟩
  exact ⟨a, b, rfl, fun q => ⟨(h1 q).1, (h1 q).1, (h1 q).1, (h1 q).2⟩, fun q => h2 q⟩)
def ST_X12_test : mo_S := fun as σ Q => as = [.inr (.inr (50, 0))] ∧ ((mo_mS σ ∧ tk_wok (26049 : Int64)) ∧ ((mo_mS σ ∧ (¬ (48 ≤ (60 : Int32) ∧ (60 : Int32) ≤ 57) ∧ ¬ (97 ≤ (60 : Int32) ∧ (60 : Int32) ≤ 122))) ∧ ((mo_mS σ ∧ (¬ (48 ≤ (62 : Int32) ∧ (62 : Int32) ≤ 57) ∧ ¬ (97 ≤ (62 : Int32) ∧ (62 : Int32) ≤ 122))) ∧ (((σ.1 50 0 43) = (30 : Int32) → ((¬ (σ.1 50 0 35 = (-1 : Int32)) → Q (none) (σ)) ∧ (σ.1 50 0 35 = (-1 : Int32) → Q (none) (mo_wI σ 50 0 35 (σ.1 50 0 32))))) ∧ (¬ (σ.1 50 0 43) = (30 : Int32) → ((mo_mwd σ (26049 : Int64) → ((mo_le (σ.1 50 0 31) 200 ∧ mo_le (σ.1 50 0 33) (σ.1 50 0 31).toNatClampNeg) ∧ (∀ ρ1 : Nat → Int32, (mo_mto σ ρ1 (mo_tS (σ.1 72 0) (mo_mz σ) (σ.1 50 0 33).toNatClampNeg)) → (((mo_rowI σ 50 0 ρ1).1 50 0 35 = (-1 : Int32) → ((vp_in ((30 : Int32) * (mo_rowI σ 50 0 ρ1).1 50 0 36 + (mo_rowI σ 50 0 ρ1).1 50 0 43) 600) ∧ Q (none) (mo_put (mo_rowI σ 50 0 ρ1) (5 : Int32) (0 : Int32)))) ∧ (¬ (mo_rowI σ 50 0 ρ1).1 50 0 35 = (-1 : Int32) → Q (none) (mo_rowI σ 50 0 ρ1)))))) ∧ (¬ (mo_mwd σ (26049 : Int64)) → ((mo_msg σ (60 : Int32) → ((mo_le (σ.1 50 0 31) 200 ∧ mo_le (σ.1 50 0 33) (σ.1 50 0 31).toNatClampNeg) ∧ (∀ ρ2 : Nat → Int32, (mo_mto σ ρ2 (mo_tS (σ.1 72 0) (mo_mz σ) (σ.1 50 0 33).toNatClampNeg)) → ((mo_mS (mo_rowI σ 50 0 ρ2) ∧ (¬ (48 ≤ (61 : Int32) ∧ (61 : Int32) ≤ 57) ∧ ¬ (97 ≤ (61 : Int32) ∧ (61 : Int32) ≤ 122))) ∧ ((¬ (mo_msg (mo_rowI σ 50 0 ρ2) (61 : Int32)) → ((mo_mS (mo_rowI σ 50 0 ρ2) ∧ (mo_rowI σ 50 0 ρ2).1 50 0 35 = (-1 : Int32)) ∧ (((mo_mver (mo_rowI σ 50 0 ρ2)).1 → (∀ ρ3 : Nat → Int32, (mo_mto (mo_rowI σ 50 0 ρ2) ρ3 (mo_mver (mo_rowI σ 50 0 ρ2)).2.1) → (((mo_rowI (mo_rowI σ 50 0 ρ2) 50 0 ρ3).1 50 0 35 = (-1 : Int32) → ((vp_in ((30 : Int32) * (mo_rowI (mo_rowI σ 50 0 ρ2) 50 0 ρ3).1 50 0 36 + (mo_rowI (mo_rowI σ 50 0 ρ2) 50 0 ρ3).1 50 0 43) 600) ∧ Q (none) (mo_put (mo_rowI (mo_rowI σ 50 0 ρ2) 50 0 ρ3) (0 : Int32) (nI (mo_mver (mo_rowI σ 50 0 ρ2)).2.2)))) ∧ (¬ (mo_rowI (mo_rowI σ 50 0 ρ2) 50 0 ρ3).1 50 0 35 = (-1 : Int32) → Q (none) (mo_rowI (mo_rowI σ 50 0 ρ2) 50 0 ρ3))))) ∧ (¬ (mo_mver (mo_rowI σ 50 0 ρ2)).1 → (∀ ρ4 : Nat → Int32, ∀ v4 : Int32, (mo_mfl (mo_rowI σ 50 0 ρ2) ρ4 (mo_mver (mo_rowI σ 50 0 ρ2)).2.1) → (((mo_rowI (mo_rowI σ 50 0 ρ2) 50 0 ρ4).1 50 0 35 = (-1 : Int32) → ((vp_in ((30 : Int32) * (mo_rowI (mo_rowI σ 50 0 ρ2) 50 0 ρ4).1 50 0 36 + (mo_rowI (mo_rowI σ 50 0 ρ2) 50 0 ρ4).1 50 0 43) 600) ∧ Q (none) (mo_put (mo_rowI (mo_rowI σ 50 0 ρ2) 50 0 ρ4) (0 : Int32) v4))) ∧ (¬ (mo_rowI (mo_rowI σ 50 0 ρ2) 50 0 ρ4).1 50 0 35 = (-1 : Int32) → Q (none) (mo_rowI (mo_rowI σ 50 0 ρ2) 50 0 ρ4)))))))) ∧ (mo_msg (mo_rowI σ 50 0 ρ2) (61 : Int32) → ((mo_le ((mo_rowI σ 50 0 ρ2).1 50 0 31) 200 ∧ mo_le ((mo_rowI σ 50 0 ρ2).1 50 0 33) ((mo_rowI σ 50 0 ρ2).1 50 0 31).toNatClampNeg) ∧ (∀ ρ5 : Nat → Int32, (mo_mto (mo_rowI σ 50 0 ρ2) ρ5 (mo_tS (σ.1 72 0) (mo_mz (mo_rowI σ 50 0 ρ2)) ((mo_rowI σ 50 0 ρ2).1 50 0 33).toNatClampNeg)) → ((mo_mS (mo_rowI (mo_rowI σ 50 0 ρ2) 50 0 ρ5) ∧ (mo_rowI (mo_rowI σ 50 0 ρ2) 50 0 ρ5).1 50 0 35 = (-1 : Int32)) ∧ (((mo_mver (mo_rowI (mo_rowI σ 50 0 ρ2) 50 0 ρ5)).1 → (∀ ρ6 : Nat → Int32, (mo_mto (mo_rowI (mo_rowI σ 50 0 ρ2) 50 0 ρ5) ρ6 (mo_mver (mo_rowI (mo_rowI σ 50 0 ρ2) 50 0 ρ5)).2.1) → (((mo_rowI (mo_rowI (mo_rowI σ 50 0 ρ2) 50 0 ρ5) 50 0 ρ6).1 50 0 35 = (-1 : Int32) → ((vp_in ((30 : Int32) * (mo_rowI (mo_rowI (mo_rowI σ 50 0 ρ2) 50 0 ρ5) 50 0 ρ6).1 50 0 36 + (mo_rowI (mo_rowI (mo_rowI σ 50 0 ρ2) 50 0 ρ5) 50 0 ρ6).1 50 0 43) 600) ∧ Q (none) (mo_put (mo_rowI (mo_rowI (mo_rowI σ 50 0 ρ2) 50 0 ρ5) 50 0 ρ6) ((0 : Int32) + (1 : Int32)) (nI (mo_mver (mo_rowI (mo_rowI σ 50 0 ρ2) 50 0 ρ5)).2.2)))) ∧ (¬ (mo_rowI (mo_rowI (mo_rowI σ 50 0 ρ2) 50 0 ρ5) 50 0 ρ6).1 50 0 35 = (-1 : Int32) → Q (none) (mo_rowI (mo_rowI (mo_rowI σ 50 0 ρ2) 50 0 ρ5) 50 0 ρ6))))) ∧ (¬ (mo_mver (mo_rowI (mo_rowI σ 50 0 ρ2) 50 0 ρ5)).1 → (∀ ρ7 : Nat → Int32, ∀ v7 : Int32, (mo_mfl (mo_rowI (mo_rowI σ 50 0 ρ2) 50 0 ρ5) ρ7 (mo_mver (mo_rowI (mo_rowI σ 50 0 ρ2) 50 0 ρ5)).2.1) → (((mo_rowI (mo_rowI (mo_rowI σ 50 0 ρ2) 50 0 ρ5) 50 0 ρ7).1 50 0 35 = (-1 : Int32) → ((vp_in ((30 : Int32) * (mo_rowI (mo_rowI (mo_rowI σ 50 0 ρ2) 50 0 ρ5) 50 0 ρ7).1 50 0 36 + (mo_rowI (mo_rowI (mo_rowI σ 50 0 ρ2) 50 0 ρ5) 50 0 ρ7).1 50 0 43) 600) ∧ Q (none) (mo_put (mo_rowI (mo_rowI (mo_rowI σ 50 0 ρ2) 50 0 ρ5) 50 0 ρ7) ((0 : Int32) + (1 : Int32)) v7))) ∧ (¬ (mo_rowI (mo_rowI (mo_rowI σ 50 0 ρ2) 50 0 ρ5) 50 0 ρ7).1 50 0 35 = (-1 : Int32) → Q (none) (mo_rowI (mo_rowI (mo_rowI σ 50 0 ρ2) 50 0 ρ5) 50 0 ρ7))))))))))))))) ∧ (¬ (mo_msg σ (60 : Int32)) → ((mo_msg σ (62 : Int32) → ((mo_le (σ.1 50 0 31) 200 ∧ mo_le (σ.1 50 0 33) (σ.1 50 0 31).toNatClampNeg) ∧ (∀ ρ8 : Nat → Int32, (mo_mto σ ρ8 (mo_tS (σ.1 72 0) (mo_mz σ) (σ.1 50 0 33).toNatClampNeg)) → ((mo_mS (mo_rowI σ 50 0 ρ8) ∧ (¬ (48 ≤ (61 : Int32) ∧ (61 : Int32) ≤ 57) ∧ ¬ (97 ≤ (61 : Int32) ∧ (61 : Int32) ≤ 122))) ∧ ((¬ (mo_msg (mo_rowI σ 50 0 ρ8) (61 : Int32)) → ((mo_mS (mo_rowI σ 50 0 ρ8) ∧ (mo_rowI σ 50 0 ρ8).1 50 0 35 = (-1 : Int32)) ∧ (((mo_mver (mo_rowI σ 50 0 ρ8)).1 → (∀ ρ9 : Nat → Int32, (mo_mto (mo_rowI σ 50 0 ρ8) ρ9 (mo_mver (mo_rowI σ 50 0 ρ8)).2.1) → (((mo_rowI (mo_rowI σ 50 0 ρ8) 50 0 ρ9).1 50 0 35 = (-1 : Int32) → ((vp_in ((30 : Int32) * (mo_rowI (mo_rowI σ 50 0 ρ8) 50 0 ρ9).1 50 0 36 + (mo_rowI (mo_rowI σ 50 0 ρ8) 50 0 ρ9).1 50 0 43) 600) ∧ Q (none) (mo_put (mo_rowI (mo_rowI σ 50 0 ρ8) 50 0 ρ9) (2 : Int32) (nI (mo_mver (mo_rowI σ 50 0 ρ8)).2.2)))) ∧ (¬ (mo_rowI (mo_rowI σ 50 0 ρ8) 50 0 ρ9).1 50 0 35 = (-1 : Int32) → Q (none) (mo_rowI (mo_rowI σ 50 0 ρ8) 50 0 ρ9))))) ∧ (¬ (mo_mver (mo_rowI σ 50 0 ρ8)).1 → (∀ ρ10 : Nat → Int32, ∀ v10 : Int32, (mo_mfl (mo_rowI σ 50 0 ρ8) ρ10 (mo_mver (mo_rowI σ 50 0 ρ8)).2.1) → (((mo_rowI (mo_rowI σ 50 0 ρ8) 50 0 ρ10).1 50 0 35 = (-1 : Int32) → ((vp_in ((30 : Int32) * (mo_rowI (mo_rowI σ 50 0 ρ8) 50 0 ρ10).1 50 0 36 + (mo_rowI (mo_rowI σ 50 0 ρ8) 50 0 ρ10).1 50 0 43) 600) ∧ Q (none) (mo_put (mo_rowI (mo_rowI σ 50 0 ρ8) 50 0 ρ10) (2 : Int32) v10))) ∧ (¬ (mo_rowI (mo_rowI σ 50 0 ρ8) 50 0 ρ10).1 50 0 35 = (-1 : Int32) → Q (none) (mo_rowI (mo_rowI σ 50 0 ρ8) 50 0 ρ10)))))))) ∧ (mo_msg (mo_rowI σ 50 0 ρ8) (61 : Int32) → ((mo_le ((mo_rowI σ 50 0 ρ8).1 50 0 31) 200 ∧ mo_le ((mo_rowI σ 50 0 ρ8).1 50 0 33) ((mo_rowI σ 50 0 ρ8).1 50 0 31).toNatClampNeg) ∧ (∀ ρ11 : Nat → Int32, (mo_mto (mo_rowI σ 50 0 ρ8) ρ11 (mo_tS (σ.1 72 0) (mo_mz (mo_rowI σ 50 0 ρ8)) ((mo_rowI σ 50 0 ρ8).1 50 0 33).toNatClampNeg)) → ((mo_mS (mo_rowI (mo_rowI σ 50 0 ρ8) 50 0 ρ11) ∧ (mo_rowI (mo_rowI σ 50 0 ρ8) 50 0 ρ11).1 50 0 35 = (-1 : Int32)) ∧ (((mo_mver (mo_rowI (mo_rowI σ 50 0 ρ8) 50 0 ρ11)).1 → (∀ ρ12 : Nat → Int32, (mo_mto (mo_rowI (mo_rowI σ 50 0 ρ8) 50 0 ρ11) ρ12 (mo_mver (mo_rowI (mo_rowI σ 50 0 ρ8) 50 0 ρ11)).2.1) → (((mo_rowI (mo_rowI (mo_rowI σ 50 0 ρ8) 50 0 ρ11) 50 0 ρ12).1 50 0 35 = (-1 : Int32) → ((vp_in ((30 : Int32) * (mo_rowI (mo_rowI (mo_rowI σ 50 0 ρ8) 50 0 ρ11) 50 0 ρ12).1 50 0 36 + (mo_rowI (mo_rowI (mo_rowI σ 50 0 ρ8) 50 0 ρ11) 50 0 ρ12).1 50 0 43) 600) ∧ Q (none) (mo_put (mo_rowI (mo_rowI (mo_rowI σ 50 0 ρ8) 50 0 ρ11) 50 0 ρ12) ((2 : Int32) + (1 : Int32)) (nI (mo_mver (mo_rowI (mo_rowI σ 50 0 ρ8) 50 0 ρ11)).2.2)))) ∧ (¬ (mo_rowI (mo_rowI (mo_rowI σ 50 0 ρ8) 50 0 ρ11) 50 0 ρ12).1 50 0 35 = (-1 : Int32) → Q (none) (mo_rowI (mo_rowI (mo_rowI σ 50 0 ρ8) 50 0 ρ11) 50 0 ρ12))))) ∧ (¬ (mo_mver (mo_rowI (mo_rowI σ 50 0 ρ8) 50 0 ρ11)).1 → (∀ ρ13 : Nat → Int32, ∀ v13 : Int32, (mo_mfl (mo_rowI (mo_rowI σ 50 0 ρ8) 50 0 ρ11) ρ13 (mo_mver (mo_rowI (mo_rowI σ 50 0 ρ8) 50 0 ρ11)).2.1) → (((mo_rowI (mo_rowI (mo_rowI σ 50 0 ρ8) 50 0 ρ11) 50 0 ρ13).1 50 0 35 = (-1 : Int32) → ((vp_in ((30 : Int32) * (mo_rowI (mo_rowI (mo_rowI σ 50 0 ρ8) 50 0 ρ11) 50 0 ρ13).1 50 0 36 + (mo_rowI (mo_rowI (mo_rowI σ 50 0 ρ8) 50 0 ρ11) 50 0 ρ13).1 50 0 43) 600) ∧ Q (none) (mo_put (mo_rowI (mo_rowI (mo_rowI σ 50 0 ρ8) 50 0 ρ11) 50 0 ρ13) ((2 : Int32) + (1 : Int32)) v13))) ∧ (¬ (mo_rowI (mo_rowI (mo_rowI σ 50 0 ρ8) 50 0 ρ11) 50 0 ρ13).1 50 0 35 = (-1 : Int32) → Q (none) (mo_rowI (mo_rowI (mo_rowI σ 50 0 ρ8) 50 0 ρ11) 50 0 ρ13))))))))))))))) ∧ (¬ (mo_msg σ (62 : Int32)) → ((mo_mS σ ∧ (¬ (48 ≤ (61 : Int32) ∧ (61 : Int32) ≤ 57) ∧ ¬ (97 ≤ (61 : Int32) ∧ (61 : Int32) ≤ 122))) ∧ ((mo_msg σ (61 : Int32) → ((mo_le (σ.1 50 0 31) 200 ∧ mo_le (σ.1 50 0 33) (σ.1 50 0 31).toNatClampNeg) ∧ (∀ ρ14 : Nat → Int32, (mo_mto σ ρ14 (mo_tS (σ.1 72 0) (mo_mz σ) (σ.1 50 0 33).toNatClampNeg)) → ((mo_mS (mo_rowI σ 50 0 ρ14) ∧ (mo_rowI σ 50 0 ρ14).1 50 0 35 = (-1 : Int32)) ∧ (((mo_mver (mo_rowI σ 50 0 ρ14)).1 → (∀ ρ15 : Nat → Int32, (mo_mto (mo_rowI σ 50 0 ρ14) ρ15 (mo_mver (mo_rowI σ 50 0 ρ14)).2.1) → (((mo_rowI (mo_rowI σ 50 0 ρ14) 50 0 ρ15).1 50 0 35 = (-1 : Int32) → ((vp_in ((30 : Int32) * (mo_rowI (mo_rowI σ 50 0 ρ14) 50 0 ρ15).1 50 0 36 + (mo_rowI (mo_rowI σ 50 0 ρ14) 50 0 ρ15).1 50 0 43) 600) ∧ Q (none) (mo_put (mo_rowI (mo_rowI σ 50 0 ρ14) 50 0 ρ15) (4 : Int32) (nI (mo_mver (mo_rowI σ 50 0 ρ14)).2.2)))) ∧ (¬ (mo_rowI (mo_rowI σ 50 0 ρ14) 50 0 ρ15).1 50 0 35 = (-1 : Int32) → Q (none) (mo_rowI (mo_rowI σ 50 0 ρ14) 50 0 ρ15))))) ∧ (¬ (mo_mver (mo_rowI σ 50 0 ρ14)).1 → (∀ ρ16 : Nat → Int32, ∀ v16 : Int32, (mo_mfl (mo_rowI σ 50 0 ρ14) ρ16 (mo_mver (mo_rowI σ 50 0 ρ14)).2.1) → (((mo_rowI (mo_rowI σ 50 0 ρ14) 50 0 ρ16).1 50 0 35 = (-1 : Int32) → ((vp_in ((30 : Int32) * (mo_rowI (mo_rowI σ 50 0 ρ14) 50 0 ρ16).1 50 0 36 + (mo_rowI (mo_rowI σ 50 0 ρ14) 50 0 ρ16).1 50 0 43) 600) ∧ Q (none) (mo_put (mo_rowI (mo_rowI σ 50 0 ρ14) 50 0 ρ16) (4 : Int32) v16))) ∧ (¬ (mo_rowI (mo_rowI σ 50 0 ρ14) 50 0 ρ16).1 50 0 35 = (-1 : Int32) → Q (none) (mo_rowI (mo_rowI σ 50 0 ρ14) 50 0 ρ16)))))))))) ∧ (¬ (mo_msg σ (61 : Int32)) → ((¬ (σ.1 50 0 35 = (-1 : Int32)) → Q (none) (σ)) ∧ (σ.1 50 0 35 = (-1 : Int32) → Q (none) (mo_wI σ 50 0 35 (σ.1 50 0 32))))))))))))))))))
theorem mT_X12_test : ∀ (as : List mo_V) (σ : mo_M) (P P' : mo_Q), (∀ x τ, P x τ → P' x τ) → ST_X12_test as σ P → ST_X12_test as σ P' := by
  rintro as σ P P' hm ⟨e, hq⟩
  exact ⟨e, ⟨hq.1, ⟨hq.2.1, ⟨hq.2.2.1, ⟨fun c1 => ⟨fun c2 => hm _ _ ((hq.2.2.2.1 c1).1 c2), fun c2 => hm _ _ ((hq.2.2.2.1 c1).2 c2)⟩, fun c1 => ⟨fun c2 => ⟨((hq.2.2.2.2 c1).1 c2).1, fun ρ1 hr1 => ⟨fun c4 => ⟨((((hq.2.2.2.2 c1).1 c2).2 ρ1 hr1).1 c4).1, hm _ _ ((((hq.2.2.2.2 c1).1 c2).2 ρ1 hr1).1 c4).2⟩, fun c4 => hm _ _ ((((hq.2.2.2.2 c1).1 c2).2 ρ1 hr1).2 c4)⟩⟩, fun c2 => ⟨fun c3 => ⟨(((hq.2.2.2.2 c1).2 c2).1 c3).1, fun ρ2 hr2 => ⟨((((hq.2.2.2.2 c1).2 c2).1 c3).2 ρ2 hr2).1, ⟨fun c7 => ⟨(((((hq.2.2.2.2 c1).2 c2).1 c3).2 ρ2 hr2).2.1 c7).1, ⟨fun c8 => fun ρ3 hr3 => ⟨fun c9 => ⟨((((((((hq.2.2.2.2 c1).2 c2).1 c3).2 ρ2 hr2).2.1 c7).2.1 c8) ρ3 hr3).1 c9).1, hm _ _ ((((((((hq.2.2.2.2 c1).2 c2).1 c3).2 ρ2 hr2).2.1 c7).2.1 c8) ρ3 hr3).1 c9).2⟩, fun c9 => hm _ _ ((((((((hq.2.2.2.2 c1).2 c2).1 c3).2 ρ2 hr2).2.1 c7).2.1 c8) ρ3 hr3).2 c9)⟩, fun c8 => fun ρ4 v4 hr4 => ⟨fun c9 => ⟨((((((((hq.2.2.2.2 c1).2 c2).1 c3).2 ρ2 hr2).2.1 c7).2.2 c8) ρ4 v4 hr4).1 c9).1, hm _ _ ((((((((hq.2.2.2.2 c1).2 c2).1 c3).2 ρ2 hr2).2.1 c7).2.2 c8) ρ4 v4 hr4).1 c9).2⟩, fun c9 => hm _ _ ((((((((hq.2.2.2.2 c1).2 c2).1 c3).2 ρ2 hr2).2.1 c7).2.2 c8) ρ4 v4 hr4).2 c9)⟩⟩⟩, fun c7 => ⟨(((((hq.2.2.2.2 c1).2 c2).1 c3).2 ρ2 hr2).2.2 c7).1, fun ρ5 hr5 => ⟨((((((hq.2.2.2.2 c1).2 c2).1 c3).2 ρ2 hr2).2.2 c7).2 ρ5 hr5).1, ⟨fun c8 => fun ρ6 hr6 => ⟨fun c9 => ⟨(((((((((hq.2.2.2.2 c1).2 c2).1 c3).2 ρ2 hr2).2.2 c7).2 ρ5 hr5).2.1 c8) ρ6 hr6).1 c9).1, hm _ _ (((((((((hq.2.2.2.2 c1).2 c2).1 c3).2 ρ2 hr2).2.2 c7).2 ρ5 hr5).2.1 c8) ρ6 hr6).1 c9).2⟩, fun c9 => hm _ _ (((((((((hq.2.2.2.2 c1).2 c2).1 c3).2 ρ2 hr2).2.2 c7).2 ρ5 hr5).2.1 c8) ρ6 hr6).2 c9)⟩, fun c8 => fun ρ7 v7 hr7 => ⟨fun c9 => ⟨(((((((((hq.2.2.2.2 c1).2 c2).1 c3).2 ρ2 hr2).2.2 c7).2 ρ5 hr5).2.2 c8) ρ7 v7 hr7).1 c9).1, hm _ _ (((((((((hq.2.2.2.2 c1).2 c2).1 c3).2 ρ2 hr2).2.2 c7).2 ρ5 hr5).2.2 c8) ρ7 v7 hr7).1 c9).2⟩, fun c9 => hm _ _ (((((((((hq.2.2.2.2 c1).2 c2).1 c3).2 ρ2 hr2).2.2 c7).2 ρ5 hr5).2.2 c8) ρ7 v7 hr7).2 c9)⟩⟩⟩⟩⟩⟩⟩, fun c3 => ⟨fun c4 => ⟨((((hq.2.2.2.2 c1).2 c2).2 c3).1 c4).1, fun ρ8 hr8 => ⟨(((((hq.2.2.2.2 c1).2 c2).2 c3).1 c4).2 ρ8 hr8).1, ⟨fun c9 => ⟨((((((hq.2.2.2.2 c1).2 c2).2 c3).1 c4).2 ρ8 hr8).2.1 c9).1, ⟨fun c10 => fun ρ9 hr9 => ⟨fun c11 => ⟨(((((((((hq.2.2.2.2 c1).2 c2).2 c3).1 c4).2 ρ8 hr8).2.1 c9).2.1 c10) ρ9 hr9).1 c11).1, hm _ _ (((((((((hq.2.2.2.2 c1).2 c2).2 c3).1 c4).2 ρ8 hr8).2.1 c9).2.1 c10) ρ9 hr9).1 c11).2⟩, fun c11 => hm _ _ (((((((((hq.2.2.2.2 c1).2 c2).2 c3).1 c4).2 ρ8 hr8).2.1 c9).2.1 c10) ρ9 hr9).2 c11)⟩, fun c10 => fun ρ10 v10 hr10 => ⟨fun c11 => ⟨(((((((((hq.2.2.2.2 c1).2 c2).2 c3).1 c4).2 ρ8 hr8).2.1 c9).2.2 c10) ρ10 v10 hr10).1 c11).1, hm _ _ (((((((((hq.2.2.2.2 c1).2 c2).2 c3).1 c4).2 ρ8 hr8).2.1 c9).2.2 c10) ρ10 v10 hr10).1 c11).2⟩, fun c11 => hm _ _ (((((((((hq.2.2.2.2 c1).2 c2).2 c3).1 c4).2 ρ8 hr8).2.1 c9).2.2 c10) ρ10 v10 hr10).2 c11)⟩⟩⟩, fun c9 => ⟨((((((hq.2.2.2.2 c1).2 c2).2 c3).1 c4).2 ρ8 hr8).2.2 c9).1, fun ρ11 hr11 => ⟨(((((((hq.2.2.2.2 c1).2 c2).2 c3).1 c4).2 ρ8 hr8).2.2 c9).2 ρ11 hr11).1, ⟨fun c10 => fun ρ12 hr12 => ⟨fun c11 => ⟨((((((((((hq.2.2.2.2 c1).2 c2).2 c3).1 c4).2 ρ8 hr8).2.2 c9).2 ρ11 hr11).2.1 c10) ρ12 hr12).1 c11).1, hm _ _ ((((((((((hq.2.2.2.2 c1).2 c2).2 c3).1 c4).2 ρ8 hr8).2.2 c9).2 ρ11 hr11).2.1 c10) ρ12 hr12).1 c11).2⟩, fun c11 => hm _ _ ((((((((((hq.2.2.2.2 c1).2 c2).2 c3).1 c4).2 ρ8 hr8).2.2 c9).2 ρ11 hr11).2.1 c10) ρ12 hr12).2 c11)⟩, fun c10 => fun ρ13 v13 hr13 => ⟨fun c11 => ⟨((((((((((hq.2.2.2.2 c1).2 c2).2 c3).1 c4).2 ρ8 hr8).2.2 c9).2 ρ11 hr11).2.2 c10) ρ13 v13 hr13).1 c11).1, hm _ _ ((((((((((hq.2.2.2.2 c1).2 c2).2 c3).1 c4).2 ρ8 hr8).2.2 c9).2 ρ11 hr11).2.2 c10) ρ13 v13 hr13).1 c11).2⟩, fun c11 => hm _ _ ((((((((((hq.2.2.2.2 c1).2 c2).2 c3).1 c4).2 ρ8 hr8).2.2 c9).2 ρ11 hr11).2.2 c10) ρ13 v13 hr13).2 c11)⟩⟩⟩⟩⟩⟩⟩, fun c4 => ⟨((((hq.2.2.2.2 c1).2 c2).2 c3).2 c4).1, ⟨fun c5 => ⟨(((((hq.2.2.2.2 c1).2 c2).2 c3).2 c4).2.1 c5).1, fun ρ14 hr14 => ⟨((((((hq.2.2.2.2 c1).2 c2).2 c3).2 c4).2.1 c5).2 ρ14 hr14).1, ⟨fun c10 => fun ρ15 hr15 => ⟨fun c11 => ⟨(((((((((hq.2.2.2.2 c1).2 c2).2 c3).2 c4).2.1 c5).2 ρ14 hr14).2.1 c10) ρ15 hr15).1 c11).1, hm _ _ (((((((((hq.2.2.2.2 c1).2 c2).2 c3).2 c4).2.1 c5).2 ρ14 hr14).2.1 c10) ρ15 hr15).1 c11).2⟩, fun c11 => hm _ _ (((((((((hq.2.2.2.2 c1).2 c2).2 c3).2 c4).2.1 c5).2 ρ14 hr14).2.1 c10) ρ15 hr15).2 c11)⟩, fun c10 => fun ρ16 v16 hr16 => ⟨fun c11 => ⟨(((((((((hq.2.2.2.2 c1).2 c2).2 c3).2 c4).2.1 c5).2 ρ14 hr14).2.2 c10) ρ16 v16 hr16).1 c11).1, hm _ _ (((((((((hq.2.2.2.2 c1).2 c2).2 c3).2 c4).2.1 c5).2 ρ14 hr14).2.2 c10) ρ16 v16 hr16).1 c11).2⟩, fun c11 => hm _ _ (((((((((hq.2.2.2.2 c1).2 c2).2 c3).2 c4).2.1 c5).2 ρ14 hr14).2.2 c10) ρ16 v16 hr16).2 c11)⟩⟩⟩⟩, fun c5 => ⟨fun c6 => hm _ _ ((((((hq.2.2.2.2 c1).2 c2).2 c3).2 c4).2.2 c5).1 c6), fun c6 => hm _ _ ((((((hq.2.2.2.2 c1).2 c2).2 c3).2 c4).2.2 c5).2 c6)⟩⟩⟩⟩⟩⟩⟩⟩⟩⟩⟩
def cs_X12_test : Nat → mo_C := fun j => match j with
  | 0 => (2, true, 225, 12, S_X12_isWord)
  | 1 => (2, true, 220, 12, SN_X12_isSign)
  | 2 => (1, true, 202, 12, S_X12_faults)
  | 3 => (1, true, 205, 12, SN_X12_next)
  | 4 => (3, true, 229, 12, SN_X12_puts)
  | 5 => (1, true, 233, 12, S_X12_reads)
  | _ => (0, false, 0, 50, fun _ _ _ => False)
theorem cs_X12_test_ok (g : mo_E) : ∀ j, mo_cok g t_X12_test (cs_X12_test j) ∧ mo_mon (cs_X12_test j) := by
  intro j
  unfold cs_X12_test
  split
  · exact ⟨mo_cokV ct_X12_isWord (by decide) ⟨_, _, rfl⟩ (by decide +kernel), m_X12_isWord⟩
  · exact ⟨mo_cokV ctN_X12_isSign (by decide) ⟨_, _, rfl⟩ (by decide +kernel), mN_X12_isSign⟩
  · exact ⟨mo_cokV ct_X12_faults (by decide) ⟨_, _, rfl⟩ (by decide +kernel), m_X12_faults⟩
  · exact ⟨mo_cokV ctN_X12_next (by decide) ⟨_, _, rfl⟩ (by decide +kernel), mN_X12_next⟩
  · exact ⟨mo_cokV ctN_X12_puts (by decide) ⟨_, _, rfl⟩ (by decide +kernel), mN_X12_puts⟩
  · exact ⟨mo_cokV ct_X12_reads (by decide) ⟨_, _, rfl⟩ (by decide +kernel), m_X12_reads⟩
  · exact ⟨mo_cok0 g _, mo_mon0⟩
set_option maxRecDepth 20000 in
set_option maxHeartbeats 2000000 in
theorem ctT_X12_test : mo_ct yX12_test t_X12_test ST_X12_test := by
  refine mo_ct_of (by decide) rfl ?_
  rintro g as σ Q ⟨rfl, hQ⟩
  refine ⟨Nat.le_of_ble_eq_true rfl, mo_go ok_X12_test (cs_X12_test_ok g) [] 65 ?_⟩
  intro K hK
  refine Exists.intro (26049 : Int64) (And.intro rfl (And.intro (show mo_mS σ ∧ tk_wok (26049 : Int64) from hQ.1) ?_))
  refine Exists.intro (60 : Int32) (And.intro rfl (And.intro (show mo_mS σ ∧ (¬ (48 ≤ (60 : Int32) ∧ (60 : Int32) ≤ 57) ∧ ¬ (97 ≤ (60 : Int32) ∧ (60 : Int32) ≤ 122)) from hQ.2.1) ?_))
  refine Exists.intro (62 : Int32) (And.intro rfl (And.intro (show mo_mS σ ∧ (¬ (48 ≤ (62 : Int32) ∧ (62 : Int32) ≤ 57) ∧ ¬ (97 ≤ (62 : Int32) ∧ (62 : Int32) ≤ 122)) from hQ.2.2.1) ?_))
  refine And.intro (fun (c1 : (σ.1 50 0 43) = (30 : Int32)) => ?_) (fun (c1 : ¬ (σ.1 50 0 43) = (30 : Int32)) => ?_)
  · refine And.intro rfl ?_
    refine And.intro (fun (c2 : ¬ (σ.1 50 0 35 = (-1 : Int32))) => ?_) (fun (c2 : σ.1 50 0 35 = (-1 : Int32)) => ?_)
    · exact ((hQ.2.2.2.1 c1).1 c2)
    · exact ((hQ.2.2.2.1 c1).2 c2)
  · refine And.intro (fun (c2 : ¬ (mo_bl (mo_mwd σ (26049 : Int64))) = 0) => ?_) (fun (c2 : (mo_bl (mo_mwd σ (26049 : Int64))) = 0) => ?_)
    · replace c2 : mo_mwd σ (26049 : Int64) := mo_blT c2
      refine And.intro rfl ?_
      refine And.intro (show mo_le (σ.1 50 0 31) 200 ∧ mo_le (σ.1 50 0 33) (σ.1 50 0 31).toNatClampNeg from ((hQ.2.2.2.2 c1).1 c2).1) ?_
      intro ρ1 hr1
      refine And.intro (fun (c3 : (mo_bl (mo_mwd σ (26049 : Int64))) = 0) => ?_) (fun (c3 : ¬ (mo_bl (mo_mwd σ (26049 : Int64))) = 0) => ?_)
      · exact absurd c2 (mo_bl0.mp c3)
      · refine Exists.intro (5 : Int32) (Exists.intro (0 : Int32) (And.intro rfl ?_))
        refine And.intro (fun (c4 : (mo_rowI σ 50 0 ρ1).1 50 0 35 = (-1 : Int32)) => ?_) (fun (c4 : ¬ (mo_rowI σ 50 0 ρ1).1 50 0 35 = (-1 : Int32)) => ?_)
        · refine And.intro (show vp_in ((30 : Int32) * (mo_rowI σ 50 0 ρ1).1 50 0 36 + (mo_rowI σ 50 0 ρ1).1 50 0 43) 600 from ((((hQ.2.2.2.2 c1).1 c2).2 ρ1 hr1).1 c4).1) ?_
          exact ((((hQ.2.2.2.2 c1).1 c2).2 ρ1 hr1).1 c4).2
        · exact ((((hQ.2.2.2.2 c1).1 c2).2 ρ1 hr1).2 c4)
    · replace c2 : ¬ (mo_mwd σ (26049 : Int64)) := mo_bl0.mp c2
      refine And.intro (fun (c3 : ¬ (mo_bl (mo_msg σ (60 : Int32))) = 0) => ?_) (fun (c3 : (mo_bl (mo_msg σ (60 : Int32))) = 0) => ?_)
      · replace c3 : mo_msg σ (60 : Int32) := mo_blT c3
        refine And.intro rfl ?_
        refine And.intro (show mo_le (σ.1 50 0 31) 200 ∧ mo_le (σ.1 50 0 33) (σ.1 50 0 31).toNatClampNeg from (((hQ.2.2.2.2 c1).2 c2).1 c3).1) ?_
        intro ρ2 hr2
        refine And.intro (fun (c4 : (mo_bl (mo_mwd σ (26049 : Int64))) = 0) => ?_) (fun (c4 : ¬ (mo_bl (mo_mwd σ (26049 : Int64))) = 0) => ?_)
        · refine And.intro (fun (c5 : (mo_bl (mo_msg σ (60 : Int32))) = 0) => ?_) (fun (c5 : ¬ (mo_bl (mo_msg σ (60 : Int32))) = 0) => ?_)
          · exact absurd c3 (mo_bl0.mp c5)
          · refine And.intro (fun (c6 : (4 : Int32) ≤ (0 : Int32)) => ?_) (fun (c6 : ¬ (4 : Int32) ≤ (0 : Int32)) => ?_)
            · exact absurd c6 (by decide)
            · refine Exists.intro (61 : Int32) (And.intro rfl (And.intro (show mo_mS (mo_rowI σ 50 0 ρ2) ∧ (¬ (48 ≤ (61 : Int32) ∧ (61 : Int32) ≤ 57) ∧ ¬ (97 ≤ (61 : Int32) ∧ (61 : Int32) ≤ 122)) from ((((hQ.2.2.2.2 c1).2 c2).1 c3).2 ρ2 hr2).1) ?_))
              refine And.intro (fun (c7 : (mo_bl (mo_msg (mo_rowI σ 50 0 ρ2) (61 : Int32))) = 0) => ?_) (fun (c7 : ¬ (mo_bl (mo_msg (mo_rowI σ 50 0 ρ2) (61 : Int32))) = 0) => ?_)
              · replace c7 : ¬ (mo_msg (mo_rowI σ 50 0 ρ2) (61 : Int32)) := mo_bl0.mp c7
                refine And.intro rfl ?_
                refine And.intro (show mo_mS (mo_rowI σ 50 0 ρ2) ∧ (mo_rowI σ 50 0 ρ2).1 50 0 35 = (-1 : Int32) from (((((hQ.2.2.2.2 c1).2 c2).1 c3).2 ρ2 hr2).2.1 c7).1) ?_
                refine And.intro (fun (c8 : (mo_mver (mo_rowI σ 50 0 ρ2)).1) => ?_) (fun (c8 : ¬ (mo_mver (mo_rowI σ 50 0 ρ2)).1) => ?_)
                · intro ρ3 hr3
                  refine Exists.intro (0 : Int32) (Exists.intro (nI (mo_mver (mo_rowI σ 50 0 ρ2)).2.2) (And.intro rfl ?_))
                  refine And.intro (fun (c9 : (mo_rowI (mo_rowI σ 50 0 ρ2) 50 0 ρ3).1 50 0 35 = (-1 : Int32)) => ?_) (fun (c9 : ¬ (mo_rowI (mo_rowI σ 50 0 ρ2) 50 0 ρ3).1 50 0 35 = (-1 : Int32)) => ?_)
                  · refine And.intro (show vp_in ((30 : Int32) * (mo_rowI (mo_rowI σ 50 0 ρ2) 50 0 ρ3).1 50 0 36 + (mo_rowI (mo_rowI σ 50 0 ρ2) 50 0 ρ3).1 50 0 43) 600 from ((((((((hQ.2.2.2.2 c1).2 c2).1 c3).2 ρ2 hr2).2.1 c7).2.1 c8) ρ3 hr3).1 c9).1) ?_
                    exact ((((((((hQ.2.2.2.2 c1).2 c2).1 c3).2 ρ2 hr2).2.1 c7).2.1 c8) ρ3 hr3).1 c9).2
                  · exact ((((((((hQ.2.2.2.2 c1).2 c2).1 c3).2 ρ2 hr2).2.1 c7).2.1 c8) ρ3 hr3).2 c9)
                · intro ρ4 v4 hr4
                  refine Exists.intro (0 : Int32) (Exists.intro v4 (And.intro rfl ?_))
                  refine And.intro (fun (c9 : (mo_rowI (mo_rowI σ 50 0 ρ2) 50 0 ρ4).1 50 0 35 = (-1 : Int32)) => ?_) (fun (c9 : ¬ (mo_rowI (mo_rowI σ 50 0 ρ2) 50 0 ρ4).1 50 0 35 = (-1 : Int32)) => ?_)
                  · refine And.intro (show vp_in ((30 : Int32) * (mo_rowI (mo_rowI σ 50 0 ρ2) 50 0 ρ4).1 50 0 36 + (mo_rowI (mo_rowI σ 50 0 ρ2) 50 0 ρ4).1 50 0 43) 600 from ((((((((hQ.2.2.2.2 c1).2 c2).1 c3).2 ρ2 hr2).2.1 c7).2.2 c8) ρ4 v4 hr4).1 c9).1) ?_
                    exact ((((((((hQ.2.2.2.2 c1).2 c2).1 c3).2 ρ2 hr2).2.1 c7).2.2 c8) ρ4 v4 hr4).1 c9).2
                  · exact ((((((((hQ.2.2.2.2 c1).2 c2).1 c3).2 ρ2 hr2).2.1 c7).2.2 c8) ρ4 v4 hr4).2 c9)
              · replace c7 : mo_msg (mo_rowI σ 50 0 ρ2) (61 : Int32) := mo_blT c7
                refine And.intro rfl ?_
                refine And.intro (show mo_le ((mo_rowI σ 50 0 ρ2).1 50 0 31) 200 ∧ mo_le ((mo_rowI σ 50 0 ρ2).1 50 0 33) ((mo_rowI σ 50 0 ρ2).1 50 0 31).toNatClampNeg from (((((hQ.2.2.2.2 c1).2 c2).1 c3).2 ρ2 hr2).2.2 c7).1) ?_
                intro ρ5 hr5
                refine And.intro rfl ?_
                refine And.intro (show mo_mS (mo_rowI (mo_rowI σ 50 0 ρ2) 50 0 ρ5) ∧ (mo_rowI (mo_rowI σ 50 0 ρ2) 50 0 ρ5).1 50 0 35 = (-1 : Int32) from ((((((hQ.2.2.2.2 c1).2 c2).1 c3).2 ρ2 hr2).2.2 c7).2 ρ5 hr5).1) ?_
                refine And.intro (fun (c8 : (mo_mver (mo_rowI (mo_rowI σ 50 0 ρ2) 50 0 ρ5)).1) => ?_) (fun (c8 : ¬ (mo_mver (mo_rowI (mo_rowI σ 50 0 ρ2) 50 0 ρ5)).1) => ?_)
                · intro ρ6 hr6
                  refine Exists.intro ((0 : Int32) + (1 : Int32)) (Exists.intro (nI (mo_mver (mo_rowI (mo_rowI σ 50 0 ρ2) 50 0 ρ5)).2.2) (And.intro rfl ?_))
                  refine And.intro (fun (c9 : (mo_rowI (mo_rowI (mo_rowI σ 50 0 ρ2) 50 0 ρ5) 50 0 ρ6).1 50 0 35 = (-1 : Int32)) => ?_) (fun (c9 : ¬ (mo_rowI (mo_rowI (mo_rowI σ 50 0 ρ2) 50 0 ρ5) 50 0 ρ6).1 50 0 35 = (-1 : Int32)) => ?_)
                  · refine And.intro (show vp_in ((30 : Int32) * (mo_rowI (mo_rowI (mo_rowI σ 50 0 ρ2) 50 0 ρ5) 50 0 ρ6).1 50 0 36 + (mo_rowI (mo_rowI (mo_rowI σ 50 0 ρ2) 50 0 ρ5) 50 0 ρ6).1 50 0 43) 600 from (((((((((hQ.2.2.2.2 c1).2 c2).1 c3).2 ρ2 hr2).2.2 c7).2 ρ5 hr5).2.1 c8) ρ6 hr6).1 c9).1) ?_
                    exact (((((((((hQ.2.2.2.2 c1).2 c2).1 c3).2 ρ2 hr2).2.2 c7).2 ρ5 hr5).2.1 c8) ρ6 hr6).1 c9).2
                  · exact (((((((((hQ.2.2.2.2 c1).2 c2).1 c3).2 ρ2 hr2).2.2 c7).2 ρ5 hr5).2.1 c8) ρ6 hr6).2 c9)
                · intro ρ7 v7 hr7
                  refine Exists.intro ((0 : Int32) + (1 : Int32)) (Exists.intro v7 (And.intro rfl ?_))
                  refine And.intro (fun (c9 : (mo_rowI (mo_rowI (mo_rowI σ 50 0 ρ2) 50 0 ρ5) 50 0 ρ7).1 50 0 35 = (-1 : Int32)) => ?_) (fun (c9 : ¬ (mo_rowI (mo_rowI (mo_rowI σ 50 0 ρ2) 50 0 ρ5) 50 0 ρ7).1 50 0 35 = (-1 : Int32)) => ?_)
                  · refine And.intro (show vp_in ((30 : Int32) * (mo_rowI (mo_rowI (mo_rowI σ 50 0 ρ2) 50 0 ρ5) 50 0 ρ7).1 50 0 36 + (mo_rowI (mo_rowI (mo_rowI σ 50 0 ρ2) 50 0 ρ5) 50 0 ρ7).1 50 0 43) 600 from (((((((((hQ.2.2.2.2 c1).2 c2).1 c3).2 ρ2 hr2).2.2 c7).2 ρ5 hr5).2.2 c8) ρ7 v7 hr7).1 c9).1) ?_
                    exact (((((((((hQ.2.2.2.2 c1).2 c2).1 c3).2 ρ2 hr2).2.2 c7).2 ρ5 hr5).2.2 c8) ρ7 v7 hr7).1 c9).2
                  · exact (((((((((hQ.2.2.2.2 c1).2 c2).1 c3).2 ρ2 hr2).2.2 c7).2 ρ5 hr5).2.2 c8) ρ7 v7 hr7).2 c9)
        · exact absurd (mo_blT c4) c2
      · replace c3 : ¬ (mo_msg σ (60 : Int32)) := mo_bl0.mp c3
        refine And.intro (fun (c4 : ¬ (mo_bl (mo_msg σ (62 : Int32))) = 0) => ?_) (fun (c4 : (mo_bl (mo_msg σ (62 : Int32))) = 0) => ?_)
        · replace c4 : mo_msg σ (62 : Int32) := mo_blT c4
          refine And.intro rfl ?_
          refine And.intro (show mo_le (σ.1 50 0 31) 200 ∧ mo_le (σ.1 50 0 33) (σ.1 50 0 31).toNatClampNeg from ((((hQ.2.2.2.2 c1).2 c2).2 c3).1 c4).1) ?_
          intro ρ8 hr8
          refine And.intro (fun (c5 : (mo_bl (mo_mwd σ (26049 : Int64))) = 0) => ?_) (fun (c5 : ¬ (mo_bl (mo_mwd σ (26049 : Int64))) = 0) => ?_)
          · refine And.intro (fun (c6 : (mo_bl (mo_msg σ (60 : Int32))) = 0) => ?_) (fun (c6 : ¬ (mo_bl (mo_msg σ (60 : Int32))) = 0) => ?_)
            · refine And.intro (fun (c7 : (mo_bl (mo_msg σ (62 : Int32))) = 0) => ?_) (fun (c7 : ¬ (mo_bl (mo_msg σ (62 : Int32))) = 0) => ?_)
              · exact absurd c4 (mo_bl0.mp c7)
              · refine And.intro (fun (c8 : (4 : Int32) ≤ (2 : Int32)) => ?_) (fun (c8 : ¬ (4 : Int32) ≤ (2 : Int32)) => ?_)
                · exact absurd c8 (by decide)
                · refine Exists.intro (61 : Int32) (And.intro rfl (And.intro (show mo_mS (mo_rowI σ 50 0 ρ8) ∧ (¬ (48 ≤ (61 : Int32) ∧ (61 : Int32) ≤ 57) ∧ ¬ (97 ≤ (61 : Int32) ∧ (61 : Int32) ≤ 122)) from (((((hQ.2.2.2.2 c1).2 c2).2 c3).1 c4).2 ρ8 hr8).1) ?_))
                  refine And.intro (fun (c9 : (mo_bl (mo_msg (mo_rowI σ 50 0 ρ8) (61 : Int32))) = 0) => ?_) (fun (c9 : ¬ (mo_bl (mo_msg (mo_rowI σ 50 0 ρ8) (61 : Int32))) = 0) => ?_)
                  · replace c9 : ¬ (mo_msg (mo_rowI σ 50 0 ρ8) (61 : Int32)) := mo_bl0.mp c9
                    refine And.intro rfl ?_
                    refine And.intro (show mo_mS (mo_rowI σ 50 0 ρ8) ∧ (mo_rowI σ 50 0 ρ8).1 50 0 35 = (-1 : Int32) from ((((((hQ.2.2.2.2 c1).2 c2).2 c3).1 c4).2 ρ8 hr8).2.1 c9).1) ?_
                    refine And.intro (fun (c10 : (mo_mver (mo_rowI σ 50 0 ρ8)).1) => ?_) (fun (c10 : ¬ (mo_mver (mo_rowI σ 50 0 ρ8)).1) => ?_)
                    · intro ρ9 hr9
                      refine Exists.intro (2 : Int32) (Exists.intro (nI (mo_mver (mo_rowI σ 50 0 ρ8)).2.2) (And.intro rfl ?_))
                      refine And.intro (fun (c11 : (mo_rowI (mo_rowI σ 50 0 ρ8) 50 0 ρ9).1 50 0 35 = (-1 : Int32)) => ?_) (fun (c11 : ¬ (mo_rowI (mo_rowI σ 50 0 ρ8) 50 0 ρ9).1 50 0 35 = (-1 : Int32)) => ?_)
                      · refine And.intro (show vp_in ((30 : Int32) * (mo_rowI (mo_rowI σ 50 0 ρ8) 50 0 ρ9).1 50 0 36 + (mo_rowI (mo_rowI σ 50 0 ρ8) 50 0 ρ9).1 50 0 43) 600 from (((((((((hQ.2.2.2.2 c1).2 c2).2 c3).1 c4).2 ρ8 hr8).2.1 c9).2.1 c10) ρ9 hr9).1 c11).1) ?_
                        exact (((((((((hQ.2.2.2.2 c1).2 c2).2 c3).1 c4).2 ρ8 hr8).2.1 c9).2.1 c10) ρ9 hr9).1 c11).2
                      · exact (((((((((hQ.2.2.2.2 c1).2 c2).2 c3).1 c4).2 ρ8 hr8).2.1 c9).2.1 c10) ρ9 hr9).2 c11)
                    · intro ρ10 v10 hr10
                      refine Exists.intro (2 : Int32) (Exists.intro v10 (And.intro rfl ?_))
                      refine And.intro (fun (c11 : (mo_rowI (mo_rowI σ 50 0 ρ8) 50 0 ρ10).1 50 0 35 = (-1 : Int32)) => ?_) (fun (c11 : ¬ (mo_rowI (mo_rowI σ 50 0 ρ8) 50 0 ρ10).1 50 0 35 = (-1 : Int32)) => ?_)
                      · refine And.intro (show vp_in ((30 : Int32) * (mo_rowI (mo_rowI σ 50 0 ρ8) 50 0 ρ10).1 50 0 36 + (mo_rowI (mo_rowI σ 50 0 ρ8) 50 0 ρ10).1 50 0 43) 600 from (((((((((hQ.2.2.2.2 c1).2 c2).2 c3).1 c4).2 ρ8 hr8).2.1 c9).2.2 c10) ρ10 v10 hr10).1 c11).1) ?_
                        exact (((((((((hQ.2.2.2.2 c1).2 c2).2 c3).1 c4).2 ρ8 hr8).2.1 c9).2.2 c10) ρ10 v10 hr10).1 c11).2
                      · exact (((((((((hQ.2.2.2.2 c1).2 c2).2 c3).1 c4).2 ρ8 hr8).2.1 c9).2.2 c10) ρ10 v10 hr10).2 c11)
                  · replace c9 : mo_msg (mo_rowI σ 50 0 ρ8) (61 : Int32) := mo_blT c9
                    refine And.intro rfl ?_
                    refine And.intro (show mo_le ((mo_rowI σ 50 0 ρ8).1 50 0 31) 200 ∧ mo_le ((mo_rowI σ 50 0 ρ8).1 50 0 33) ((mo_rowI σ 50 0 ρ8).1 50 0 31).toNatClampNeg from ((((((hQ.2.2.2.2 c1).2 c2).2 c3).1 c4).2 ρ8 hr8).2.2 c9).1) ?_
                    intro ρ11 hr11
                    refine And.intro rfl ?_
                    refine And.intro (show mo_mS (mo_rowI (mo_rowI σ 50 0 ρ8) 50 0 ρ11) ∧ (mo_rowI (mo_rowI σ 50 0 ρ8) 50 0 ρ11).1 50 0 35 = (-1 : Int32) from (((((((hQ.2.2.2.2 c1).2 c2).2 c3).1 c4).2 ρ8 hr8).2.2 c9).2 ρ11 hr11).1) ?_
                    refine And.intro (fun (c10 : (mo_mver (mo_rowI (mo_rowI σ 50 0 ρ8) 50 0 ρ11)).1) => ?_) (fun (c10 : ¬ (mo_mver (mo_rowI (mo_rowI σ 50 0 ρ8) 50 0 ρ11)).1) => ?_)
                    · intro ρ12 hr12
                      refine Exists.intro ((2 : Int32) + (1 : Int32)) (Exists.intro (nI (mo_mver (mo_rowI (mo_rowI σ 50 0 ρ8) 50 0 ρ11)).2.2) (And.intro rfl ?_))
                      refine And.intro (fun (c11 : (mo_rowI (mo_rowI (mo_rowI σ 50 0 ρ8) 50 0 ρ11) 50 0 ρ12).1 50 0 35 = (-1 : Int32)) => ?_) (fun (c11 : ¬ (mo_rowI (mo_rowI (mo_rowI σ 50 0 ρ8) 50 0 ρ11) 50 0 ρ12).1 50 0 35 = (-1 : Int32)) => ?_)
                      · refine And.intro (show vp_in ((30 : Int32) * (mo_rowI (mo_rowI (mo_rowI σ 50 0 ρ8) 50 0 ρ11) 50 0 ρ12).1 50 0 36 + (mo_rowI (mo_rowI (mo_rowI σ 50 0 ρ8) 50 0 ρ11) 50 0 ρ12).1 50 0 43) 600 from ((((((((((hQ.2.2.2.2 c1).2 c2).2 c3).1 c4).2 ρ8 hr8).2.2 c9).2 ρ11 hr11).2.1 c10) ρ12 hr12).1 c11).1) ?_
                        exact ((((((((((hQ.2.2.2.2 c1).2 c2).2 c3).1 c4).2 ρ8 hr8).2.2 c9).2 ρ11 hr11).2.1 c10) ρ12 hr12).1 c11).2
                      · exact ((((((((((hQ.2.2.2.2 c1).2 c2).2 c3).1 c4).2 ρ8 hr8).2.2 c9).2 ρ11 hr11).2.1 c10) ρ12 hr12).2 c11)
                    · intro ρ13 v13 hr13
                      refine Exists.intro ((2 : Int32) + (1 : Int32)) (Exists.intro v13 (And.intro rfl ?_))
                      refine And.intro (fun (c11 : (mo_rowI (mo_rowI (mo_rowI σ 50 0 ρ8) 50 0 ρ11) 50 0 ρ13).1 50 0 35 = (-1 : Int32)) => ?_) (fun (c11 : ¬ (mo_rowI (mo_rowI (mo_rowI σ 50 0 ρ8) 50 0 ρ11) 50 0 ρ13).1 50 0 35 = (-1 : Int32)) => ?_)
                      · refine And.intro (show vp_in ((30 : Int32) * (mo_rowI (mo_rowI (mo_rowI σ 50 0 ρ8) 50 0 ρ11) 50 0 ρ13).1 50 0 36 + (mo_rowI (mo_rowI (mo_rowI σ 50 0 ρ8) 50 0 ρ11) 50 0 ρ13).1 50 0 43) 600 from ((((((((((hQ.2.2.2.2 c1).2 c2).2 c3).1 c4).2 ρ8 hr8).2.2 c9).2 ρ11 hr11).2.2 c10) ρ13 v13 hr13).1 c11).1) ?_
                        exact ((((((((((hQ.2.2.2.2 c1).2 c2).2 c3).1 c4).2 ρ8 hr8).2.2 c9).2 ρ11 hr11).2.2 c10) ρ13 v13 hr13).1 c11).2
                      · exact ((((((((((hQ.2.2.2.2 c1).2 c2).2 c3).1 c4).2 ρ8 hr8).2.2 c9).2 ρ11 hr11).2.2 c10) ρ13 v13 hr13).2 c11)
            · exact absurd (mo_blT c6) c3
          · exact absurd (mo_blT c5) c2
        · replace c4 : ¬ (mo_msg σ (62 : Int32)) := mo_bl0.mp c4
          refine Exists.intro (61 : Int32) (And.intro rfl (And.intro (show mo_mS σ ∧ (¬ (48 ≤ (61 : Int32) ∧ (61 : Int32) ≤ 57) ∧ ¬ (97 ≤ (61 : Int32) ∧ (61 : Int32) ≤ 122)) from ((((hQ.2.2.2.2 c1).2 c2).2 c3).2 c4).1) ?_))
          refine And.intro (fun (c5 : ¬ (mo_bl (mo_msg σ (61 : Int32))) = 0) => ?_) (fun (c5 : (mo_bl (mo_msg σ (61 : Int32))) = 0) => ?_)
          · replace c5 : mo_msg σ (61 : Int32) := mo_blT c5
            refine And.intro rfl ?_
            refine And.intro (show mo_le (σ.1 50 0 31) 200 ∧ mo_le (σ.1 50 0 33) (σ.1 50 0 31).toNatClampNeg from (((((hQ.2.2.2.2 c1).2 c2).2 c3).2 c4).2.1 c5).1) ?_
            intro ρ14 hr14
            refine And.intro (fun (c6 : (mo_bl (mo_mwd σ (26049 : Int64))) = 0) => ?_) (fun (c6 : ¬ (mo_bl (mo_mwd σ (26049 : Int64))) = 0) => ?_)
            · refine And.intro (fun (c7 : (mo_bl (mo_msg σ (60 : Int32))) = 0) => ?_) (fun (c7 : ¬ (mo_bl (mo_msg σ (60 : Int32))) = 0) => ?_)
              · refine And.intro (fun (c8 : (mo_bl (mo_msg σ (62 : Int32))) = 0) => ?_) (fun (c8 : ¬ (mo_bl (mo_msg σ (62 : Int32))) = 0) => ?_)
                · refine And.intro (fun (c9 : (4 : Int32) ≤ (4 : Int32)) => ?_) (fun (c9 : ¬ (4 : Int32) ≤ (4 : Int32)) => ?_)
                  · refine And.intro rfl ?_
                    refine And.intro (show mo_mS (mo_rowI σ 50 0 ρ14) ∧ (mo_rowI σ 50 0 ρ14).1 50 0 35 = (-1 : Int32) from ((((((hQ.2.2.2.2 c1).2 c2).2 c3).2 c4).2.1 c5).2 ρ14 hr14).1) ?_
                    refine And.intro (fun (c10 : (mo_mver (mo_rowI σ 50 0 ρ14)).1) => ?_) (fun (c10 : ¬ (mo_mver (mo_rowI σ 50 0 ρ14)).1) => ?_)
                    · intro ρ15 hr15
                      refine Exists.intro (4 : Int32) (Exists.intro (nI (mo_mver (mo_rowI σ 50 0 ρ14)).2.2) (And.intro rfl ?_))
                      refine And.intro (fun (c11 : (mo_rowI (mo_rowI σ 50 0 ρ14) 50 0 ρ15).1 50 0 35 = (-1 : Int32)) => ?_) (fun (c11 : ¬ (mo_rowI (mo_rowI σ 50 0 ρ14) 50 0 ρ15).1 50 0 35 = (-1 : Int32)) => ?_)
                      · refine And.intro (show vp_in ((30 : Int32) * (mo_rowI (mo_rowI σ 50 0 ρ14) 50 0 ρ15).1 50 0 36 + (mo_rowI (mo_rowI σ 50 0 ρ14) 50 0 ρ15).1 50 0 43) 600 from (((((((((hQ.2.2.2.2 c1).2 c2).2 c3).2 c4).2.1 c5).2 ρ14 hr14).2.1 c10) ρ15 hr15).1 c11).1) ?_
                        exact (((((((((hQ.2.2.2.2 c1).2 c2).2 c3).2 c4).2.1 c5).2 ρ14 hr14).2.1 c10) ρ15 hr15).1 c11).2
                      · exact (((((((((hQ.2.2.2.2 c1).2 c2).2 c3).2 c4).2.1 c5).2 ρ14 hr14).2.1 c10) ρ15 hr15).2 c11)
                    · intro ρ16 v16 hr16
                      refine Exists.intro (4 : Int32) (Exists.intro v16 (And.intro rfl ?_))
                      refine And.intro (fun (c11 : (mo_rowI (mo_rowI σ 50 0 ρ14) 50 0 ρ16).1 50 0 35 = (-1 : Int32)) => ?_) (fun (c11 : ¬ (mo_rowI (mo_rowI σ 50 0 ρ14) 50 0 ρ16).1 50 0 35 = (-1 : Int32)) => ?_)
                      · refine And.intro (show vp_in ((30 : Int32) * (mo_rowI (mo_rowI σ 50 0 ρ14) 50 0 ρ16).1 50 0 36 + (mo_rowI (mo_rowI σ 50 0 ρ14) 50 0 ρ16).1 50 0 43) 600 from (((((((((hQ.2.2.2.2 c1).2 c2).2 c3).2 c4).2.1 c5).2 ρ14 hr14).2.2 c10) ρ16 v16 hr16).1 c11).1) ?_
                        exact (((((((((hQ.2.2.2.2 c1).2 c2).2 c3).2 c4).2.1 c5).2 ρ14 hr14).2.2 c10) ρ16 v16 hr16).1 c11).2
                      · exact (((((((((hQ.2.2.2.2 c1).2 c2).2 c3).2 c4).2.1 c5).2 ρ14 hr14).2.2 c10) ρ16 v16 hr16).2 c11)
                  · exact absurd c9 (by decide)
                · exact absurd (mo_blT c8) c4
              · exact absurd (mo_blT c7) c3
            · exact absurd (mo_blT c6) c2
          · replace c5 : ¬ (mo_msg σ (61 : Int32)) := mo_bl0.mp c5
            refine And.intro rfl ?_
            refine And.intro (fun (c6 : ¬ (σ.1 50 0 35 = (-1 : Int32))) => ?_) (fun (c6 : σ.1 50 0 35 = (-1 : Int32)) => ?_)
            · exact ((((((hQ.2.2.2.2 c1).2 c2).2 c3).2 c4).2.2 c5).1 c6)
            · exact ((((((hQ.2.2.2.2 c1).2 c2).2 c3).2 c4).2.2 c5).2 c6)
