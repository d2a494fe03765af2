theorem hd_X8_bells : yX8_bells.cls = RX8 ∧ yX8_bells.cls ≠ "java/lang/invoke/MethodHandle" ∧ yX8_bells.cls ≠ "java/lang/invoke/VarHandle" ∧ (parseMethodDescriptor yX8_bells.desc).map (fun d => d.parameters.length) = some 1 := by decide +kernel
theorem hd_X8_change : yX8_change.cls = RX8 ∧ yX8_change.cls ≠ "java/lang/invoke/MethodHandle" ∧ yX8_change.cls ≠ "java/lang/invoke/VarHandle" ∧ (parseMethodDescriptor yX8_change.desc).map (fun d => d.parameters.length) = some 1 := by decide +kernel
theorem hd_X9_change : yX9_change.cls = RX9 ∧ yX9_change.cls ≠ "java/lang/invoke/MethodHandle" ∧ yX9_change.cls ≠ "java/lang/invoke/VarHandle" ∧ (parseMethodDescriptor yX9_change.desc).map (fun d => d.parameters.length) = some 1 := by decide +kernel
theorem hd_X8_calls : yX8_calls.cls = RX8 ∧ yX8_calls.cls ≠ "java/lang/invoke/MethodHandle" ∧ yX8_calls.cls ≠ "java/lang/invoke/VarHandle" ∧ (parseMethodDescriptor yX8_calls.desc).map (fun d => d.parameters.length) = some 2 := by decide +kernel
theorem hd_X8_call : yX8_call.cls = RX8 ∧ yX8_call.cls ≠ "java/lang/invoke/MethodHandle" ∧ yX8_call.cls ≠ "java/lang/invoke/VarHandle" ∧ (parseMethodDescriptor yX8_call.desc).map (fun d => d.parameters.length) = some 2 := by decide +kernel
theorem hd_X9_call : yX9_call.cls = RX9 ∧ yX9_call.cls ≠ "java/lang/invoke/MethodHandle" ∧ yX9_call.cls ≠ "java/lang/invoke/VarHandle" ∧ (parseMethodDescriptor yX9_call.desc).map (fun d => d.parameters.length) = some 2 := by decide +kernel
theorem hd_X8_leads : yX8_leads.cls = RX8 ∧ yX8_leads.cls ≠ "java/lang/invoke/MethodHandle" ∧ yX8_leads.cls ≠ "java/lang/invoke/VarHandle" ∧ (parseMethodDescriptor yX8_leads.desc).map (fun d => d.parameters.length) = some 1 := by decide +kernel
theorem hd_X9_leads : yX9_leads.cls = RX9 ∧ yX9_leads.cls ≠ "java/lang/invoke/MethodHandle" ∧ yX9_leads.cls ≠ "java/lang/invoke/VarHandle" ∧ (parseMethodDescriptor yX9_leads.desc).map (fun d => d.parameters.length) = some 1 := by decide +kernel
theorem hd_X8_pattern : yX8_pattern.cls = RX8 ∧ yX8_pattern.cls ≠ "java/lang/invoke/MethodHandle" ∧ yX8_pattern.cls ≠ "java/lang/invoke/VarHandle" ∧ (parseMethodDescriptor yX8_pattern.desc).map (fun d => d.parameters.length) = some 2 := by decide +kernel
theorem hd_X9_pattern : yX9_pattern.cls = RX9 ∧ yX9_pattern.cls ≠ "java/lang/invoke/MethodHandle" ∧ yX9_pattern.cls ≠ "java/lang/invoke/VarHandle" ∧ (parseMethodDescriptor yX9_pattern.desc).map (fun d => d.parameters.length) = some 2 := by decide +kernel
theorem hd_X8_feed : yX8_feed.cls = RX8 ∧ yX8_feed.cls ≠ "java/lang/invoke/MethodHandle" ∧ yX8_feed.cls ≠ "java/lang/invoke/VarHandle" ∧ (parseMethodDescriptor yX8_feed.desc).map (fun d => d.parameters.length) = some 1 := by decide +kernel
theorem hd_X9_feed : yX9_feed.cls = RX9 ∧ yX9_feed.cls ≠ "java/lang/invoke/MethodHandle" ∧ yX9_feed.cls ≠ "java/lang/invoke/VarHandle" ∧ (parseMethodDescriptor yX9_feed.desc).map (fun d => d.parameters.length) = some 1 := by decide +kernel
theorem hd_X8_read : yX8_read.cls = RX8 ∧ yX8_read.cls ≠ "java/lang/invoke/MethodHandle" ∧ yX8_read.cls ≠ "java/lang/invoke/VarHandle" ∧ (parseMethodDescriptor yX8_read.desc).map (fun d => d.parameters.length) = some 0 := by decide +kernel
theorem hd_X9_read : yX9_read.cls = RX9 ∧ yX9_read.cls ≠ "java/lang/invoke/MethodHandle" ∧ yX9_read.cls ≠ "java/lang/invoke/VarHandle" ∧ (parseMethodDescriptor yX9_read.desc).map (fun d => d.parameters.length) = some 0 := by decide +kernel
theorem hd_X8_of : yX8_of.cls = RX8 ∧ yX8_of.cls ≠ "java/lang/invoke/MethodHandle" ∧ yX8_of.cls ≠ "java/lang/invoke/VarHandle" ∧ (parseMethodDescriptor yX8_of.desc).map (fun d => d.parameters.length) = some 2 := by decide +kernel
theorem hd_X9_of : yX9_of.cls = RX9 ∧ yX9_of.cls ≠ "java/lang/invoke/MethodHandle" ∧ yX9_of.cls ≠ "java/lang/invoke/VarHandle" ∧ (parseMethodDescriptor yX9_of.desc).map (fun d => d.parameters.length) = some 2 := by decide +kernel
theorem hd_X8_told : yX8_told.cls = RX8 ∧ yX8_told.cls ≠ "java/lang/invoke/MethodHandle" ∧ yX8_told.cls ≠ "java/lang/invoke/VarHandle" ∧ (parseMethodDescriptor yX8_told.desc).map (fun d => d.parameters.length) = some 1 := by decide +kernel
theorem hd_X9_told : yX9_told.cls = RX9 ∧ yX9_told.cls ≠ "java/lang/invoke/MethodHandle" ∧ yX9_told.cls ≠ "java/lang/invoke/VarHandle" ∧ (parseMethodDescriptor yX9_told.desc).map (fun d => d.parameters.length) = some 1 := by decide +kernel
theorem hd_X8_at : yX8_at.cls = RX8 ∧ yX8_at.cls ≠ "java/lang/invoke/MethodHandle" ∧ yX8_at.cls ≠ "java/lang/invoke/VarHandle" ∧ (parseMethodDescriptor yX8_at.desc).map (fun d => d.parameters.length) = some 2 := by decide +kernel
theorem hd_X9_at : yX9_at.cls = RX9 ∧ yX9_at.cls ≠ "java/lang/invoke/MethodHandle" ∧ yX9_at.cls ≠ "java/lang/invoke/VarHandle" ∧ (parseMethodDescriptor yX9_at.desc).map (fun d => d.parameters.length) = some 2 := by decide +kernel
theorem hd_X8_where : yX8_where.cls = RX8 ∧ yX8_where.cls ≠ "java/lang/invoke/MethodHandle" ∧ yX8_where.cls ≠ "java/lang/invoke/VarHandle" ∧ (parseMethodDescriptor yX8_where.desc).map (fun d => d.parameters.length) = some 2 := by decide +kernel
theorem hd_X9_where : yX9_where.cls = RX9 ∧ yX9_where.cls ≠ "java/lang/invoke/MethodHandle" ∧ yX9_where.cls ≠ "java/lang/invoke/VarHandle" ∧ (parseMethodDescriptor yX9_where.desc).map (fun d => d.parameters.length) = some 2 := by decide +kernel
theorem hd_X8_same : yX8_same.cls = RX8 ∧ yX8_same.cls ≠ "java/lang/invoke/MethodHandle" ∧ yX8_same.cls ≠ "java/lang/invoke/VarHandle" ∧ (parseMethodDescriptor yX8_same.desc).map (fun d => d.parameters.length) = some 1 := by decide +kernel
theorem hd_X9_same : yX9_same.cls = RX9 ∧ yX9_same.cls ≠ "java/lang/invoke/MethodHandle" ∧ yX9_same.cls ≠ "java/lang/invoke/VarHandle" ∧ (parseMethodDescriptor yX9_same.desc).map (fun d => d.parameters.length) = some 1 := by decide +kernel
theorem hd_X8_good : yX8_good.cls = RX8 ∧ yX8_good.cls ≠ "java/lang/invoke/MethodHandle" ∧ yX8_good.cls ≠ "java/lang/invoke/VarHandle" ∧ (parseMethodDescriptor yX8_good.desc).map (fun d => d.parameters.length) = some 1 := by decide +kernel
theorem hd_X9_good : yX9_good.cls = RX9 ∧ yX9_good.cls ≠ "java/lang/invoke/MethodHandle" ∧ yX9_good.cls ≠ "java/lang/invoke/VarHandle" ∧ (parseMethodDescriptor yX9_good.desc).map (fun d => d.parameters.length) = some 1 := by decide +kernel
theorem hd_X8_music : yX8_music.cls = RX8 ∧ yX8_music.cls ≠ "java/lang/invoke/MethodHandle" ∧ yX8_music.cls ≠ "java/lang/invoke/VarHandle" ∧ (parseMethodDescriptor yX8_music.desc).map (fun d => d.parameters.length) = some 1 := by decide +kernel
theorem hd_X9_music : yX9_music.cls = RX9 ∧ yX9_music.cls ≠ "java/lang/invoke/MethodHandle" ∧ yX9_music.cls ≠ "java/lang/invoke/VarHandle" ∧ (parseMethodDescriptor yX9_music.desc).map (fun d => d.parameters.length) = some 1 := by decide +kernel
theorem hd_X8_least : yX8_least.cls = RX8 ∧ yX8_least.cls ≠ "java/lang/invoke/MethodHandle" ∧ yX8_least.cls ≠ "java/lang/invoke/VarHandle" ∧ (parseMethodDescriptor yX8_least.desc).map (fun d => d.parameters.length) = some 2 := by decide +kernel
theorem hd_X9_least : yX9_least.cls = RX9 ∧ yX9_least.cls ≠ "java/lang/invoke/MethodHandle" ∧ yX9_least.cls ≠ "java/lang/invoke/VarHandle" ∧ (parseMethodDescriptor yX9_least.desc).map (fun d => d.parameters.length) = some 2 := by decide +kernel
theorem hd_X8_still : yX8_still.cls = RX8 ∧ yX8_still.cls ≠ "java/lang/invoke/MethodHandle" ∧ yX8_still.cls ≠ "java/lang/invoke/VarHandle" ∧ (parseMethodDescriptor yX8_still.desc).map (fun d => d.parameters.length) = some 1 := by decide +kernel
theorem hd_X9_still : yX9_still.cls = RX9 ∧ yX9_still.cls ≠ "java/lang/invoke/MethodHandle" ∧ yX9_still.cls ≠ "java/lang/invoke/VarHandle" ∧ (parseMethodDescriptor yX9_still.desc).map (fun d => d.parameters.length) = some 1 := by decide +kernel
theorem hd_X8_ahead : yX8_ahead.cls = RX8 ∧ yX8_ahead.cls ≠ "java/lang/invoke/MethodHandle" ∧ yX8_ahead.cls ≠ "java/lang/invoke/VarHandle" ∧ (parseMethodDescriptor yX8_ahead.desc).map (fun d => d.parameters.length) = some 2 := by decide +kernel
theorem hd_X9_ahead : yX9_ahead.cls = RX9 ∧ yX9_ahead.cls ≠ "java/lang/invoke/MethodHandle" ∧ yX9_ahead.cls ≠ "java/lang/invoke/VarHandle" ∧ (parseMethodDescriptor yX9_ahead.desc).map (fun d => d.parameters.length) = some 2 := by decide +kernel
theorem hd_X8_see : yX8_see.cls = RX8 ∧ yX8_see.cls ≠ "java/lang/invoke/MethodHandle" ∧ yX8_see.cls ≠ "java/lang/invoke/VarHandle" ∧ (parseMethodDescriptor yX8_see.desc).map (fun d => d.parameters.length) = some 3 := by decide +kernel
theorem hd_X9_see : yX9_see.cls = RX9 ∧ yX9_see.cls ≠ "java/lang/invoke/MethodHandle" ∧ yX9_see.cls ≠ "java/lang/invoke/VarHandle" ∧ (parseMethodDescriptor yX9_see.desc).map (fun d => d.parameters.length) = some 3 := by decide +kernel
theorem hd_X8_fits : yX8_fits.cls = RX8 ∧ yX8_fits.cls ≠ "java/lang/invoke/MethodHandle" ∧ yX8_fits.cls ≠ "java/lang/invoke/VarHandle" ∧ (parseMethodDescriptor yX8_fits.desc).map (fun d => d.parameters.length) = some 1 := by decide +kernel
theorem hd_X9_fits : yX9_fits.cls = RX9 ∧ yX9_fits.cls ≠ "java/lang/invoke/MethodHandle" ∧ yX9_fits.cls ≠ "java/lang/invoke/VarHandle" ∧ (parseMethodDescriptor yX9_fits.desc).map (fun d => d.parameters.length) = some 1 := by decide +kernel
theorem hd_X8_odds : yX8_odds.cls = RX8 ∧ yX8_odds.cls ≠ "java/lang/invoke/MethodHandle" ∧ yX8_odds.cls ≠ "java/lang/invoke/VarHandle" ∧ (parseMethodDescriptor yX8_odds.desc).map (fun d => d.parameters.length) = some 3 := by decide +kernel
theorem hd_X9_odds : yX9_odds.cls = RX9 ∧ yX9_odds.cls ≠ "java/lang/invoke/MethodHandle" ∧ yX9_odds.cls ≠ "java/lang/invoke/VarHandle" ∧ (parseMethodDescriptor yX9_odds.desc).map (fun d => d.parameters.length) = some 3 := by decide +kernel
theorem hd_X8_mean : yX8_mean.cls = RX8 ∧ yX8_mean.cls ≠ "java/lang/invoke/MethodHandle" ∧ yX8_mean.cls ≠ "java/lang/invoke/VarHandle" ∧ (parseMethodDescriptor yX8_mean.desc).map (fun d => d.parameters.length) = some 1 := by decide +kernel
theorem hd_X9_mean : yX9_mean.cls = RX9 ∧ yX9_mean.cls ≠ "java/lang/invoke/MethodHandle" ∧ yX9_mean.cls ≠ "java/lang/invoke/VarHandle" ∧ (parseMethodDescriptor yX9_mean.desc).map (fun d => d.parameters.length) = some 1 := by decide +kernel
theorem hd_X8_event : yX8_event.cls = RX8 ∧ yX8_event.cls ≠ "java/lang/invoke/MethodHandle" ∧ yX8_event.cls ≠ "java/lang/invoke/VarHandle" ∧ (parseMethodDescriptor yX8_event.desc).map (fun d => d.parameters.length) = some 2 := by decide +kernel
theorem hd_X9_event : yX9_event.cls = RX9 ∧ yX9_event.cls ≠ "java/lang/invoke/MethodHandle" ∧ yX9_event.cls ≠ "java/lang/invoke/VarHandle" ∧ (parseMethodDescriptor yX9_event.desc).map (fun d => d.parameters.length) = some 2 := by decide +kernel
theorem hd_X8_after : yX8_after.cls = RX8 ∧ yX8_after.cls ≠ "java/lang/invoke/MethodHandle" ∧ yX8_after.cls ≠ "java/lang/invoke/VarHandle" ∧ (parseMethodDescriptor yX8_after.desc).map (fun d => d.parameters.length) = some 1 := by decide +kernel
theorem hd_X9_after : yX9_after.cls = RX9 ∧ yX9_after.cls ≠ "java/lang/invoke/MethodHandle" ∧ yX9_after.cls ≠ "java/lang/invoke/VarHandle" ∧ (parseMethodDescriptor yX9_after.desc).map (fun d => d.parameters.length) = some 1 := by decide +kernel
theorem hd_X8_book : yX8_book.cls = RX8 ∧ yX8_book.cls ≠ "java/lang/invoke/MethodHandle" ∧ yX8_book.cls ≠ "java/lang/invoke/VarHandle" ∧ (parseMethodDescriptor yX8_book.desc).map (fun d => d.parameters.length) = some 2 := by decide +kernel
theorem hd_X9_book : yX9_book.cls = RX9 ∧ yX9_book.cls ≠ "java/lang/invoke/MethodHandle" ∧ yX9_book.cls ≠ "java/lang/invoke/VarHandle" ∧ (parseMethodDescriptor yX9_book.desc).map (fun d => d.parameters.length) = some 2 := by decide +kernel
theorem hd_X8_looked : yX8_looked.cls = RX8 ∧ yX8_looked.cls ≠ "java/lang/invoke/MethodHandle" ∧ yX8_looked.cls ≠ "java/lang/invoke/VarHandle" ∧ (parseMethodDescriptor yX8_looked.desc).map (fun d => d.parameters.length) = some 0 := by decide +kernel
theorem hd_X9_looked : yX9_looked.cls = RX9 ∧ yX9_looked.cls ≠ "java/lang/invoke/MethodHandle" ∧ yX9_looked.cls ≠ "java/lang/invoke/VarHandle" ∧ (parseMethodDescriptor yX9_looked.desc).map (fun d => d.parameters.length) = some 0 := by decide +kernel
theorem hd_X8_judge : yX8_judge.cls = RX8 ∧ yX8_judge.cls ≠ "java/lang/invoke/MethodHandle" ∧ yX8_judge.cls ≠ "java/lang/invoke/VarHandle" ∧ (parseMethodDescriptor yX8_judge.desc).map (fun d => d.parameters.length) = some 3 := by decide +kernel
theorem hd_X9_judge : yX9_judge.cls = RX9 ∧ yX9_judge.cls ≠ "java/lang/invoke/MethodHandle" ∧ yX9_judge.cls ≠ "java/lang/invoke/VarHandle" ∧ (parseMethodDescriptor yX9_judge.desc).map (fun d => d.parameters.length) = some 3 := by decide +kernel
theorem hd_X8_image : yX8_image.cls = RX8 ∧ yX8_image.cls ≠ "java/lang/invoke/MethodHandle" ∧ yX8_image.cls ≠ "java/lang/invoke/VarHandle" ∧ (parseMethodDescriptor yX8_image.desc).map (fun d => d.parameters.length) = some 0 := by decide +kernel
theorem hd_X9_image : yX9_image.cls = RX9 ∧ yX9_image.cls ≠ "java/lang/invoke/MethodHandle" ∧ yX9_image.cls ≠ "java/lang/invoke/VarHandle" ∧ (parseMethodDescriptor yX9_image.desc).map (fun d => d.parameters.length) = some 0 := by decide +kernel
theorem hd_X8_undo : yX8_undo.cls = RX8 ∧ yX8_undo.cls ≠ "java/lang/invoke/MethodHandle" ∧ yX8_undo.cls ≠ "java/lang/invoke/VarHandle" ∧ (parseMethodDescriptor yX8_undo.desc).map (fun d => d.parameters.length) = some 0 := by decide +kernel
theorem hd_X9_undo : yX9_undo.cls = RX9 ∧ yX9_undo.cls ≠ "java/lang/invoke/MethodHandle" ∧ yX9_undo.cls ≠ "java/lang/invoke/VarHandle" ∧ (parseMethodDescriptor yX9_undo.desc).map (fun d => d.parameters.length) = some 0 := by decide +kernel
theorem hd_X8_count : yX8_count.cls = RX8 ∧ yX8_count.cls ≠ "java/lang/invoke/MethodHandle" ∧ yX8_count.cls ≠ "java/lang/invoke/VarHandle" ∧ (parseMethodDescriptor yX8_count.desc).map (fun d => d.parameters.length) = some 1 := by decide +kernel
theorem hd_X9_count : yX9_count.cls = RX9 ∧ yX9_count.cls ≠ "java/lang/invoke/MethodHandle" ∧ yX9_count.cls ≠ "java/lang/invoke/VarHandle" ∧ (parseMethodDescriptor yX9_count.desc).map (fun d => d.parameters.length) = some 1 := by decide +kernel
theorem hd_X8_tape : yX8_tape.cls = RX8 ∧ yX8_tape.cls ≠ "java/lang/invoke/MethodHandle" ∧ yX8_tape.cls ≠ "java/lang/invoke/VarHandle" ∧ (parseMethodDescriptor yX8_tape.desc).map (fun d => d.parameters.length) = some 3 := by decide +kernel
theorem hd_X9_tape : yX9_tape.cls = RX9 ∧ yX9_tape.cls ≠ "java/lang/invoke/MethodHandle" ∧ yX9_tape.cls ≠ "java/lang/invoke/VarHandle" ∧ (parseMethodDescriptor yX9_tape.desc).map (fun d => d.parameters.length) = some 3 := by decide +kernel
theorem hd_X8_item : yX8_item.cls = RX8 ∧ yX8_item.cls ≠ "java/lang/invoke/MethodHandle" ∧ yX8_item.cls ≠ "java/lang/invoke/VarHandle" ∧ (parseMethodDescriptor yX8_item.desc).map (fun d => d.parameters.length) = some 3 := by decide +kernel
theorem hd_X9_item : yX9_item.cls = RX9 ∧ yX9_item.cls ≠ "java/lang/invoke/MethodHandle" ∧ yX9_item.cls ≠ "java/lang/invoke/VarHandle" ∧ (parseMethodDescriptor yX9_item.desc).map (fun d => d.parameters.length) = some 3 := by decide +kernel
theorem hd_X8_peek : yX8_peek.cls = RX8 ∧ yX8_peek.cls ≠ "java/lang/invoke/MethodHandle" ∧ yX8_peek.cls ≠ "java/lang/invoke/VarHandle" ∧ (parseMethodDescriptor yX8_peek.desc).map (fun d => d.parameters.length) = some 2 := by decide +kernel
theorem hd_X9_peek : yX9_peek.cls = RX9 ∧ yX9_peek.cls ≠ "java/lang/invoke/MethodHandle" ∧ yX9_peek.cls ≠ "java/lang/invoke/VarHandle" ∧ (parseMethodDescriptor yX9_peek.desc).map (fun d => d.parameters.length) = some 2 := by decide +kernel
theorem hd_X8_shift : yX8_shift.cls = RX8 ∧ yX8_shift.cls ≠ "java/lang/invoke/MethodHandle" ∧ yX8_shift.cls ≠ "java/lang/invoke/VarHandle" ∧ (parseMethodDescriptor yX8_shift.desc).map (fun d => d.parameters.length) = some 5 := by decide +kernel
theorem hd_X9_shift : yX9_shift.cls = RX9 ∧ yX9_shift.cls ≠ "java/lang/invoke/MethodHandle" ∧ yX9_shift.cls ≠ "java/lang/invoke/VarHandle" ∧ (parseMethodDescriptor yX9_shift.desc).map (fun d => d.parameters.length) = some 5 := by decide +kernel
theorem lcp_eq {a b : Int} (h : a = b) : lcp a b = 0 := by simp [lcp, h]
theorem lcp_rg (a b : Int) : rg (lcp a b) := by unfold lcp; split <;> (try split) <;> decide
theorem bnd63 (a : Int) : rg (bnd a 63) := ⟨Int32.le_toInt _, Int32.toInt_lt _⟩
def wp_law_c0 (xs : Nat → Int32) (k : Int → St → St → Prop) (i : Int) (σ τ : St) : Prop := wp_X8_bells σ (sc xs (i + 1)) (fun r1 σ1 => wp_X9_bells τ (sc xs (i + 1)) (fun r2 τ1 => rg r1 ∧ rg r2 ∧ r1 = r2 ∧ k (i + 6) σ1 τ1))
def wp_law_c1 (xs : Nat → Int32) (k : Int → St → St → Prop) (i : Int) (σ τ : St) : Prop := wp_X8_change σ (sc xs (i + 1)) (fun r1 σ1 => wp_X9_change τ (sc xs (i + 1)) (fun r2 τ1 => rg r1 ∧ rg r2 ∧ r1 = r2 ∧ k (i + 6) σ1 τ1))
def wp_law_c2 (xs : Nat → Int32) (k : Int → St → St → Prop) (i : Int) (σ τ : St) : Prop := wp_X8_calls σ (sc xs (i + 1)) (sc xs (i + 2)) (fun r1 σ1 => wp_X9_calls τ (sc xs (i + 1)) (sc xs (i + 2)) (fun r2 τ1 => rg r1 ∧ rg r2 ∧ r1 = r2 ∧ k (i + 6) σ1 τ1))
def wp_law_c3 (xs : Nat → Int32) (k : Int → St → St → Prop) (i : Int) (σ τ : St) : Prop := wp_X8_call σ (sc xs (i + 1)) (sc xs (i + 2)) (fun r1 σ1 => wp_X9_call τ (sc xs (i + 1)) (sc xs (i + 2)) (fun r2 τ1 => rg r1 ∧ rg r2 ∧ r1 = r2 ∧ k (i + 6) σ1 τ1))
def wp_law_c4 (xs : Nat → Int32) (k : Int → St → St → Prop) (i : Int) (σ τ : St) : Prop := wp_X8_leads σ (sc xs (i + 1)) (fun r1 σ1 => wp_X9_leads τ (sc xs (i + 1)) (fun r2 τ1 => rg r1 ∧ rg r2 ∧ r1 = r2 ∧ k (i + 6) σ1 τ1))
def wp_law_c5 (xs : Nat → Int32) (k : Int → St → St → Prop) (i : Int) (σ τ : St) : Prop := wp_X8_pattern σ (sc xs (i + 1)) (sc xs (i + 2)) (fun r1 σ1 => wp_X9_pattern τ (sc xs (i + 1)) (sc xs (i + 2)) (fun r2 τ1 => rg r1 ∧ rg r2 ∧ r1 = r2 ∧ k (i + 6) σ1 τ1))
def wp_law_c6 (xs : Nat → Int32) (k : Int → St → St → Prop) (i : Int) (σ τ : St) : Prop := wp_X8_feed σ (sc xs (i + 1)) (fun r1 σ1 => wp_X9_feed τ (sc xs (i + 1)) (fun r2 τ1 => rg r1 ∧ rg r2 ∧ r1 = r2 ∧ k (i + 6) σ1 τ1))
def wp_law_c7 (xs : Nat → Int32) (k : Int → St → St → Prop) (i : Int) (σ τ : St) : Prop := wp_X8_read σ (fun r1 σ1 => wp_X9_read τ (fun r2 τ1 => rg r1 ∧ rg r2 ∧ r1 = r2 ∧ k (i + 6) σ1 τ1))
def wp_law_c8 (xs : Nat → Int32) (k : Int → St → St → Prop) (i : Int) (σ τ : St) : Prop := wp_X8_of σ (sc xs (i + 1)) (sc xs (i + 2)) (fun r1 => wp_X9_of τ (sc xs (i + 1)) (sc xs (i + 2)) (fun r2 => rg r1 ∧ rg r2 ∧ r1 = r2 ∧ k (i + 6) σ τ))
def wp_law_c9 (xs : Nat → Int32) (k : Int → St → St → Prop) (i : Int) (σ τ : St) : Prop := wp_X8_told σ (sc xs (i + 1)) (fun r1 σ1 => wp_X9_told τ (sc xs (i + 1)) (fun r2 τ1 => rg r1 ∧ rg r2 ∧ r1 = r2 ∧ k (i + 6) σ1 τ1))
def wp_law_c10 (xs : Nat → Int32) (k : Int → St → St → Prop) (i : Int) (σ τ : St) : Prop := wp_X8_at σ (sc xs (i + 1)) (sc xs (i + 2)) (fun r1 σ1 => wp_X9_at τ (sc xs (i + 1)) (sc xs (i + 2)) (fun r2 τ1 => rg r1 ∧ rg r2 ∧ r1 = r2 ∧ k (i + 6) σ1 τ1))
def wp_law_c11 (xs : Nat → Int32) (k : Int → St → St → Prop) (i : Int) (σ τ : St) : Prop := wp_X8_where σ (sc xs (i + 1)) (sc xs (i + 2)) (fun r1 σ1 => wp_X9_where τ (sc xs (i + 1)) (sc xs (i + 2)) (fun r2 τ1 => rg r1 ∧ rg r2 ∧ r1 = r2 ∧ k (i + 6) σ1 τ1))
def wp_law_c12 (xs : Nat → Int32) (k : Int → St → St → Prop) (i : Int) (σ τ : St) : Prop := wp_X8_same σ (sc xs (i + 1)) (fun r1 σ1 => wp_X9_same τ (sc xs (i + 1)) (fun r2 τ1 => rg r1 ∧ rg r2 ∧ r1 = r2 ∧ k (i + 6) σ1 τ1))
def wp_law_c13 (xs : Nat → Int32) (k : Int → St → St → Prop) (i : Int) (σ τ : St) : Prop := wp_X8_good σ (sc xs (i + 1)) (fun r1 => wp_X9_good τ (sc xs (i + 1)) (fun r2 => rg r1 ∧ rg r2 ∧ r1 = r2 ∧ k (i + 6) σ τ))
def wp_law_c14 (xs : Nat → Int32) (k : Int → St → St → Prop) (i : Int) (σ τ : St) : Prop := wp_X8_music σ (sc xs (i + 1)) (fun r1 σ1 => wp_X9_music τ (sc xs (i + 1)) (fun r2 τ1 => rg r1 ∧ rg r2 ∧ r1 = r2 ∧ k (i + 6) σ1 τ1))
def wp_law_c15 (xs : Nat → Int32) (k : Int → St → St → Prop) (i : Int) (σ τ : St) : Prop := wp_X8_least σ (sc xs (i + 1)) (sc xs (i + 2)) (fun r1 σ1 => wp_X9_least τ (sc xs (i + 1)) (sc xs (i + 2)) (fun r2 τ1 => rg r1 ∧ rg r2 ∧ r1 = r2 ∧ k (i + 6) σ1 τ1))
def wp_law_c16 (xs : Nat → Int32) (k : Int → St → St → Prop) (i : Int) (σ τ : St) : Prop := wp_X8_still σ (sc xs (i + 1)) (fun r1 σ1 => wp_X9_still τ (sc xs (i + 1)) (fun r2 τ1 => rg r1 ∧ rg r2 ∧ r1 = r2 ∧ k (i + 6) σ1 τ1))
def wp_law_c17 (xs : Nat → Int32) (k : Int → St → St → Prop) (i : Int) (σ τ : St) : Prop := wp_X8_ahead σ (sc xs (i + 1)) (sc xs (i + 2)) (fun r1 σ1 => wp_X9_ahead τ (sc xs (i + 1)) (sc xs (i + 2)) (fun r2 τ1 => rg r1 ∧ rg r2 ∧ r1 = r2 ∧ k (i + 6) σ1 τ1))
def wp_law_c18 (xs : Nat → Int32) (k : Int → St → St → Prop) (i : Int) (σ τ : St) : Prop := wp_X8_see σ (sc xs (i + 1)) (sc xs (i + 2)) (sc xs (i + 3)) (fun r1 σ1 => wp_X9_see τ (sc xs (i + 1)) (sc xs (i + 2)) (sc xs (i + 3)) (fun r2 τ1 => rg r1 ∧ rg r2 ∧ r1 = r2 ∧ k (i + 6) σ1 τ1))
def wp_law_c19 (xs : Nat → Int32) (k : Int → St → St → Prop) (i : Int) (σ τ : St) : Prop := wp_X8_fits σ (sc xs (i + 1)) (fun r1 σ1 => wp_X9_fits τ (sc xs (i + 1)) (fun r2 τ1 => rg r1 ∧ rg r2 ∧ r1 = r2 ∧ k (i + 6) σ1 τ1))
def wp_law_c20 (xs : Nat → Int32) (k : Int → St → St → Prop) (i : Int) (σ τ : St) : Prop := wp_X8_odds σ (sc xs (i + 1)) (sc xs (i + 2)) (sc xs (i + 3)) (fun r1 σ1 => wp_X9_odds τ (sc xs (i + 1)) (sc xs (i + 2)) (sc xs (i + 3)) (fun r2 τ1 => rl r1 ∧ rl r2 ∧ r1 = r2 ∧ k (i + 6) σ1 τ1))
def wp_law_c21 (xs : Nat → Int32) (k : Int → St → St → Prop) (i : Int) (σ τ : St) : Prop := wp_X8_mean σ (sc xs (i + 1)) (fun r1 σ1 => wp_X9_mean τ (sc xs (i + 1)) (fun r2 τ1 => rl r1 ∧ rl r2 ∧ r1 = r2 ∧ k (i + 6) σ1 τ1))
def wp_law_c22 (xs : Nat → Int32) (k : Int → St → St → Prop) (i : Int) (σ τ : St) : Prop := wp_X8_event σ (sc xs (i + 1)) (sc xs (i + 2)) (fun r1 σ1 => wp_X9_event τ (sc xs (i + 1)) (sc xs (i + 2)) (fun r2 τ1 => rg r1 ∧ rg r2 ∧ r1 = r2 ∧ k (i + 6) σ1 τ1))
def wp_law_c23 (xs : Nat → Int32) (k : Int → St → St → Prop) (i : Int) (σ τ : St) : Prop := wp_X8_after σ (sc xs (i + 1)) (fun r1 σ1 => wp_X9_after τ (sc xs (i + 1)) (fun r2 τ1 => rg r1 ∧ rg r2 ∧ r1 = r2 ∧ k (i + 6) σ1 τ1))
def wp_law_c24 (xs : Nat → Int32) (k : Int → St → St → Prop) (i : Int) (σ τ : St) : Prop := wp_X8_book σ (sc xs (i + 1)) (sc xs (i + 2)) (fun r1 σ1 => wp_X9_book τ (sc xs (i + 1)) (sc xs (i + 2)) (fun r2 τ1 => rg r1 ∧ rg r2 ∧ r1 = r2 ∧ k (i + 6) σ1 τ1))
def wp_law_c25 (xs : Nat → Int32) (k : Int → St → St → Prop) (i : Int) (σ τ : St) : Prop := wp_X8_looked σ (fun r1 σ1 => wp_X9_looked τ (fun r2 τ1 => rg r1 ∧ rg r2 ∧ r1 = r2 ∧ k (i + 6) σ1 τ1))
def wp_law_c26 (xs : Nat → Int32) (k : Int → St → St → Prop) (i : Int) (σ τ : St) : Prop := wp_X8_judge σ (sc xs (i + 1)) (sc xs (i + 2)) (sc xs (i + 3)) (fun r1 σ1 => wp_X9_judge τ (sc xs (i + 1)) (sc xs (i + 2)) (sc xs (i + 3)) (fun r2 τ1 => rg r1 ∧ rg r2 ∧ r1 = r2 ∧ k (i + 6) σ1 τ1))
def wp_law_c27 (xs : Nat → Int32) (k : Int → St → St → Prop) (i : Int) (σ τ : St) : Prop := wp_X8_image σ (fun r1 σ1 => wp_X9_image τ (fun r2 τ1 => rg r1 ∧ rg r2 ∧ r1 = r2 ∧ k (i + 6) σ1 τ1))
def wp_law_c28 (xs : Nat → Int32) (k : Int → St → St → Prop) (i : Int) (σ τ : St) : Prop := wp_X8_undo σ (fun r1 σ1 => wp_X9_undo τ (fun r2 τ1 => rg r1 ∧ rg r2 ∧ r1 = r2 ∧ k (i + 6) σ1 τ1))
def wp_law_c29 (xs : Nat → Int32) (k : Int → St → St → Prop) (i : Int) (σ τ : St) : Prop := wp_X8_count σ (sc xs (i + 1)) (fun r1 => wp_X9_count τ (sc xs (i + 1)) (fun r2 => rg r1 ∧ rg r2 ∧ r1 = r2 ∧ k (i + 6) σ τ))
def wp_law_c30 (xs : Nat → Int32) (k : Int → St → St → Prop) (i : Int) (σ τ : St) : Prop := wp_X8_tape σ (sc xs (i + 1)) (sc xs (i + 2)) (sc xs (i + 3)) (fun r1 σ1 => wp_X9_tape τ (sc xs (i + 1)) (sc xs (i + 2)) (sc xs (i + 3)) (fun r2 τ1 => rg r1 ∧ rg r2 ∧ r1 = r2 ∧ k (i + 6) σ1 τ1))
def wp_law_c31 (xs : Nat → Int32) (k : Int → St → St → Prop) (i : Int) (σ τ : St) : Prop := wq_X8_item σ (sc xs (i + 1)) (sc xs (i + 2)) (lor (lsl (sc xs (i + 3)) 32) (lnd (sc xs (i + 4)) 4294967295)) (fun r1 σ1 => wq_X9_item τ (sc xs (i + 1)) (sc xs (i + 2)) (lor (lsl (sc xs (i + 3)) 32) (lnd (sc xs (i + 4)) 4294967295)) (fun r2 τ1 => rg r1 ∧ rg r2 ∧ r1 = r2 ∧ k (i + 6) σ1 τ1))
def wp_law_c32 (xs : Nat → Int32) (k : Int → St → St → Prop) (i : Int) (σ τ : St) : Prop := wp_X8_peek σ (sc xs (i + 1)) (sc xs (i + 2)) (fun r1 => wp_X9_peek τ (sc xs (i + 1)) (sc xs (i + 2)) (fun r2 => rl r1 ∧ rl r2 ∧ r1 = r2 ∧ k (i + 6) σ τ))
def wp_law_c33 (xs : Nat → Int32) (k : Int → St → St → Prop) (i : Int) (σ τ : St) : Prop := wp_X8_shift σ (sc xs (i + 1)) (sc xs (i + 2)) (sc xs (i + 3)) (sc xs (i + 4)) (sc xs (i + 5)) (fun r1 σ1 => wp_X9_shift τ (sc xs (i + 1)) (sc xs (i + 2)) (sc xs (i + 3)) (sc xs (i + 4)) (sc xs (i + 5)) (fun r2 τ1 => rg r1 ∧ rg r2 ∧ r1 = r2 ∧ k (i + 6) σ1 τ1))
def wp_law (L : Int) (xs : Nat → Int32) : Nat → Int → St → St → Prop
  | 0, _, _, _ => False
  | fu + 1, i, σ, τ => rg i ∧ (¬ (L - 6 < i) → 0 ≤ i ∧ (bnd (sc xs i) 63 = 0 → wp_law_c0 xs (wp_law L xs fu) i σ τ) ∧ (bnd (sc xs i) 63 = 1 → wp_law_c1 xs (wp_law L xs fu) i σ τ) ∧ (bnd (sc xs i) 63 = 2 → wp_law_c2 xs (wp_law L xs fu) i σ τ) ∧ (bnd (sc xs i) 63 = 3 → wp_law_c3 xs (wp_law L xs fu) i σ τ) ∧ (bnd (sc xs i) 63 = 4 → wp_law_c4 xs (wp_law L xs fu) i σ τ) ∧ (bnd (sc xs i) 63 = 5 → wp_law_c5 xs (wp_law L xs fu) i σ τ) ∧ (bnd (sc xs i) 63 = 6 → wp_law_c6 xs (wp_law L xs fu) i σ τ) ∧ (bnd (sc xs i) 63 = 7 → wp_law_c7 xs (wp_law L xs fu) i σ τ) ∧ (bnd (sc xs i) 63 = 8 → wp_law_c8 xs (wp_law L xs fu) i σ τ) ∧ (bnd (sc xs i) 63 = 9 → wp_law_c9 xs (wp_law L xs fu) i σ τ) ∧ (bnd (sc xs i) 63 = 10 → wp_law_c10 xs (wp_law L xs fu) i σ τ) ∧ (bnd (sc xs i) 63 = 11 → wp_law_c11 xs (wp_law L xs fu) i σ τ) ∧ (bnd (sc xs i) 63 = 12 → wp_law_c12 xs (wp_law L xs fu) i σ τ) ∧ (bnd (sc xs i) 63 = 13 → wp_law_c13 xs (wp_law L xs fu) i σ τ) ∧ (bnd (sc xs i) 63 = 14 → wp_law_c14 xs (wp_law L xs fu) i σ τ) ∧ (bnd (sc xs i) 63 = 15 → wp_law_c15 xs (wp_law L xs fu) i σ τ) ∧ (bnd (sc xs i) 63 = 16 → wp_law_c16 xs (wp_law L xs fu) i σ τ) ∧ (bnd (sc xs i) 63 = 17 → wp_law_c17 xs (wp_law L xs fu) i σ τ) ∧ (bnd (sc xs i) 63 = 18 → wp_law_c18 xs (wp_law L xs fu) i σ τ) ∧ (bnd (sc xs i) 63 = 19 → wp_law_c19 xs (wp_law L xs fu) i σ τ) ∧ (bnd (sc xs i) 63 = 20 → wp_law_c20 xs (wp_law L xs fu) i σ τ) ∧ (bnd (sc xs i) 63 = 21 → wp_law_c21 xs (wp_law L xs fu) i σ τ) ∧ (bnd (sc xs i) 63 = 22 → wp_law_c22 xs (wp_law L xs fu) i σ τ) ∧ (bnd (sc xs i) 63 = 23 → wp_law_c23 xs (wp_law L xs fu) i σ τ) ∧ (bnd (sc xs i) 63 = 24 → wp_law_c24 xs (wp_law L xs fu) i σ τ) ∧ (bnd (sc xs i) 63 = 25 → wp_law_c25 xs (wp_law L xs fu) i σ τ) ∧ (bnd (sc xs i) 63 = 26 → wp_law_c26 xs (wp_law L xs fu) i σ τ) ∧ (bnd (sc xs i) 63 = 27 → wp_law_c27 xs (wp_law L xs fu) i σ τ) ∧ (bnd (sc xs i) 63 = 28 → wp_law_c28 xs (wp_law L xs fu) i σ τ) ∧ (bnd (sc xs i) 63 = 29 → wp_law_c29 xs (wp_law L xs fu) i σ τ) ∧ (bnd (sc xs i) 63 = 30 → wp_law_c30 xs (wp_law L xs fu) i σ τ) ∧ (bnd (sc xs i) 63 = 31 → wp_law_c31 xs (wp_law L xs fu) i σ τ) ∧ (bnd (sc xs i) 63 = 32 → wp_law_c32 xs (wp_law L xs fu) i σ τ) ∧ (bnd (sc xs i) 63 = 33 → wp_law_c33 xs (wp_law L xs fu) i σ τ) ∧ (¬ (0 ≤ bnd (sc xs i) 63 ∧ bnd (sc xs i) 63 ≤ 33) → wp_law L xs fu (i + 6) σ τ))
section
variable {p : Program} {l : Launch} {e : Env} {s : State} {m : MethodId} {below : List Frame} {meth : Method} {c : Code} {Q : State → Prop} {D : va_G} {cA : FieldType → ClassId} {hx hm2 : Nat → Nat} {b L : Nat} {xs : Nat → Int32}
theorem law_t (C : cx p s m #[Value.ref b] meth c lw_tbl RL cL_law 4 ret D cA) {i : Int} {σ τ : St} {H : Heap} {locs : List Loc} {ls : Array Slot} (hw : wd2 D cA K_BT hx σ K_M hm2 τ (fun q => s.heap.size ≤ q) s.heap H locs) (hl : lh ls 4 [some (.ref b), some (.ref (hx 0)), some (.ref (hm2 0)), some (iv i)]) (k : ∀ {H : Heap} {locs : List Loc} {ls : Array Slot}, wd2 D cA K_BT hx σ K_M hm2 τ (fun q => s.heap.size ≤ q) s.heap H locs → lh ls 4 [some (.ref b), some (.ref (hx 0)), some (.ref (hm2 0)), some (iv (i + 6))] → W p l e room_1 s m #[Value.ref b] below meth c H locs 600000 7302250 Q (F0 m 18 ls [])) : W p l e room_1 s m #[Value.ref b] below meth c H locs 600000 7302250 Q (F0 m 1209 ls []) := by
  refine r_iinc C dL_law_1209 hl rfl (Nat.le_of_ble_eq_true rfl) rfl (fun ls hl => ?_)
  refine r_goto C (tgt := 18) dL_law_1212 rfl ?_
  exact k hw hl
set_option maxRecDepth 100000 in
theorem law_c0 (C : cx p s m #[Value.ref b] meth c lw_tbl RL cL_law 4 ret D cA) (hX : va_X b L xs s s.heap) (hbl : b < s.heap.size) (hL : L ≤ 3072) {k : Int → St → St → Prop} (ih : ∀ {i : Int} {σ τ : St}, k i σ τ → ∀ {H : Heap} {locs : List Loc} {ls : Array Slot}, wd2 D cA K_BT hx σ K_M hm2 τ (fun q => s.heap.size ≤ q) s.heap H locs → lh ls 4 [some (.ref b), some (.ref (hx 0)), some (.ref (hm2 0)), some (iv i)] → W p l e room_1 s m #[Value.ref b] below meth c H locs 600000 7302250 Q (F0 m 18 ls [])) {i : Int} (h0 : 0 ≤ i) (hi : ¬ ((L : Int) - 6 < i)) {σ τ : St} {H : Heap} {locs : List Loc} {ls : Array Slot} (hwp : wp_law_c0 xs k i σ τ) (hw : wd2 D cA K_BT hx σ K_M hm2 τ (fun q => s.heap.size ≤ q) s.heap H locs) (hl : lh ls 4 [some (.ref b), some (.ref (hx 0)), some (.ref (hm2 0)), some (iv i)]) : W p l e room_1 s m #[Value.ref b] below meth c H locs 600000 7302250 Q (F0 m 184 ls []) := by
  have hA : ∀ q : Nat, s.heap.size ≤ q → (fun q : Nat => s.heap.size ≤ q) q := fun _ h => h
  have hbA : ¬ (fun q : Nat => s.heap.size ≤ q) b := Nat.not_le.mpr hbl
  refine r_aload_n C dL_law_184 hl rfl ?_
  refine r_aload_n C dL_law_185 hl rfl ?_
  refine r_iload_n C dL_law_186 hl rfl ?_
  refine r_const C dL_law_187 ?_
  refine r_iadd C dL_law_188 ?_
  refine r_sld C hX hbl hbA hw.2.2 hL (by omega) (by omega) dL_law_189 ?_
  refine r2_1I hA hw (run_v0 C (wd2_1 hw) clX8 rfl (c_X8_bells hwp) (cwV 1 C.2.2.2.2.1 gL_law_X8_bells rfl rfl rfl hd_X8_bells ⟨(Nat.le_of_ble_eq_true rfl), (Nat.le_of_ble_eq_true rfl)⟩) rfl rfl rfl hl dL_law_190 ⟨Nat.le_refl _, Nat.le_refl _⟩) (fun r1 σ1 H locs hwp hw9 => ?_)
  have hw := hw9
  clear hw9
  refine r_aload_n C dL_law_193 hl rfl ?_
  refine r_aload_n C dL_law_194 hl rfl ?_
  refine r_iload_n C dL_law_195 hl rfl ?_
  refine r_const C dL_law_196 ?_
  refine r_iadd C dL_law_197 ?_
  refine r_sld C hX hbl hbA hw.2.2 hL (by omega) (by omega) dL_law_198 ?_
  refine r2_2I hA hw (run_v0 C (wd2_2 hw) clX9 rfl (c_X9_bells hwp) (cwV 1 C.2.2.2.2.1 gL_law_X9_bells rfl rfl rfl hd_X9_bells ⟨(Nat.le_of_ble_eq_true rfl), (Nat.le_of_ble_eq_true rfl)⟩) rfl rfl rfl hl dL_law_199 ⟨Nat.le_refl _, Nat.le_refl _⟩) (fun r2 σ2 H locs hwp hw9 => ?_)
  have hw := hw9
  clear hw9
  obtain ⟨ra, rb, e9, hwp⟩ := hwp
  refine r_icmp_eq C (tgt := 1209) dL_law_202 rfl ra rb (fun hc => ?_) (fun hc => absurd e9 hc)
  exact law_t C hw hl (ih hwp)
set_option maxRecDepth 100000 in
theorem law_c1 (C : cx p s m #[Value.ref b] meth c lw_tbl RL cL_law 4 ret D cA) (hX : va_X b L xs s s.heap) (hbl : b < s.heap.size) (hL : L ≤ 3072) {k : Int → St → St → Prop} (ih : ∀ {i : Int} {σ τ : St}, k i σ τ → ∀ {H : Heap} {locs : List Loc} {ls : Array Slot}, wd2 D cA K_BT hx σ K_M hm2 τ (fun q => s.heap.size ≤ q) s.heap H locs → lh ls 4 [some (.ref b), some (.ref (hx 0)), some (.ref (hm2 0)), some (iv i)] → W p l e room_1 s m #[Value.ref b] below meth c H locs 600000 7302250 Q (F0 m 18 ls [])) {i : Int} (h0 : 0 ≤ i) (hi : ¬ ((L : Int) - 6 < i)) {σ τ : St} {H : Heap} {locs : List Loc} {ls : Array Slot} (hwp : wp_law_c1 xs k i σ τ) (hw : wd2 D cA K_BT hx σ K_M hm2 τ (fun q => s.heap.size ≤ q) s.heap H locs) (hl : lh ls 4 [some (.ref b), some (.ref (hx 0)), some (.ref (hm2 0)), some (iv i)]) : W p l e room_1 s m #[Value.ref b] below meth c H locs 600000 7302250 Q (F0 m 207 ls []) := by
  have hA : ∀ q : Nat, s.heap.size ≤ q → (fun q : Nat => s.heap.size ≤ q) q := fun _ h => h
  have hbA : ¬ (fun q : Nat => s.heap.size ≤ q) b := Nat.not_le.mpr hbl
  refine r_aload_n C dL_law_207 hl rfl ?_
  refine r_aload_n C dL_law_208 hl rfl ?_
  refine r_iload_n C dL_law_209 hl rfl ?_
  refine r_const C dL_law_210 ?_
  refine r_iadd C dL_law_211 ?_
  refine r_sld C hX hbl hbA hw.2.2 hL (by omega) (by omega) dL_law_212 ?_
  refine r2_1I hA hw (run_v0 C (wd2_1 hw) clX8 rfl (c_X8_change hwp) (cwV 1 C.2.2.2.2.1 gL_law_X8_change rfl rfl rfl hd_X8_change ⟨(Nat.le_of_ble_eq_true rfl), (Nat.le_of_ble_eq_true rfl)⟩) rfl rfl rfl hl dL_law_213 ⟨Nat.le_refl _, Nat.le_refl _⟩) (fun r1 σ1 H locs hwp hw9 => ?_)
  have hw := hw9
  clear hw9
  refine r_aload_n C dL_law_216 hl rfl ?_
  refine r_aload_n C dL_law_217 hl rfl ?_
  refine r_iload_n C dL_law_218 hl rfl ?_
  refine r_const C dL_law_219 ?_
  refine r_iadd C dL_law_220 ?_
  refine r_sld C hX hbl hbA hw.2.2 hL (by omega) (by omega) dL_law_221 ?_
  refine r2_2I hA hw (run_v0 C (wd2_2 hw) clX9 rfl (c_X9_change hwp) (cwV 1 C.2.2.2.2.1 gL_law_X9_change rfl rfl rfl hd_X9_change ⟨(Nat.le_of_ble_eq_true rfl), (Nat.le_of_ble_eq_true rfl)⟩) rfl rfl rfl hl dL_law_222 ⟨Nat.le_refl _, Nat.le_refl _⟩) (fun r2 σ2 H locs hwp hw9 => ?_)
  have hw := hw9
  clear hw9
  obtain ⟨ra, rb, e9, hwp⟩ := hwp
  refine r_icmp_eq C (tgt := 1209) dL_law_225 rfl ra rb (fun hc => ?_) (fun hc => absurd e9 hc)
  exact law_t C hw hl (ih hwp)
set_option maxRecDepth 100000 in
theorem law_c2 (C : cx p s m #[Value.ref b] meth c lw_tbl RL cL_law 4 ret D cA) (hX : va_X b L xs s s.heap) (hbl : b < s.heap.size) (hL : L ≤ 3072) {k : Int → St → St → Prop} (ih : ∀ {i : Int} {σ τ : St}, k i σ τ → ∀ {H : Heap} {locs : List Loc} {ls : Array Slot}, wd2 D cA K_BT hx σ K_M hm2 τ (fun q => s.heap.size ≤ q) s.heap H locs → lh ls 4 [some (.ref b), some (.ref (hx 0)), some (.ref (hm2 0)), some (iv i)] → W p l e room_1 s m #[Value.ref b] below meth c H locs 600000 7302250 Q (F0 m 18 ls [])) {i : Int} (h0 : 0 ≤ i) (hi : ¬ ((L : Int) - 6 < i)) {σ τ : St} {H : Heap} {locs : List Loc} {ls : Array Slot} (hwp : wp_law_c2 xs k i σ τ) (hw : wd2 D cA K_BT hx σ K_M hm2 τ (fun q => s.heap.size ≤ q) s.heap H locs) (hl : lh ls 4 [some (.ref b), some (.ref (hx 0)), some (.ref (hm2 0)), some (iv i)]) : W p l e room_1 s m #[Value.ref b] below meth c H locs 600000 7302250 Q (F0 m 230 ls []) := by
  have hA : ∀ q : Nat, s.heap.size ≤ q → (fun q : Nat => s.heap.size ≤ q) q := fun _ h => h
  have hbA : ¬ (fun q : Nat => s.heap.size ≤ q) b := Nat.not_le.mpr hbl
  refine r_aload_n C dL_law_230 hl rfl ?_
  refine r_aload_n C dL_law_231 hl rfl ?_
  refine r_iload_n C dL_law_232 hl rfl ?_
  refine r_const C dL_law_233 ?_
  refine r_iadd C dL_law_234 ?_
  refine r_sld C hX hbl hbA hw.2.2 hL (by omega) (by omega) dL_law_235 ?_
  refine r_aload_n C dL_law_236 hl rfl ?_
  refine r_iload_n C dL_law_237 hl rfl ?_
  refine r_const C dL_law_238 ?_
  refine r_iadd C dL_law_239 ?_
  refine r_sld C hX hbl hbA hw.2.2 hL (by omega) (by omega) dL_law_240 ?_
  refine r2_1I hA hw (run_v0 C (wd2_1 hw) clX8 rfl (c_X8_calls hwp) (cwV 2 C.2.2.2.2.1 gL_law_X8_calls rfl rfl rfl hd_X8_calls ⟨(Nat.le_of_ble_eq_true rfl), (Nat.le_of_ble_eq_true rfl)⟩) rfl rfl rfl hl dL_law_241 ⟨Nat.le_refl _, Nat.le_refl _⟩) (fun r1 σ1 H locs hwp hw9 => ?_)
  have hw := hw9
  clear hw9
  refine r_aload_n C dL_law_244 hl rfl ?_
  refine r_aload_n C dL_law_245 hl rfl ?_
  refine r_iload_n C dL_law_246 hl rfl ?_
  refine r_const C dL_law_247 ?_
  refine r_iadd C dL_law_248 ?_
  refine r_sld C hX hbl hbA hw.2.2 hL (by omega) (by omega) dL_law_249 ?_
  refine r_aload_n C dL_law_250 hl rfl ?_
  refine r_iload_n C dL_law_251 hl rfl ?_
  refine r_const C dL_law_252 ?_
  refine r_iadd C dL_law_253 ?_
  refine r_sld C hX hbl hbA hw.2.2 hL (by omega) (by omega) dL_law_254 ?_
  refine r2_2I hA hw (run_v0 C (wd2_2 hw) clX9 rfl (c_X9_calls hwp) (cwV 2 C.2.2.2.2.1 gL_law_X9_calls rfl rfl rfl hd_X9_calls ⟨(Nat.le_of_ble_eq_true rfl), (Nat.le_of_ble_eq_true rfl)⟩) rfl rfl rfl hl dL_law_255 ⟨Nat.le_refl _, Nat.le_refl _⟩) (fun r2 σ2 H locs hwp hw9 => ?_)
  have hw := hw9
  clear hw9
  obtain ⟨ra, rb, e9, hwp⟩ := hwp
  refine r_icmp_eq C (tgt := 1209) dL_law_258 rfl ra rb (fun hc => ?_) (fun hc => absurd e9 hc)
  exact law_t C hw hl (ih hwp)
set_option maxRecDepth 100000 in
theorem law_c3 (C : cx p s m #[Value.ref b] meth c lw_tbl RL cL_law 4 ret D cA) (hX : va_X b L xs s s.heap) (hbl : b < s.heap.size) (hL : L ≤ 3072) {k : Int → St → St → Prop} (ih : ∀ {i : Int} {σ τ : St}, k i σ τ → ∀ {H : Heap} {locs : List Loc} {ls : Array Slot}, wd2 D cA K_BT hx σ K_M hm2 τ (fun q => s.heap.size ≤ q) s.heap H locs → lh ls 4 [some (.ref b), some (.ref (hx 0)), some (.ref (hm2 0)), some (iv i)] → W p l e room_1 s m #[Value.ref b] below meth c H locs 600000 7302250 Q (F0 m 18 ls [])) {i : Int} (h0 : 0 ≤ i) (hi : ¬ ((L : Int) - 6 < i)) {σ τ : St} {H : Heap} {locs : List Loc} {ls : Array Slot} (hwp : wp_law_c3 xs k i σ τ) (hw : wd2 D cA K_BT hx σ K_M hm2 τ (fun q => s.heap.size ≤ q) s.heap H locs) (hl : lh ls 4 [some (.ref b), some (.ref (hx 0)), some (.ref (hm2 0)), some (iv i)]) : W p l e room_1 s m #[Value.ref b] below meth c H locs 600000 7302250 Q (F0 m 263 ls []) := by
  have hA : ∀ q : Nat, s.heap.size ≤ q → (fun q : Nat => s.heap.size ≤ q) q := fun _ h => h
  have hbA : ¬ (fun q : Nat => s.heap.size ≤ q) b := Nat.not_le.mpr hbl
  refine r_aload_n C dL_law_263 hl rfl ?_
  refine r_aload_n C dL_law_264 hl rfl ?_
  refine r_iload_n C dL_law_265 hl rfl ?_
  refine r_const C dL_law_266 ?_
  refine r_iadd C dL_law_267 ?_
  refine r_sld C hX hbl hbA hw.2.2 hL (by omega) (by omega) dL_law_268 ?_
  refine r_aload_n C dL_law_269 hl rfl ?_
  refine r_iload_n C dL_law_270 hl rfl ?_
  refine r_const C dL_law_271 ?_
  refine r_iadd C dL_law_272 ?_
  refine r_sld C hX hbl hbA hw.2.2 hL (by omega) (by omega) dL_law_273 ?_
  refine r2_1I hA hw (run_v0 C (wd2_1 hw) clX8 rfl (c_X8_call hwp) (cwV 2 C.2.2.2.2.1 gL_law_X8_call rfl rfl rfl hd_X8_call ⟨(Nat.le_of_ble_eq_true rfl), (Nat.le_of_ble_eq_true rfl)⟩) rfl rfl rfl hl dL_law_274 ⟨Nat.le_refl _, Nat.le_refl _⟩) (fun r1 σ1 H locs hwp hw9 => ?_)
  have hw := hw9
  clear hw9
  refine r_aload_n C dL_law_277 hl rfl ?_
  refine r_aload_n C dL_law_278 hl rfl ?_
  refine r_iload_n C dL_law_279 hl rfl ?_
  refine r_const C dL_law_280 ?_
  refine r_iadd C dL_law_281 ?_
  refine r_sld C hX hbl hbA hw.2.2 hL (by omega) (by omega) dL_law_282 ?_
  refine r_aload_n C dL_law_283 hl rfl ?_
  refine r_iload_n C dL_law_284 hl rfl ?_
  refine r_const C dL_law_285 ?_
  refine r_iadd C dL_law_286 ?_
  refine r_sld C hX hbl hbA hw.2.2 hL (by omega) (by omega) dL_law_287 ?_
  refine r2_2I hA hw (run_v0 C (wd2_2 hw) clX9 rfl (c_X9_call hwp) (cwV 2 C.2.2.2.2.1 gL_law_X9_call rfl rfl rfl hd_X9_call ⟨(Nat.le_of_ble_eq_true rfl), (Nat.le_of_ble_eq_true rfl)⟩) rfl rfl rfl hl dL_law_288 ⟨Nat.le_refl _, Nat.le_refl _⟩) (fun r2 σ2 H locs hwp hw9 => ?_)
  have hw := hw9
  clear hw9
  obtain ⟨ra, rb, e9, hwp⟩ := hwp
  refine r_icmp_eq C (tgt := 1209) dL_law_291 rfl ra rb (fun hc => ?_) (fun hc => absurd e9 hc)
  exact law_t C hw hl (ih hwp)
set_option maxRecDepth 100000 in
theorem law_c4 (C : cx p s m #[Value.ref b] meth c lw_tbl RL cL_law 4 ret D cA) (hX : va_X b L xs s s.heap) (hbl : b < s.heap.size) (hL : L ≤ 3072) {k : Int → St → St → Prop} (ih : ∀ {i : Int} {σ τ : St}, k i σ τ → ∀ {H : Heap} {locs : List Loc} {ls : Array Slot}, wd2 D cA K_BT hx σ K_M hm2 τ (fun q => s.heap.size ≤ q) s.heap H locs → lh ls 4 [some (.ref b), some (.ref (hx 0)), some (.ref (hm2 0)), some (iv i)] → W p l e room_1 s m #[Value.ref b] below meth c H locs 600000 7302250 Q (F0 m 18 ls [])) {i : Int} (h0 : 0 ≤ i) (hi : ¬ ((L : Int) - 6 < i)) {σ τ : St} {H : Heap} {locs : List Loc} {ls : Array Slot} (hwp : wp_law_c4 xs k i σ τ) (hw : wd2 D cA K_BT hx σ K_M hm2 τ (fun q => s.heap.size ≤ q) s.heap H locs) (hl : lh ls 4 [some (.ref b), some (.ref (hx 0)), some (.ref (hm2 0)), some (iv i)]) : W p l e room_1 s m #[Value.ref b] below meth c H locs 600000 7302250 Q (F0 m 296 ls []) := by
  have hA : ∀ q : Nat, s.heap.size ≤ q → (fun q : Nat => s.heap.size ≤ q) q := fun _ h => h
  have hbA : ¬ (fun q : Nat => s.heap.size ≤ q) b := Nat.not_le.mpr hbl
  refine r_aload_n C dL_law_296 hl rfl ?_
  refine r_aload_n C dL_law_297 hl rfl ?_
  refine r_iload_n C dL_law_298 hl rfl ?_
  refine r_const C dL_law_299 ?_
  refine r_iadd C dL_law_300 ?_
  refine r_sld C hX hbl hbA hw.2.2 hL (by omega) (by omega) dL_law_301 ?_
  refine r2_1I hA hw (run_v0 C (wd2_1 hw) clX8 rfl (c_X8_leads hwp) (cwV 1 C.2.2.2.2.1 gL_law_X8_leads rfl rfl rfl hd_X8_leads ⟨(Nat.le_of_ble_eq_true rfl), (Nat.le_of_ble_eq_true rfl)⟩) rfl rfl rfl hl dL_law_302 ⟨Nat.le_refl _, Nat.le_refl _⟩) (fun r1 σ1 H locs hwp hw9 => ?_)
  have hw := hw9
  clear hw9
  refine r_aload_n C dL_law_305 hl rfl ?_
  refine r_aload_n C dL_law_306 hl rfl ?_
  refine r_iload_n C dL_law_307 hl rfl ?_
  refine r_const C dL_law_308 ?_
  refine r_iadd C dL_law_309 ?_
  refine r_sld C hX hbl hbA hw.2.2 hL (by omega) (by omega) dL_law_310 ?_
  refine r2_2I hA hw (run_v0 C (wd2_2 hw) clX9 rfl (c_X9_leads hwp) (cwV 1 C.2.2.2.2.1 gL_law_X9_leads rfl rfl rfl hd_X9_leads ⟨(Nat.le_of_ble_eq_true rfl), (Nat.le_of_ble_eq_true rfl)⟩) rfl rfl rfl hl dL_law_311 ⟨Nat.le_refl _, Nat.le_refl _⟩) (fun r2 σ2 H locs hwp hw9 => ?_)
  have hw := hw9
  clear hw9
  obtain ⟨ra, rb, e9, hwp⟩ := hwp
  refine r_icmp_eq C (tgt := 1209) dL_law_314 rfl ra rb (fun hc => ?_) (fun hc => absurd e9 hc)
  exact law_t C hw hl (ih hwp)
set_option maxRecDepth 100000 in
theorem law_c5 (C : cx p s m #[Value.ref b] meth c lw_tbl RL cL_law 4 ret D cA) (hX : va_X b L xs s s.heap) (hbl : b < s.heap.size) (hL : L ≤ 3072) {k : Int → St → St → Prop} (ih : ∀ {i : Int} {σ τ : St}, k i σ τ → ∀ {H : Heap} {locs : List Loc} {ls : Array Slot}, wd2 D cA K_BT hx σ K_M hm2 τ (fun q => s.heap.size ≤ q) s.heap H locs → lh ls 4 [some (.ref b), some (.ref (hx 0)), some (.ref (hm2 0)), some (iv i)] → W p l e room_1 s m #[Value.ref b] below meth c H locs 600000 7302250 Q (F0 m 18 ls [])) {i : Int} (h0 : 0 ≤ i) (hi : ¬ ((L : Int) - 6 < i)) {σ τ : St} {H : Heap} {locs : List Loc} {ls : Array Slot} (hwp : wp_law_c5 xs k i σ τ) (hw : wd2 D cA K_BT hx σ K_M hm2 τ (fun q => s.heap.size ≤ q) s.heap H locs) (hl : lh ls 4 [some (.ref b), some (.ref (hx 0)), some (.ref (hm2 0)), some (iv i)]) : W p l e room_1 s m #[Value.ref b] below meth c H locs 600000 7302250 Q (F0 m 319 ls []) := by
  have hA : ∀ q : Nat, s.heap.size ≤ q → (fun q : Nat => s.heap.size ≤ q) q := fun _ h => h
  have hbA : ¬ (fun q : Nat => s.heap.size ≤ q) b := Nat.not_le.mpr hbl
  refine r_aload_n C dL_law_319 hl rfl ?_
  refine r_aload_n C dL_law_320 hl rfl ?_
  refine r_iload_n C dL_law_321 hl rfl ?_
  refine r_const C dL_law_322 ?_
  refine r_iadd C dL_law_323 ?_
  refine r_sld C hX hbl hbA hw.2.2 hL (by omega) (by omega) dL_law_324 ?_
  refine r_aload_n C dL_law_325 hl rfl ?_
  refine r_iload_n C dL_law_326 hl rfl ?_
  refine r_const C dL_law_327 ?_
  refine r_iadd C dL_law_328 ?_
  refine r_sld C hX hbl hbA hw.2.2 hL (by omega) (by omega) dL_law_329 ?_
  refine r2_1I hA hw (run_v0 C (wd2_1 hw) clX8 rfl (c_X8_pattern hwp) (cwV 2 C.2.2.2.2.1 gL_law_X8_pattern rfl rfl rfl hd_X8_pattern ⟨(Nat.le_of_ble_eq_true rfl), (Nat.le_of_ble_eq_true rfl)⟩) rfl rfl rfl hl dL_law_330 ⟨Nat.le_refl _, Nat.le_refl _⟩) (fun r1 σ1 H locs hwp hw9 => ?_)
  have hw := hw9
  clear hw9
  refine r_aload_n C dL_law_333 hl rfl ?_
  refine r_aload_n C dL_law_334 hl rfl ?_
  refine r_iload_n C dL_law_335 hl rfl ?_
  refine r_const C dL_law_336 ?_
  refine r_iadd C dL_law_337 ?_
  refine r_sld C hX hbl hbA hw.2.2 hL (by omega) (by omega) dL_law_338 ?_
  refine r_aload_n C dL_law_339 hl rfl ?_
  refine r_iload_n C dL_law_340 hl rfl ?_
  refine r_const C dL_law_341 ?_
  refine r_iadd C dL_law_342 ?_
  refine r_sld C hX hbl hbA hw.2.2 hL (by omega) (by omega) dL_law_343 ?_
  refine r2_2I hA hw (run_v0 C (wd2_2 hw) clX9 rfl (c_X9_pattern hwp) (cwV 2 C.2.2.2.2.1 gL_law_X9_pattern rfl rfl rfl hd_X9_pattern ⟨(Nat.le_of_ble_eq_true rfl), (Nat.le_of_ble_eq_true rfl)⟩) rfl rfl rfl hl dL_law_344 ⟨Nat.le_refl _, Nat.le_refl _⟩) (fun r2 σ2 H locs hwp hw9 => ?_)
  have hw := hw9
  clear hw9
  obtain ⟨ra, rb, e9, hwp⟩ := hwp
  refine r_icmp_eq C (tgt := 1209) dL_law_347 rfl ra rb (fun hc => ?_) (fun hc => absurd e9 hc)
  exact law_t C hw hl (ih hwp)
set_option maxRecDepth 100000 in
theorem law_c6 (C : cx p s m #[Value.ref b] meth c lw_tbl RL cL_law 4 ret D cA) (hX : va_X b L xs s s.heap) (hbl : b < s.heap.size) (hL : L ≤ 3072) {k : Int → St → St → Prop} (ih : ∀ {i : Int} {σ τ : St}, k i σ τ → ∀ {H : Heap} {locs : List Loc} {ls : Array Slot}, wd2 D cA K_BT hx σ K_M hm2 τ (fun q => s.heap.size ≤ q) s.heap H locs → lh ls 4 [some (.ref b), some (.ref (hx 0)), some (.ref (hm2 0)), some (iv i)] → W p l e room_1 s m #[Value.ref b] below meth c H locs 600000 7302250 Q (F0 m 18 ls [])) {i : Int} (h0 : 0 ≤ i) (hi : ¬ ((L : Int) - 6 < i)) {σ τ : St} {H : Heap} {locs : List Loc} {ls : Array Slot} (hwp : wp_law_c6 xs k i σ τ) (hw : wd2 D cA K_BT hx σ K_M hm2 τ (fun q => s.heap.size ≤ q) s.heap H locs) (hl : lh ls 4 [some (.ref b), some (.ref (hx 0)), some (.ref (hm2 0)), some (iv i)]) : W p l e room_1 s m #[Value.ref b] below meth c H locs 600000 7302250 Q (F0 m 352 ls []) := by
  have hA : ∀ q : Nat, s.heap.size ≤ q → (fun q : Nat => s.heap.size ≤ q) q := fun _ h => h
  have hbA : ¬ (fun q : Nat => s.heap.size ≤ q) b := Nat.not_le.mpr hbl
  refine r_aload_n C dL_law_352 hl rfl ?_
  refine r_aload_n C dL_law_353 hl rfl ?_
  refine r_iload_n C dL_law_354 hl rfl ?_
  refine r_const C dL_law_355 ?_
  refine r_iadd C dL_law_356 ?_
  refine r_sld C hX hbl hbA hw.2.2 hL (by omega) (by omega) dL_law_357 ?_
  refine r2_1I hA hw (run_v0 C (wd2_1 hw) clX8 rfl (c_X8_feed hwp) (cwV 1 C.2.2.2.2.1 gL_law_X8_feed rfl rfl rfl hd_X8_feed ⟨(Nat.le_of_ble_eq_true rfl), (Nat.le_of_ble_eq_true rfl)⟩) rfl rfl rfl hl dL_law_358 ⟨Nat.le_refl _, Nat.le_refl _⟩) (fun r1 σ1 H locs hwp hw9 => ?_)
  have hw := hw9
  clear hw9
  refine r_aload_n C dL_law_361 hl rfl ?_
  refine r_aload_n C dL_law_362 hl rfl ?_
  refine r_iload_n C dL_law_363 hl rfl ?_
  refine r_const C dL_law_364 ?_
  refine r_iadd C dL_law_365 ?_
  refine r_sld C hX hbl hbA hw.2.2 hL (by omega) (by omega) dL_law_366 ?_
  refine r2_2I hA hw (run_v0 C (wd2_2 hw) clX9 rfl (c_X9_feed hwp) (cwV 1 C.2.2.2.2.1 gL_law_X9_feed rfl rfl rfl hd_X9_feed ⟨(Nat.le_of_ble_eq_true rfl), (Nat.le_of_ble_eq_true rfl)⟩) rfl rfl rfl hl dL_law_367 ⟨Nat.le_refl _, Nat.le_refl _⟩) (fun r2 σ2 H locs hwp hw9 => ?_)
  have hw := hw9
  clear hw9
  obtain ⟨ra, rb, e9, hwp⟩ := hwp
  refine r_icmp_eq C (tgt := 1209) dL_law_370 rfl ra rb (fun hc => ?_) (fun hc => absurd e9 hc)
  exact law_t C hw hl (ih hwp)
set_option maxRecDepth 100000 in
theorem law_c7 (C : cx p s m #[Value.ref b] meth c lw_tbl RL cL_law 4 ret D cA) (hX : va_X b L xs s s.heap) (hbl : b < s.heap.size) (hL : L ≤ 3072) {k : Int → St → St → Prop} (ih : ∀ {i : Int} {σ τ : St}, k i σ τ → ∀ {H : Heap} {locs : List Loc} {ls : Array Slot}, wd2 D cA K_BT hx σ K_M hm2 τ (fun q => s.heap.size ≤ q) s.heap H locs → lh ls 4 [some (.ref b), some (.ref (hx 0)), some (.ref (hm2 0)), some (iv i)] → W p l e room_1 s m #[Value.ref b] below meth c H locs 600000 7302250 Q (F0 m 18 ls [])) {i : Int} (h0 : 0 ≤ i) (hi : ¬ ((L : Int) - 6 < i)) {σ τ : St} {H : Heap} {locs : List Loc} {ls : Array Slot} (hwp : wp_law_c7 xs k i σ τ) (hw : wd2 D cA K_BT hx σ K_M hm2 τ (fun q => s.heap.size ≤ q) s.heap H locs) (hl : lh ls 4 [some (.ref b), some (.ref (hx 0)), some (.ref (hm2 0)), some (iv i)]) : W p l e room_1 s m #[Value.ref b] below meth c H locs 600000 7302250 Q (F0 m 375 ls []) := by
  have hA : ∀ q : Nat, s.heap.size ≤ q → (fun q : Nat => s.heap.size ≤ q) q := fun _ h => h
  have hbA : ¬ (fun q : Nat => s.heap.size ≤ q) b := Nat.not_le.mpr hbl
  refine r_aload_n C dL_law_375 hl rfl ?_
  refine r2_1I hA hw (run_v0 C (wd2_1 hw) clX8 rfl (c_X8_read hwp) (cwV 0 C.2.2.2.2.1 gL_law_X8_read rfl rfl rfl hd_X8_read ⟨(Nat.le_of_ble_eq_true rfl), (Nat.le_of_ble_eq_true rfl)⟩) rfl rfl rfl hl dL_law_376 ⟨Nat.le_refl _, Nat.le_refl _⟩) (fun r1 σ1 H locs hwp hw9 => ?_)
  have hw := hw9
  clear hw9
  refine r_aload_n C dL_law_379 hl rfl ?_
  refine r2_2I hA hw (run_v0 C (wd2_2 hw) clX9 rfl (c_X9_read hwp) (cwV 0 C.2.2.2.2.1 gL_law_X9_read rfl rfl rfl hd_X9_read ⟨(Nat.le_of_ble_eq_true rfl), (Nat.le_of_ble_eq_true rfl)⟩) rfl rfl rfl hl dL_law_380 ⟨Nat.le_refl _, Nat.le_refl _⟩) (fun r2 σ2 H locs hwp hw9 => ?_)
  have hw := hw9
  clear hw9
  obtain ⟨ra, rb, e9, hwp⟩ := hwp
  refine r_icmp_eq C (tgt := 1209) dL_law_383 rfl ra rb (fun hc => ?_) (fun hc => absurd e9 hc)
  exact law_t C hw hl (ih hwp)
set_option maxRecDepth 100000 in
theorem law_c8 (C : cx p s m #[Value.ref b] meth c lw_tbl RL cL_law 4 ret D cA) (hX : va_X b L xs s s.heap) (hbl : b < s.heap.size) (hL : L ≤ 3072) {k : Int → St → St → Prop} (ih : ∀ {i : Int} {σ τ : St}, k i σ τ → ∀ {H : Heap} {locs : List Loc} {ls : Array Slot}, wd2 D cA K_BT hx σ K_M hm2 τ (fun q => s.heap.size ≤ q) s.heap H locs → lh ls 4 [some (.ref b), some (.ref (hx 0)), some (.ref (hm2 0)), some (iv i)] → W p l e room_1 s m #[Value.ref b] below meth c H locs 600000 7302250 Q (F0 m 18 ls [])) {i : Int} (h0 : 0 ≤ i) (hi : ¬ ((L : Int) - 6 < i)) {σ τ : St} {H : Heap} {locs : List Loc} {ls : Array Slot} (hwp : wp_law_c8 xs k i σ τ) (hw : wd2 D cA K_BT hx σ K_M hm2 τ (fun q => s.heap.size ≤ q) s.heap H locs) (hl : lh ls 4 [some (.ref b), some (.ref (hx 0)), some (.ref (hm2 0)), some (iv i)]) : W p l e room_1 s m #[Value.ref b] below meth c H locs 600000 7302250 Q (F0 m 388 ls []) := by
  have hA : ∀ q : Nat, s.heap.size ≤ q → (fun q : Nat => s.heap.size ≤ q) q := fun _ h => h
  have hbA : ¬ (fun q : Nat => s.heap.size ≤ q) b := Nat.not_le.mpr hbl
  refine r_aload_n C dL_law_388 hl rfl ?_
  refine r_aload_n C dL_law_389 hl rfl ?_
  refine r_iload_n C dL_law_390 hl rfl ?_
  refine r_const C dL_law_391 ?_
  refine r_iadd C dL_law_392 ?_
  refine r_sld C hX hbl hbA hw.2.2 hL (by omega) (by omega) dL_law_393 ?_
  refine r_aload_n C dL_law_394 hl rfl ?_
  refine r_iload_n C dL_law_395 hl rfl ?_
  refine r_const C dL_law_396 ?_
  refine r_iadd C dL_law_397 ?_
  refine r_sld C hX hbl hbA hw.2.2 hL (by omega) (by omega) dL_law_398 ?_
  refine r2_1I hA hw (run_v0 C (wd2_1 hw) clX8 rfl (c_X8_of hwp) (cwV 2 C.2.2.2.2.1 gL_law_X8_of rfl rfl rfl hd_X8_of ⟨(Nat.le_of_ble_eq_true rfl), (Nat.le_of_ble_eq_true rfl)⟩) rfl rfl rfl hl dL_law_399 ⟨Nat.le_refl _, Nat.le_refl _⟩) (fun r1 σ1 H locs hwp hw9 => ?_)
  obtain ⟨e9, hwp⟩ := hwp
  subst e9
  have hw := hw9
  clear hw9
  refine r_aload_n C dL_law_402 hl rfl ?_
  refine r_aload_n C dL_law_403 hl rfl ?_
  refine r_iload_n C dL_law_404 hl rfl ?_
  refine r_const C dL_law_405 ?_
  refine r_iadd C dL_law_406 ?_
  refine r_sld C hX hbl hbA hw.2.2 hL (by omega) (by omega) dL_law_407 ?_
  refine r_aload_n C dL_law_408 hl rfl ?_
  refine r_iload_n C dL_law_409 hl rfl ?_
  refine r_const C dL_law_410 ?_
  refine r_iadd C dL_law_411 ?_
  refine r_sld C hX hbl hbA hw.2.2 hL (by omega) (by omega) dL_law_412 ?_
  refine r2_2I hA hw (run_v0 C (wd2_2 hw) clX9 rfl (c_X9_of hwp) (cwV 2 C.2.2.2.2.1 gL_law_X9_of rfl rfl rfl hd_X9_of ⟨(Nat.le_of_ble_eq_true rfl), (Nat.le_of_ble_eq_true rfl)⟩) rfl rfl rfl hl dL_law_413 ⟨Nat.le_refl _, Nat.le_refl _⟩) (fun r2 σ2 H locs hwp hw9 => ?_)
  obtain ⟨e9, hwp⟩ := hwp
  subst e9
  have hw := hw9
  clear hw9
  obtain ⟨ra, rb, e9, hwp⟩ := hwp
  refine r_icmp_eq C (tgt := 1209) dL_law_416 rfl ra rb (fun hc => ?_) (fun hc => absurd e9 hc)
  exact law_t C hw hl (ih hwp)
set_option maxRecDepth 100000 in
theorem law_c9 (C : cx p s m #[Value.ref b] meth c lw_tbl RL cL_law 4 ret D cA) (hX : va_X b L xs s s.heap) (hbl : b < s.heap.size) (hL : L ≤ 3072) {k : Int → St → St → Prop} (ih : ∀ {i : Int} {σ τ : St}, k i σ τ → ∀ {H : Heap} {locs : List Loc} {ls : Array Slot}, wd2 D cA K_BT hx σ K_M hm2 τ (fun q => s.heap.size ≤ q) s.heap H locs → lh ls 4 [some (.ref b), some (.ref (hx 0)), some (.ref (hm2 0)), some (iv i)] → W p l e room_1 s m #[Value.ref b] below meth c H locs 600000 7302250 Q (F0 m 18 ls [])) {i : Int} (h0 : 0 ≤ i) (hi : ¬ ((L : Int) - 6 < i)) {σ τ : St} {H : Heap} {locs : List Loc} {ls : Array Slot} (hwp : wp_law_c9 xs k i σ τ) (hw : wd2 D cA K_BT hx σ K_M hm2 τ (fun q => s.heap.size ≤ q) s.heap H locs) (hl : lh ls 4 [some (.ref b), some (.ref (hx 0)), some (.ref (hm2 0)), some (iv i)]) : W p l e room_1 s m #[Value.ref b] below meth c H locs 600000 7302250 Q (F0 m 421 ls []) := by
  have hA : ∀ q : Nat, s.heap.size ≤ q → (fun q : Nat => s.heap.size ≤ q) q := fun _ h => h
  have hbA : ¬ (fun q : Nat => s.heap.size ≤ q) b := Nat.not_le.mpr hbl
  refine r_aload_n C dL_law_421 hl rfl ?_
  refine r_aload_n C dL_law_422 hl rfl ?_
  refine r_iload_n C dL_law_423 hl rfl ?_
  refine r_const C dL_law_424 ?_
  refine r_iadd C dL_law_425 ?_
  refine r_sld C hX hbl hbA hw.2.2 hL (by omega) (by omega) dL_law_426 ?_
  refine r2_1I hA hw (run_v0 C (wd2_1 hw) clX8 rfl (c_X8_told hwp) (cwV 1 C.2.2.2.2.1 gL_law_X8_told rfl rfl rfl hd_X8_told ⟨(Nat.le_of_ble_eq_true rfl), (Nat.le_of_ble_eq_true rfl)⟩) rfl rfl rfl hl dL_law_427 ⟨Nat.le_refl _, Nat.le_refl _⟩) (fun r1 σ1 H locs hwp hw9 => ?_)
  have hw := hw9
  clear hw9
  refine r_aload_n C dL_law_430 hl rfl ?_
  refine r_aload_n C dL_law_431 hl rfl ?_
  refine r_iload_n C dL_law_432 hl rfl ?_
  refine r_const C dL_law_433 ?_
  refine r_iadd C dL_law_434 ?_
  refine r_sld C hX hbl hbA hw.2.2 hL (by omega) (by omega) dL_law_435 ?_
  refine r2_2I hA hw (run_v0 C (wd2_2 hw) clX9 rfl (c_X9_told hwp) (cwV 1 C.2.2.2.2.1 gL_law_X9_told rfl rfl rfl hd_X9_told ⟨(Nat.le_of_ble_eq_true rfl), (Nat.le_of_ble_eq_true rfl)⟩) rfl rfl rfl hl dL_law_436 ⟨Nat.le_refl _, Nat.le_refl _⟩) (fun r2 σ2 H locs hwp hw9 => ?_)
  have hw := hw9
  clear hw9
  obtain ⟨ra, rb, e9, hwp⟩ := hwp
  refine r_icmp_eq C (tgt := 1209) dL_law_439 rfl ra rb (fun hc => ?_) (fun hc => absurd e9 hc)
  exact law_t C hw hl (ih hwp)
set_option maxRecDepth 100000 in
theorem law_c10 (C : cx p s m #[Value.ref b] meth c lw_tbl RL cL_law 4 ret D cA) (hX : va_X b L xs s s.heap) (hbl : b < s.heap.size) (hL : L ≤ 3072) {k : Int → St → St → Prop} (ih : ∀ {i : Int} {σ τ : St}, k i σ τ → ∀ {H : Heap} {locs : List Loc} {ls : Array Slot}, wd2 D cA K_BT hx σ K_M hm2 τ (fun q => s.heap.size ≤ q) s.heap H locs → lh ls 4 [some (.ref b), some (.ref (hx 0)), some (.ref (hm2 0)), some (iv i)] → W p l e room_1 s m #[Value.ref b] below meth c H locs 600000 7302250 Q (F0 m 18 ls [])) {i : Int} (h0 : 0 ≤ i) (hi : ¬ ((L : Int) - 6 < i)) {σ τ : St} {H : Heap} {locs : List Loc} {ls : Array Slot} (hwp : wp_law_c10 xs k i σ τ) (hw : wd2 D cA K_BT hx σ K_M hm2 τ (fun q => s.heap.size ≤ q) s.heap H locs) (hl : lh ls 4 [some (.ref b), some (.ref (hx 0)), some (.ref (hm2 0)), some (iv i)]) : W p l e room_1 s m #[Value.ref b] below meth c H locs 600000 7302250 Q (F0 m 444 ls []) := by
  have hA : ∀ q : Nat, s.heap.size ≤ q → (fun q : Nat => s.heap.size ≤ q) q := fun _ h => h
  have hbA : ¬ (fun q : Nat => s.heap.size ≤ q) b := Nat.not_le.mpr hbl
  refine r_aload_n C dL_law_444 hl rfl ?_
  refine r_aload_n C dL_law_445 hl rfl ?_
  refine r_iload_n C dL_law_446 hl rfl ?_
  refine r_const C dL_law_447 ?_
  refine r_iadd C dL_law_448 ?_
  refine r_sld C hX hbl hbA hw.2.2 hL (by omega) (by omega) dL_law_449 ?_
  refine r_aload_n C dL_law_450 hl rfl ?_
  refine r_iload_n C dL_law_451 hl rfl ?_
  refine r_const C dL_law_452 ?_
  refine r_iadd C dL_law_453 ?_
  refine r_sld C hX hbl hbA hw.2.2 hL (by omega) (by omega) dL_law_454 ?_
  refine r2_1I hA hw (run_v0 C (wd2_1 hw) clX8 rfl (c_X8_at hwp) (cwV 2 C.2.2.2.2.1 gL_law_X8_at rfl rfl rfl hd_X8_at ⟨(Nat.le_of_ble_eq_true rfl), (Nat.le_of_ble_eq_true rfl)⟩) rfl rfl rfl hl dL_law_455 ⟨Nat.le_refl _, Nat.le_refl _⟩) (fun r1 σ1 H locs hwp hw9 => ?_)
  have hw := hw9
  clear hw9
  refine r_aload_n C dL_law_458 hl rfl ?_
  refine r_aload_n C dL_law_459 hl rfl ?_
  refine r_iload_n C dL_law_460 hl rfl ?_
  refine r_const C dL_law_461 ?_
  refine r_iadd C dL_law_462 ?_
  refine r_sld C hX hbl hbA hw.2.2 hL (by omega) (by omega) dL_law_463 ?_
  refine r_aload_n C dL_law_464 hl rfl ?_
  refine r_iload_n C dL_law_465 hl rfl ?_
  refine r_const C dL_law_466 ?_
  refine r_iadd C dL_law_467 ?_
  refine r_sld C hX hbl hbA hw.2.2 hL (by omega) (by omega) dL_law_468 ?_
  refine r2_2I hA hw (run_v0 C (wd2_2 hw) clX9 rfl (c_X9_at hwp) (cwV 2 C.2.2.2.2.1 gL_law_X9_at rfl rfl rfl hd_X9_at ⟨(Nat.le_of_ble_eq_true rfl), (Nat.le_of_ble_eq_true rfl)⟩) rfl rfl rfl hl dL_law_469 ⟨Nat.le_refl _, Nat.le_refl _⟩) (fun r2 σ2 H locs hwp hw9 => ?_)
  have hw := hw9
  clear hw9
  obtain ⟨ra, rb, e9, hwp⟩ := hwp
  refine r_icmp_eq C (tgt := 1209) dL_law_472 rfl ra rb (fun hc => ?_) (fun hc => absurd e9 hc)
  exact law_t C hw hl (ih hwp)
set_option maxRecDepth 100000 in
theorem law_c11 (C : cx p s m #[Value.ref b] meth c lw_tbl RL cL_law 4 ret D cA) (hX : va_X b L xs s s.heap) (hbl : b < s.heap.size) (hL : L ≤ 3072) {k : Int → St → St → Prop} (ih : ∀ {i : Int} {σ τ : St}, k i σ τ → ∀ {H : Heap} {locs : List Loc} {ls : Array Slot}, wd2 D cA K_BT hx σ K_M hm2 τ (fun q => s.heap.size ≤ q) s.heap H locs → lh ls 4 [some (.ref b), some (.ref (hx 0)), some (.ref (hm2 0)), some (iv i)] → W p l e room_1 s m #[Value.ref b] below meth c H locs 600000 7302250 Q (F0 m 18 ls [])) {i : Int} (h0 : 0 ≤ i) (hi : ¬ ((L : Int) - 6 < i)) {σ τ : St} {H : Heap} {locs : List Loc} {ls : Array Slot} (hwp : wp_law_c11 xs k i σ τ) (hw : wd2 D cA K_BT hx σ K_M hm2 τ (fun q => s.heap.size ≤ q) s.heap H locs) (hl : lh ls 4 [some (.ref b), some (.ref (hx 0)), some (.ref (hm2 0)), some (iv i)]) : W p l e room_1 s m #[Value.ref b] below meth c H locs 600000 7302250 Q (F0 m 477 ls []) := by
  have hA : ∀ q : Nat, s.heap.size ≤ q → (fun q : Nat => s.heap.size ≤ q) q := fun _ h => h
  have hbA : ¬ (fun q : Nat => s.heap.size ≤ q) b := Nat.not_le.mpr hbl
  refine r_aload_n C dL_law_477 hl rfl ?_
  refine r_aload_n C dL_law_478 hl rfl ?_
  refine r_iload_n C dL_law_479 hl rfl ?_
  refine r_const C dL_law_480 ?_
  refine r_iadd C dL_law_481 ?_
  refine r_sld C hX hbl hbA hw.2.2 hL (by omega) (by omega) dL_law_482 ?_
  refine r_aload_n C dL_law_483 hl rfl ?_
  refine r_iload_n C dL_law_484 hl rfl ?_
  refine r_const C dL_law_485 ?_
  refine r_iadd C dL_law_486 ?_
  refine r_sld C hX hbl hbA hw.2.2 hL (by omega) (by omega) dL_law_487 ?_
  refine r2_1I hA hw (run_v0 C (wd2_1 hw) clX8 rfl (c_X8_where hwp) (cwV 2 C.2.2.2.2.1 gL_law_X8_where rfl rfl rfl hd_X8_where ⟨(Nat.le_of_ble_eq_true rfl), (Nat.le_of_ble_eq_true rfl)⟩) rfl rfl rfl hl dL_law_488 ⟨Nat.le_refl _, Nat.le_refl _⟩) (fun r1 σ1 H locs hwp hw9 => ?_)
  have hw := hw9
  clear hw9
  refine r_aload_n C dL_law_491 hl rfl ?_
  refine r_aload_n C dL_law_492 hl rfl ?_
  refine r_iload_n C dL_law_493 hl rfl ?_
  refine r_const C dL_law_494 ?_
  refine r_iadd C dL_law_495 ?_
  refine r_sld C hX hbl hbA hw.2.2 hL (by omega) (by omega) dL_law_496 ?_
  refine r_aload_n C dL_law_497 hl rfl ?_
  refine r_iload_n C dL_law_498 hl rfl ?_
  refine r_const C dL_law_499 ?_
  refine r_iadd C dL_law_500 ?_
  refine r_sld C hX hbl hbA hw.2.2 hL (by omega) (by omega) dL_law_501 ?_
  refine r2_2I hA hw (run_v0 C (wd2_2 hw) clX9 rfl (c_X9_where hwp) (cwV 2 C.2.2.2.2.1 gL_law_X9_where rfl rfl rfl hd_X9_where ⟨(Nat.le_of_ble_eq_true rfl), (Nat.le_of_ble_eq_true rfl)⟩) rfl rfl rfl hl dL_law_502 ⟨Nat.le_refl _, Nat.le_refl _⟩) (fun r2 σ2 H locs hwp hw9 => ?_)
  have hw := hw9
  clear hw9
  obtain ⟨ra, rb, e9, hwp⟩ := hwp
  refine r_icmp_eq C (tgt := 1209) dL_law_505 rfl ra rb (fun hc => ?_) (fun hc => absurd e9 hc)
  exact law_t C hw hl (ih hwp)
set_option maxRecDepth 100000 in
theorem law_c12 (C : cx p s m #[Value.ref b] meth c lw_tbl RL cL_law 4 ret D cA) (hX : va_X b L xs s s.heap) (hbl : b < s.heap.size) (hL : L ≤ 3072) {k : Int → St → St → Prop} (ih : ∀ {i : Int} {σ τ : St}, k i σ τ → ∀ {H : Heap} {locs : List Loc} {ls : Array Slot}, wd2 D cA K_BT hx σ K_M hm2 τ (fun q => s.heap.size ≤ q) s.heap H locs → lh ls 4 [some (.ref b), some (.ref (hx 0)), some (.ref (hm2 0)), some (iv i)] → W p l e room_1 s m #[Value.ref b] below meth c H locs 600000 7302250 Q (F0 m 18 ls [])) {i : Int} (h0 : 0 ≤ i) (hi : ¬ ((L : Int) - 6 < i)) {σ τ : St} {H : Heap} {locs : List Loc} {ls : Array Slot} (hwp : wp_law_c12 xs k i σ τ) (hw : wd2 D cA K_BT hx σ K_M hm2 τ (fun q => s.heap.size ≤ q) s.heap H locs) (hl : lh ls 4 [some (.ref b), some (.ref (hx 0)), some (.ref (hm2 0)), some (iv i)]) : W p l e room_1 s m #[Value.ref b] below meth c H locs 600000 7302250 Q (F0 m 510 ls []) := by
  have hA : ∀ q : Nat, s.heap.size ≤ q → (fun q : Nat => s.heap.size ≤ q) q := fun _ h => h
  have hbA : ¬ (fun q : Nat => s.heap.size ≤ q) b := Nat.not_le.mpr hbl
  refine r_aload_n C dL_law_510 hl rfl ?_
  refine r_aload_n C dL_law_511 hl rfl ?_
  refine r_iload_n C dL_law_512 hl rfl ?_
  refine r_const C dL_law_513 ?_
  refine r_iadd C dL_law_514 ?_
  refine r_sld C hX hbl hbA hw.2.2 hL (by omega) (by omega) dL_law_515 ?_
  refine r2_1I hA hw (run_v0 C (wd2_1 hw) clX8 rfl (c_X8_same hwp) (cwV 1 C.2.2.2.2.1 gL_law_X8_same rfl rfl rfl hd_X8_same ⟨(Nat.le_of_ble_eq_true rfl), (Nat.le_of_ble_eq_true rfl)⟩) rfl rfl rfl hl dL_law_516 ⟨Nat.le_refl _, Nat.le_refl _⟩) (fun r1 σ1 H locs hwp hw9 => ?_)
  have hw := hw9
  clear hw9
  refine r_aload_n C dL_law_519 hl rfl ?_
  refine r_aload_n C dL_law_520 hl rfl ?_
  refine r_iload_n C dL_law_521 hl rfl ?_
  refine r_const C dL_law_522 ?_
  refine r_iadd C dL_law_523 ?_
  refine r_sld C hX hbl hbA hw.2.2 hL (by omega) (by omega) dL_law_524 ?_
  refine r2_2I hA hw (run_v0 C (wd2_2 hw) clX9 rfl (c_X9_same hwp) (cwV 1 C.2.2.2.2.1 gL_law_X9_same rfl rfl rfl hd_X9_same ⟨(Nat.le_of_ble_eq_true rfl), (Nat.le_of_ble_eq_true rfl)⟩) rfl rfl rfl hl dL_law_525 ⟨Nat.le_refl _, Nat.le_refl _⟩) (fun r2 σ2 H locs hwp hw9 => ?_)
  have hw := hw9
  clear hw9
  obtain ⟨ra, rb, e9, hwp⟩ := hwp
  refine r_icmp_eq C (tgt := 1209) dL_law_528 rfl ra rb (fun hc => ?_) (fun hc => absurd e9 hc)
  exact law_t C hw hl (ih hwp)
set_option maxRecDepth 100000 in
theorem law_c13 (C : cx p s m #[Value.ref b] meth c lw_tbl RL cL_law 4 ret D cA) (hX : va_X b L xs s s.heap) (hbl : b < s.heap.size) (hL : L ≤ 3072) {k : Int → St → St → Prop} (ih : ∀ {i : Int} {σ τ : St}, k i σ τ → ∀ {H : Heap} {locs : List Loc} {ls : Array Slot}, wd2 D cA K_BT hx σ K_M hm2 τ (fun q => s.heap.size ≤ q) s.heap H locs → lh ls 4 [some (.ref b), some (.ref (hx 0)), some (.ref (hm2 0)), some (iv i)] → W p l e room_1 s m #[Value.ref b] below meth c H locs 600000 7302250 Q (F0 m 18 ls [])) {i : Int} (h0 : 0 ≤ i) (hi : ¬ ((L : Int) - 6 < i)) {σ τ : St} {H : Heap} {locs : List Loc} {ls : Array Slot} (hwp : wp_law_c13 xs k i σ τ) (hw : wd2 D cA K_BT hx σ K_M hm2 τ (fun q => s.heap.size ≤ q) s.heap H locs) (hl : lh ls 4 [some (.ref b), some (.ref (hx 0)), some (.ref (hm2 0)), some (iv i)]) : W p l e room_1 s m #[Value.ref b] below meth c H locs 600000 7302250 Q (F0 m 533 ls []) := by
  have hA : ∀ q : Nat, s.heap.size ≤ q → (fun q : Nat => s.heap.size ≤ q) q := fun _ h => h
  have hbA : ¬ (fun q : Nat => s.heap.size ≤ q) b := Nat.not_le.mpr hbl
  refine r_aload_n C dL_law_533 hl rfl ?_
  refine r_aload_n C dL_law_534 hl rfl ?_
  refine r_iload_n C dL_law_535 hl rfl ?_
  refine r_const C dL_law_536 ?_
  refine r_iadd C dL_law_537 ?_
  refine r_sld C hX hbl hbA hw.2.2 hL (by omega) (by omega) dL_law_538 ?_
  refine r2_1I hA hw (run_v0 C (wd2_1 hw) clX8 rfl (c_X8_good hwp) (cwV 1 C.2.2.2.2.1 gL_law_X8_good rfl rfl rfl hd_X8_good ⟨(Nat.le_of_ble_eq_true rfl), (Nat.le_of_ble_eq_true rfl)⟩) rfl rfl rfl hl dL_law_539 ⟨Nat.le_refl _, Nat.le_refl _⟩) (fun r1 σ1 H locs hwp hw9 => ?_)
  obtain ⟨e9, hwp⟩ := hwp
  subst e9
  have hw := hw9
  clear hw9
  refine r_aload_n C dL_law_542 hl rfl ?_
  refine r_aload_n C dL_law_543 hl rfl ?_
  refine r_iload_n C dL_law_544 hl rfl ?_
  refine r_const C dL_law_545 ?_
  refine r_iadd C dL_law_546 ?_
  refine r_sld C hX hbl hbA hw.2.2 hL (by omega) (by omega) dL_law_547 ?_
  refine r2_2I hA hw (run_v0 C (wd2_2 hw) clX9 rfl (c_X9_good hwp) (cwV 1 C.2.2.2.2.1 gL_law_X9_good rfl rfl rfl hd_X9_good ⟨(Nat.le_of_ble_eq_true rfl), (Nat.le_of_ble_eq_true rfl)⟩) rfl rfl rfl hl dL_law_548 ⟨Nat.le_refl _, Nat.le_refl _⟩) (fun r2 σ2 H locs hwp hw9 => ?_)
  obtain ⟨e9, hwp⟩ := hwp
  subst e9
  have hw := hw9
  clear hw9
  obtain ⟨ra, rb, e9, hwp⟩ := hwp
  refine r_icmp_eq C (tgt := 1209) dL_law_551 rfl ra rb (fun hc => ?_) (fun hc => absurd e9 hc)
  exact law_t C hw hl (ih hwp)
set_option maxRecDepth 100000 in
theorem law_c14 (C : cx p s m #[Value.ref b] meth c lw_tbl RL cL_law 4 ret D cA) (hX : va_X b L xs s s.heap) (hbl : b < s.heap.size) (hL : L ≤ 3072) {k : Int → St → St → Prop} (ih : ∀ {i : Int} {σ τ : St}, k i σ τ → ∀ {H : Heap} {locs : List Loc} {ls : Array Slot}, wd2 D cA K_BT hx σ K_M hm2 τ (fun q => s.heap.size ≤ q) s.heap H locs → lh ls 4 [some (.ref b), some (.ref (hx 0)), some (.ref (hm2 0)), some (iv i)] → W p l e room_1 s m #[Value.ref b] below meth c H locs 600000 7302250 Q (F0 m 18 ls [])) {i : Int} (h0 : 0 ≤ i) (hi : ¬ ((L : Int) - 6 < i)) {σ τ : St} {H : Heap} {locs : List Loc} {ls : Array Slot} (hwp : wp_law_c14 xs k i σ τ) (hw : wd2 D cA K_BT hx σ K_M hm2 τ (fun q => s.heap.size ≤ q) s.heap H locs) (hl : lh ls 4 [some (.ref b), some (.ref (hx 0)), some (.ref (hm2 0)), some (iv i)]) : W p l e room_1 s m #[Value.ref b] below meth c H locs 600000 7302250 Q (F0 m 556 ls []) := by
  have hA : ∀ q : Nat, s.heap.size ≤ q → (fun q : Nat => s.heap.size ≤ q) q := fun _ h => h
  have hbA : ¬ (fun q : Nat => s.heap.size ≤ q) b := Nat.not_le.mpr hbl
  refine r_aload_n C dL_law_556 hl rfl ?_
  refine r_aload_n C dL_law_557 hl rfl ?_
  refine r_iload_n C dL_law_558 hl rfl ?_
  refine r_const C dL_law_559 ?_
  refine r_iadd C dL_law_560 ?_
  refine r_sld C hX hbl hbA hw.2.2 hL (by omega) (by omega) dL_law_561 ?_
  refine r2_1I hA hw (run_v0 C (wd2_1 hw) clX8 rfl (c_X8_music hwp) (cwV 1 C.2.2.2.2.1 gL_law_X8_music rfl rfl rfl hd_X8_music ⟨(Nat.le_of_ble_eq_true rfl), (Nat.le_of_ble_eq_true rfl)⟩) rfl rfl rfl hl dL_law_562 ⟨Nat.le_refl _, Nat.le_refl _⟩) (fun r1 σ1 H locs hwp hw9 => ?_)
  have hw := hw9
  clear hw9
  refine r_aload_n C dL_law_565 hl rfl ?_
  refine r_aload_n C dL_law_566 hl rfl ?_
  refine r_iload_n C dL_law_567 hl rfl ?_
  refine r_const C dL_law_568 ?_
  refine r_iadd C dL_law_569 ?_
  refine r_sld C hX hbl hbA hw.2.2 hL (by omega) (by omega) dL_law_570 ?_
  refine r2_2I hA hw (run_v0 C (wd2_2 hw) clX9 rfl (c_X9_music hwp) (cwV 1 C.2.2.2.2.1 gL_law_X9_music rfl rfl rfl hd_X9_music ⟨(Nat.le_of_ble_eq_true rfl), (Nat.le_of_ble_eq_true rfl)⟩) rfl rfl rfl hl dL_law_571 ⟨Nat.le_refl _, Nat.le_refl _⟩) (fun r2 σ2 H locs hwp hw9 => ?_)
  have hw := hw9
  clear hw9
  obtain ⟨ra, rb, e9, hwp⟩ := hwp
  refine r_icmp_eq C (tgt := 1209) dL_law_574 rfl ra rb (fun hc => ?_) (fun hc => absurd e9 hc)
  exact law_t C hw hl (ih hwp)
set_option maxRecDepth 100000 in
theorem law_c15 (C : cx p s m #[Value.ref b] meth c lw_tbl RL cL_law 4 ret D cA) (hX : va_X b L xs s s.heap) (hbl : b < s.heap.size) (hL : L ≤ 3072) {k : Int → St → St → Prop} (ih : ∀ {i : Int} {σ τ : St}, k i σ τ → ∀ {H : Heap} {locs : List Loc} {ls : Array Slot}, wd2 D cA K_BT hx σ K_M hm2 τ (fun q => s.heap.size ≤ q) s.heap H locs → lh ls 4 [some (.ref b), some (.ref (hx 0)), some (.ref (hm2 0)), some (iv i)] → W p l e room_1 s m #[Value.ref b] below meth c H locs 600000 7302250 Q (F0 m 18 ls [])) {i : Int} (h0 : 0 ≤ i) (hi : ¬ ((L : Int) - 6 < i)) {σ τ : St} {H : Heap} {locs : List Loc} {ls : Array Slot} (hwp : wp_law_c15 xs k i σ τ) (hw : wd2 D cA K_BT hx σ K_M hm2 τ (fun q => s.heap.size ≤ q) s.heap H locs) (hl : lh ls 4 [some (.ref b), some (.ref (hx 0)), some (.ref (hm2 0)), some (iv i)]) : W p l e room_1 s m #[Value.ref b] below meth c H locs 600000 7302250 Q (F0 m 579 ls []) := by
  have hA : ∀ q : Nat, s.heap.size ≤ q → (fun q : Nat => s.heap.size ≤ q) q := fun _ h => h
  have hbA : ¬ (fun q : Nat => s.heap.size ≤ q) b := Nat.not_le.mpr hbl
  refine r_aload_n C dL_law_579 hl rfl ?_
  refine r_aload_n C dL_law_580 hl rfl ?_
  refine r_iload_n C dL_law_581 hl rfl ?_
  refine r_const C dL_law_582 ?_
  refine r_iadd C dL_law_583 ?_
  refine r_sld C hX hbl hbA hw.2.2 hL (by omega) (by omega) dL_law_584 ?_
  refine r_aload_n C dL_law_585 hl rfl ?_
  refine r_iload_n C dL_law_586 hl rfl ?_
  refine r_const C dL_law_587 ?_
  refine r_iadd C dL_law_588 ?_
  refine r_sld C hX hbl hbA hw.2.2 hL (by omega) (by omega) dL_law_589 ?_
  refine r2_1I hA hw (run_v0 C (wd2_1 hw) clX8 rfl (c_X8_least hwp) (cwV 2 C.2.2.2.2.1 gL_law_X8_least rfl rfl rfl hd_X8_least ⟨(Nat.le_of_ble_eq_true rfl), (Nat.le_of_ble_eq_true rfl)⟩) rfl rfl rfl hl dL_law_590 ⟨Nat.le_refl _, Nat.le_refl _⟩) (fun r1 σ1 H locs hwp hw9 => ?_)
  have hw := hw9
  clear hw9
  refine r_aload_n C dL_law_593 hl rfl ?_
  refine r_aload_n C dL_law_594 hl rfl ?_
  refine r_iload_n C dL_law_595 hl rfl ?_
  refine r_const C dL_law_596 ?_
  refine r_iadd C dL_law_597 ?_
  refine r_sld C hX hbl hbA hw.2.2 hL (by omega) (by omega) dL_law_598 ?_
  refine r_aload_n C dL_law_599 hl rfl ?_
  refine r_iload_n C dL_law_600 hl rfl ?_
  refine r_const C dL_law_601 ?_
  refine r_iadd C dL_law_602 ?_
  refine r_sld C hX hbl hbA hw.2.2 hL (by omega) (by omega) dL_law_603 ?_
  refine r2_2I hA hw (run_v0 C (wd2_2 hw) clX9 rfl (c_X9_least hwp) (cwV 2 C.2.2.2.2.1 gL_law_X9_least rfl rfl rfl hd_X9_least ⟨(Nat.le_of_ble_eq_true rfl), (Nat.le_of_ble_eq_true rfl)⟩) rfl rfl rfl hl dL_law_604 ⟨Nat.le_refl _, Nat.le_refl _⟩) (fun r2 σ2 H locs hwp hw9 => ?_)
  have hw := hw9
  clear hw9
  obtain ⟨ra, rb, e9, hwp⟩ := hwp
  refine r_icmp_eq C (tgt := 1209) dL_law_607 rfl ra rb (fun hc => ?_) (fun hc => absurd e9 hc)
  exact law_t C hw hl (ih hwp)
set_option maxRecDepth 100000 in
theorem law_c16 (C : cx p s m #[Value.ref b] meth c lw_tbl RL cL_law 4 ret D cA) (hX : va_X b L xs s s.heap) (hbl : b < s.heap.size) (hL : L ≤ 3072) {k : Int → St → St → Prop} (ih : ∀ {i : Int} {σ τ : St}, k i σ τ → ∀ {H : Heap} {locs : List Loc} {ls : Array Slot}, wd2 D cA K_BT hx σ K_M hm2 τ (fun q => s.heap.size ≤ q) s.heap H locs → lh ls 4 [some (.ref b), some (.ref (hx 0)), some (.ref (hm2 0)), some (iv i)] → W p l e room_1 s m #[Value.ref b] below meth c H locs 600000 7302250 Q (F0 m 18 ls [])) {i : Int} (h0 : 0 ≤ i) (hi : ¬ ((L : Int) - 6 < i)) {σ τ : St} {H : Heap} {locs : List Loc} {ls : Array Slot} (hwp : wp_law_c16 xs k i σ τ) (hw : wd2 D cA K_BT hx σ K_M hm2 τ (fun q => s.heap.size ≤ q) s.heap H locs) (hl : lh ls 4 [some (.ref b), some (.ref (hx 0)), some (.ref (hm2 0)), some (iv i)]) : W p l e room_1 s m #[Value.ref b] below meth c H locs 600000 7302250 Q (F0 m 612 ls []) := by
  have hA : ∀ q : Nat, s.heap.size ≤ q → (fun q : Nat => s.heap.size ≤ q) q := fun _ h => h
  have hbA : ¬ (fun q : Nat => s.heap.size ≤ q) b := Nat.not_le.mpr hbl
  refine r_aload_n C dL_law_612 hl rfl ?_
  refine r_aload_n C dL_law_613 hl rfl ?_
  refine r_iload_n C dL_law_614 hl rfl ?_
  refine r_const C dL_law_615 ?_
  refine r_iadd C dL_law_616 ?_
  refine r_sld C hX hbl hbA hw.2.2 hL (by omega) (by omega) dL_law_617 ?_
  refine r2_1I hA hw (run_v0 C (wd2_1 hw) clX8 rfl (c_X8_still hwp) (cwV 1 C.2.2.2.2.1 gL_law_X8_still rfl rfl rfl hd_X8_still ⟨(Nat.le_of_ble_eq_true rfl), (Nat.le_of_ble_eq_true rfl)⟩) rfl rfl rfl hl dL_law_618 ⟨Nat.le_refl _, Nat.le_refl _⟩) (fun r1 σ1 H locs hwp hw9 => ?_)
  have hw := hw9
  clear hw9
  refine r_aload_n C dL_law_621 hl rfl ?_
  refine r_aload_n C dL_law_622 hl rfl ?_
  refine r_iload_n C dL_law_623 hl rfl ?_
  refine r_const C dL_law_624 ?_
  refine r_iadd C dL_law_625 ?_
  refine r_sld C hX hbl hbA hw.2.2 hL (by omega) (by omega) dL_law_626 ?_
  refine r2_2I hA hw (run_v0 C (wd2_2 hw) clX9 rfl (c_X9_still hwp) (cwV 1 C.2.2.2.2.1 gL_law_X9_still rfl rfl rfl hd_X9_still ⟨(Nat.le_of_ble_eq_true rfl), (Nat.le_of_ble_eq_true rfl)⟩) rfl rfl rfl hl dL_law_627 ⟨Nat.le_refl _, Nat.le_refl _⟩) (fun r2 σ2 H locs hwp hw9 => ?_)
  have hw := hw9
  clear hw9
  obtain ⟨ra, rb, e9, hwp⟩ := hwp
  refine r_icmp_eq C (tgt := 1209) dL_law_630 rfl ra rb (fun hc => ?_) (fun hc => absurd e9 hc)
  exact law_t C hw hl (ih hwp)
set_option maxRecDepth 100000 in
theorem law_c17 (C : cx p s m #[Value.ref b] meth c lw_tbl RL cL_law 4 ret D cA) (hX : va_X b L xs s s.heap) (hbl : b < s.heap.size) (hL : L ≤ 3072) {k : Int → St → St → Prop} (ih : ∀ {i : Int} {σ τ : St}, k i σ τ → ∀ {H : Heap} {locs : List Loc} {ls : Array Slot}, wd2 D cA K_BT hx σ K_M hm2 τ (fun q => s.heap.size ≤ q) s.heap H locs → lh ls 4 [some (.ref b), some (.ref (hx 0)), some (.ref (hm2 0)), some (iv i)] → W p l e room_1 s m #[Value.ref b] below meth c H locs 600000 7302250 Q (F0 m 18 ls [])) {i : Int} (h0 : 0 ≤ i) (hi : ¬ ((L : Int) - 6 < i)) {σ τ : St} {H : Heap} {locs : List Loc} {ls : Array Slot} (hwp : wp_law_c17 xs k i σ τ) (hw : wd2 D cA K_BT hx σ K_M hm2 τ (fun q => s.heap.size ≤ q) s.heap H locs) (hl : lh ls 4 [some (.ref b), some (.ref (hx 0)), some (.ref (hm2 0)), some (iv i)]) : W p l e room_1 s m #[Value.ref b] below meth c H locs 600000 7302250 Q (F0 m 635 ls []) := by
  have hA : ∀ q : Nat, s.heap.size ≤ q → (fun q : Nat => s.heap.size ≤ q) q := fun _ h => h
  have hbA : ¬ (fun q : Nat => s.heap.size ≤ q) b := Nat.not_le.mpr hbl
  refine r_aload_n C dL_law_635 hl rfl ?_
  refine r_aload_n C dL_law_636 hl rfl ?_
  refine r_iload_n C dL_law_637 hl rfl ?_
  refine r_const C dL_law_638 ?_
  refine r_iadd C dL_law_639 ?_
  refine r_sld C hX hbl hbA hw.2.2 hL (by omega) (by omega) dL_law_640 ?_
  refine r_aload_n C dL_law_641 hl rfl ?_
  refine r_iload_n C dL_law_642 hl rfl ?_
  refine r_const C dL_law_643 ?_
  refine r_iadd C dL_law_644 ?_
  refine r_sld C hX hbl hbA hw.2.2 hL (by omega) (by omega) dL_law_645 ?_
  refine r2_1I hA hw (run_v0 C (wd2_1 hw) clX8 rfl (c_X8_ahead hwp) (cwV 2 C.2.2.2.2.1 gL_law_X8_ahead rfl rfl rfl hd_X8_ahead ⟨(Nat.le_of_ble_eq_true rfl), (Nat.le_of_ble_eq_true rfl)⟩) rfl rfl rfl hl dL_law_646 ⟨Nat.le_refl _, Nat.le_refl _⟩) (fun r1 σ1 H locs hwp hw9 => ?_)
  have hw := hw9
  clear hw9
  refine r_aload_n C dL_law_649 hl rfl ?_
  refine r_aload_n C dL_law_650 hl rfl ?_
  refine r_iload_n C dL_law_651 hl rfl ?_
  refine r_const C dL_law_652 ?_
  refine r_iadd C dL_law_653 ?_
  refine r_sld C hX hbl hbA hw.2.2 hL (by omega) (by omega) dL_law_654 ?_
  refine r_aload_n C dL_law_655 hl rfl ?_
  refine r_iload_n C dL_law_656 hl rfl ?_
  refine r_const C dL_law_657 ?_
  refine r_iadd C dL_law_658 ?_
  refine r_sld C hX hbl hbA hw.2.2 hL (by omega) (by omega) dL_law_659 ?_
  refine r2_2I hA hw (run_v0 C (wd2_2 hw) clX9 rfl (c_X9_ahead hwp) (cwV 2 C.2.2.2.2.1 gL_law_X9_ahead rfl rfl rfl hd_X9_ahead ⟨(Nat.le_of_ble_eq_true rfl), (Nat.le_of_ble_eq_true rfl)⟩) rfl rfl rfl hl dL_law_660 ⟨Nat.le_refl _, Nat.le_refl _⟩) (fun r2 σ2 H locs hwp hw9 => ?_)
  have hw := hw9
  clear hw9
  obtain ⟨ra, rb, e9, hwp⟩ := hwp
  refine r_icmp_eq C (tgt := 1209) dL_law_663 rfl ra rb (fun hc => ?_) (fun hc => absurd e9 hc)
  exact law_t C hw hl (ih hwp)
set_option maxRecDepth 100000 in
theorem law_c18 (C : cx p s m #[Value.ref b] meth c lw_tbl RL cL_law 4 ret D cA) (hX : va_X b L xs s s.heap) (hbl : b < s.heap.size) (hL : L ≤ 3072) {k : Int → St → St → Prop} (ih : ∀ {i : Int} {σ τ : St}, k i σ τ → ∀ {H : Heap} {locs : List Loc} {ls : Array Slot}, wd2 D cA K_BT hx σ K_M hm2 τ (fun q => s.heap.size ≤ q) s.heap H locs → lh ls 4 [some (.ref b), some (.ref (hx 0)), some (.ref (hm2 0)), some (iv i)] → W p l e room_1 s m #[Value.ref b] below meth c H locs 600000 7302250 Q (F0 m 18 ls [])) {i : Int} (h0 : 0 ≤ i) (hi : ¬ ((L : Int) - 6 < i)) {σ τ : St} {H : Heap} {locs : List Loc} {ls : Array Slot} (hwp : wp_law_c18 xs k i σ τ) (hw : wd2 D cA K_BT hx σ K_M hm2 τ (fun q => s.heap.size ≤ q) s.heap H locs) (hl : lh ls 4 [some (.ref b), some (.ref (hx 0)), some (.ref (hm2 0)), some (iv i)]) : W p l e room_1 s m #[Value.ref b] below meth c H locs 600000 7302250 Q (F0 m 668 ls []) := by
  have hA : ∀ q : Nat, s.heap.size ≤ q → (fun q : Nat => s.heap.size ≤ q) q := fun _ h => h
  have hbA : ¬ (fun q : Nat => s.heap.size ≤ q) b := Nat.not_le.mpr hbl
  refine r_aload_n C dL_law_668 hl rfl ?_
  refine r_aload_n C dL_law_669 hl rfl ?_
  refine r_iload_n C dL_law_670 hl rfl ?_
  refine r_const C dL_law_671 ?_
  refine r_iadd C dL_law_672 ?_
  refine r_sld C hX hbl hbA hw.2.2 hL (by omega) (by omega) dL_law_673 ?_
  refine r_aload_n C dL_law_674 hl rfl ?_
  refine r_iload_n C dL_law_675 hl rfl ?_
  refine r_const C dL_law_676 ?_
  refine r_iadd C dL_law_677 ?_
  refine r_sld C hX hbl hbA hw.2.2 hL (by omega) (by omega) dL_law_678 ?_
  refine r_aload_n C dL_law_679 hl rfl ?_
  refine r_iload_n C dL_law_680 hl rfl ?_
  refine r_const C dL_law_681 ?_
  refine r_iadd C dL_law_682 ?_
  refine r_sld C hX hbl hbA hw.2.2 hL (by omega) (by omega) dL_law_683 ?_
  refine r2_1I hA hw (run_v0 C (wd2_1 hw) clX8 rfl (c_X8_see hwp) (cwV 3 C.2.2.2.2.1 gL_law_X8_see rfl rfl rfl hd_X8_see ⟨(Nat.le_of_ble_eq_true rfl), (Nat.le_of_ble_eq_true rfl)⟩) rfl rfl rfl hl dL_law_684 ⟨Nat.le_refl _, Nat.le_refl _⟩) (fun r1 σ1 H locs hwp hw9 => ?_)
  have hw := hw9
  clear hw9
  refine r_aload_n C dL_law_687 hl rfl ?_
  refine r_aload_n C dL_law_688 hl rfl ?_
  refine r_iload_n C dL_law_689 hl rfl ?_
  refine r_const C dL_law_690 ?_
  refine r_iadd C dL_law_691 ?_
  refine r_sld C hX hbl hbA hw.2.2 hL (by omega) (by omega) dL_law_692 ?_
  refine r_aload_n C dL_law_693 hl rfl ?_
  refine r_iload_n C dL_law_694 hl rfl ?_
  refine r_const C dL_law_695 ?_
  refine r_iadd C dL_law_696 ?_
  refine r_sld C hX hbl hbA hw.2.2 hL (by omega) (by omega) dL_law_697 ?_
  refine r_aload_n C dL_law_698 hl rfl ?_
  refine r_iload_n C dL_law_699 hl rfl ?_
  refine r_const C dL_law_700 ?_
  refine r_iadd C dL_law_701 ?_
  refine r_sld C hX hbl hbA hw.2.2 hL (by omega) (by omega) dL_law_702 ?_
  refine r2_2I hA hw (run_v0 C (wd2_2 hw) clX9 rfl (c_X9_see hwp) (cwV 3 C.2.2.2.2.1 gL_law_X9_see rfl rfl rfl hd_X9_see ⟨(Nat.le_of_ble_eq_true rfl), (Nat.le_of_ble_eq_true rfl)⟩) rfl rfl rfl hl dL_law_703 ⟨Nat.le_refl _, Nat.le_refl _⟩) (fun r2 σ2 H locs hwp hw9 => ?_)
  have hw := hw9
  clear hw9
  obtain ⟨ra, rb, e9, hwp⟩ := hwp
  refine r_icmp_eq C (tgt := 1209) dL_law_706 rfl ra rb (fun hc => ?_) (fun hc => absurd e9 hc)
  exact law_t C hw hl (ih hwp)
set_option maxRecDepth 100000 in
theorem law_c19 (C : cx p s m #[Value.ref b] meth c lw_tbl RL cL_law 4 ret D cA) (hX : va_X b L xs s s.heap) (hbl : b < s.heap.size) (hL : L ≤ 3072) {k : Int → St → St → Prop} (ih : ∀ {i : Int} {σ τ : St}, k i σ τ → ∀ {H : Heap} {locs : List Loc} {ls : Array Slot}, wd2 D cA K_BT hx σ K_M hm2 τ (fun q => s.heap.size ≤ q) s.heap H locs → lh ls 4 [some (.ref b), some (.ref (hx 0)), some (.ref (hm2 0)), some (iv i)] → W p l e room_1 s m #[Value.ref b] below meth c H locs 600000 7302250 Q (F0 m 18 ls [])) {i : Int} (h0 : 0 ≤ i) (hi : ¬ ((L : Int) - 6 < i)) {σ τ : St} {H : Heap} {locs : List Loc} {ls : Array Slot} (hwp : wp_law_c19 xs k i σ τ) (hw : wd2 D cA K_BT hx σ K_M hm2 τ (fun q => s.heap.size ≤ q) s.heap H locs) (hl : lh ls 4 [some (.ref b), some (.ref (hx 0)), some (.ref (hm2 0)), some (iv i)]) : W p l e room_1 s m #[Value.ref b] below meth c H locs 600000 7302250 Q (F0 m 711 ls []) := by
  have hA : ∀ q : Nat, s.heap.size ≤ q → (fun q : Nat => s.heap.size ≤ q) q := fun _ h => h
  have hbA : ¬ (fun q : Nat => s.heap.size ≤ q) b := Nat.not_le.mpr hbl
  refine r_aload_n C dL_law_711 hl rfl ?_
  refine r_aload_n C dL_law_712 hl rfl ?_
  refine r_iload_n C dL_law_713 hl rfl ?_
  refine r_const C dL_law_714 ?_
  refine r_iadd C dL_law_715 ?_
  refine r_sld C hX hbl hbA hw.2.2 hL (by omega) (by omega) dL_law_716 ?_
  refine r2_1I hA hw (run_v0 C (wd2_1 hw) clX8 rfl (c_X8_fits hwp) (cwV 1 C.2.2.2.2.1 gL_law_X8_fits rfl rfl rfl hd_X8_fits ⟨(Nat.le_of_ble_eq_true rfl), (Nat.le_of_ble_eq_true rfl)⟩) rfl rfl rfl hl dL_law_717 ⟨Nat.le_refl _, Nat.le_refl _⟩) (fun r1 σ1 H locs hwp hw9 => ?_)
  have hw := hw9
  clear hw9
  refine r_aload_n C dL_law_720 hl rfl ?_
  refine r_aload_n C dL_law_721 hl rfl ?_
  refine r_iload_n C dL_law_722 hl rfl ?_
  refine r_const C dL_law_723 ?_
  refine r_iadd C dL_law_724 ?_
  refine r_sld C hX hbl hbA hw.2.2 hL (by omega) (by omega) dL_law_725 ?_
  refine r2_2I hA hw (run_v0 C (wd2_2 hw) clX9 rfl (c_X9_fits hwp) (cwV 1 C.2.2.2.2.1 gL_law_X9_fits rfl rfl rfl hd_X9_fits ⟨(Nat.le_of_ble_eq_true rfl), (Nat.le_of_ble_eq_true rfl)⟩) rfl rfl rfl hl dL_law_726 ⟨Nat.le_refl _, Nat.le_refl _⟩) (fun r2 σ2 H locs hwp hw9 => ?_)
  have hw := hw9
  clear hw9
  obtain ⟨ra, rb, e9, hwp⟩ := hwp
  refine r_icmp_eq C (tgt := 1209) dL_law_729 rfl ra rb (fun hc => ?_) (fun hc => absurd e9 hc)
  exact law_t C hw hl (ih hwp)
set_option maxRecDepth 100000 in
theorem law_c20 (C : cx p s m #[Value.ref b] meth c lw_tbl RL cL_law 4 ret D cA) (hX : va_X b L xs s s.heap) (hbl : b < s.heap.size) (hL : L ≤ 3072) {k : Int → St → St → Prop} (ih : ∀ {i : Int} {σ τ : St}, k i σ τ → ∀ {H : Heap} {locs : List Loc} {ls : Array Slot}, wd2 D cA K_BT hx σ K_M hm2 τ (fun q => s.heap.size ≤ q) s.heap H locs → lh ls 4 [some (.ref b), some (.ref (hx 0)), some (.ref (hm2 0)), some (iv i)] → W p l e room_1 s m #[Value.ref b] below meth c H locs 600000 7302250 Q (F0 m 18 ls [])) {i : Int} (h0 : 0 ≤ i) (hi : ¬ ((L : Int) - 6 < i)) {σ τ : St} {H : Heap} {locs : List Loc} {ls : Array Slot} (hwp : wp_law_c20 xs k i σ τ) (hw : wd2 D cA K_BT hx σ K_M hm2 τ (fun q => s.heap.size ≤ q) s.heap H locs) (hl : lh ls 4 [some (.ref b), some (.ref (hx 0)), some (.ref (hm2 0)), some (iv i)]) : W p l e room_1 s m #[Value.ref b] below meth c H locs 600000 7302250 Q (F0 m 734 ls []) := by
  have hA : ∀ q : Nat, s.heap.size ≤ q → (fun q : Nat => s.heap.size ≤ q) q := fun _ h => h
  have hbA : ¬ (fun q : Nat => s.heap.size ≤ q) b := Nat.not_le.mpr hbl
  refine r_aload_n C dL_law_734 hl rfl ?_
  refine r_aload_n C dL_law_735 hl rfl ?_
  refine r_iload_n C dL_law_736 hl rfl ?_
  refine r_const C dL_law_737 ?_
  refine r_iadd C dL_law_738 ?_
  refine r_sld C hX hbl hbA hw.2.2 hL (by omega) (by omega) dL_law_739 ?_
  refine r_aload_n C dL_law_740 hl rfl ?_
  refine r_iload_n C dL_law_741 hl rfl ?_
  refine r_const C dL_law_742 ?_
  refine r_iadd C dL_law_743 ?_
  refine r_sld C hX hbl hbA hw.2.2 hL (by omega) (by omega) dL_law_744 ?_
  refine r_aload_n C dL_law_745 hl rfl ?_
  refine r_iload_n C dL_law_746 hl rfl ?_
  refine r_const C dL_law_747 ?_
  refine r_iadd C dL_law_748 ?_
  refine r_sld C hX hbl hbA hw.2.2 hL (by omega) (by omega) dL_law_749 ?_
  refine r2_1L hA hw (run_v0 C (wd2_1 hw) clX8 rfl (c_X8_odds hwp) (cwV 3 C.2.2.2.2.1 gL_law_X8_odds rfl rfl rfl hd_X8_odds ⟨(Nat.le_of_ble_eq_true rfl), (Nat.le_of_ble_eq_true rfl)⟩) rfl rfl rfl hl dL_law_750 ⟨Nat.le_refl _, Nat.le_refl _⟩) (fun r1 σ1 H locs hwp hw9 => ?_)
  have hw := hw9
  clear hw9
  refine r_aload_n C dL_law_753 hl rfl ?_
  refine r_aload_n C dL_law_754 hl rfl ?_
  refine r_iload_n C dL_law_755 hl rfl ?_
  refine r_const C dL_law_756 ?_
  refine r_iadd C dL_law_757 ?_
  refine r_sld C hX hbl hbA hw.2.2 hL (by omega) (by omega) dL_law_758 ?_
  refine r_aload_n C dL_law_759 hl rfl ?_
  refine r_iload_n C dL_law_760 hl rfl ?_
  refine r_const C dL_law_761 ?_
  refine r_iadd C dL_law_762 ?_
  refine r_sld C hX hbl hbA hw.2.2 hL (by omega) (by omega) dL_law_763 ?_
  refine r_aload_n C dL_law_764 hl rfl ?_
  refine r_iload_n C dL_law_765 hl rfl ?_
  refine r_const C dL_law_766 ?_
  refine r_iadd C dL_law_767 ?_
  refine r_sld C hX hbl hbA hw.2.2 hL (by omega) (by omega) dL_law_768 ?_
  refine r2_2L hA hw (run_v0 C (wd2_2 hw) clX9 rfl (c_X9_odds hwp) (cwV 3 C.2.2.2.2.1 gL_law_X9_odds rfl rfl rfl hd_X9_odds ⟨(Nat.le_of_ble_eq_true rfl), (Nat.le_of_ble_eq_true rfl)⟩) rfl rfl rfl hl dL_law_769 ⟨Nat.le_refl _, Nat.le_refl _⟩) (fun r2 σ2 H locs hwp hw9 => ?_)
  have hw := hw9
  clear hw9
  obtain ⟨ra, rb, e9, hwp⟩ := hwp
  refine r_lcmp C dL_law_772 ra rb ?_
  refine r_if_eq C (tgt := 1209) dL_law_773 rfl (lcp_rg _ _) (fun hc => ?_) (fun hc => absurd (lcp_eq e9) hc)
  exact law_t C hw hl (ih hwp)
set_option maxRecDepth 100000 in
theorem law_c21 (C : cx p s m #[Value.ref b] meth c lw_tbl RL cL_law 4 ret D cA) (hX : va_X b L xs s s.heap) (hbl : b < s.heap.size) (hL : L ≤ 3072) {k : Int → St → St → Prop} (ih : ∀ {i : Int} {σ τ : St}, k i σ τ → ∀ {H : Heap} {locs : List Loc} {ls : Array Slot}, wd2 D cA K_BT hx σ K_M hm2 τ (fun q => s.heap.size ≤ q) s.heap H locs → lh ls 4 [some (.ref b), some (.ref (hx 0)), some (.ref (hm2 0)), some (iv i)] → W p l e room_1 s m #[Value.ref b] below meth c H locs 600000 7302250 Q (F0 m 18 ls [])) {i : Int} (h0 : 0 ≤ i) (hi : ¬ ((L : Int) - 6 < i)) {σ τ : St} {H : Heap} {locs : List Loc} {ls : Array Slot} (hwp : wp_law_c21 xs k i σ τ) (hw : wd2 D cA K_BT hx σ K_M hm2 τ (fun q => s.heap.size ≤ q) s.heap H locs) (hl : lh ls 4 [some (.ref b), some (.ref (hx 0)), some (.ref (hm2 0)), some (iv i)]) : W p l e room_1 s m #[Value.ref b] below meth c H locs 600000 7302250 Q (F0 m 778 ls []) := by
  have hA : ∀ q : Nat, s.heap.size ≤ q → (fun q : Nat => s.heap.size ≤ q) q := fun _ h => h
  have hbA : ¬ (fun q : Nat => s.heap.size ≤ q) b := Nat.not_le.mpr hbl
  refine r_aload_n C dL_law_778 hl rfl ?_
  refine r_aload_n C dL_law_779 hl rfl ?_
  refine r_iload_n C dL_law_780 hl rfl ?_
  refine r_const C dL_law_781 ?_
  refine r_iadd C dL_law_782 ?_
  refine r_sld C hX hbl hbA hw.2.2 hL (by omega) (by omega) dL_law_783 ?_
  refine r2_1L hA hw (run_v0 C (wd2_1 hw) clX8 rfl (c_X8_mean hwp) (cwV 1 C.2.2.2.2.1 gL_law_X8_mean rfl rfl rfl hd_X8_mean ⟨(Nat.le_of_ble_eq_true rfl), (Nat.le_of_ble_eq_true rfl)⟩) rfl rfl rfl hl dL_law_784 ⟨Nat.le_refl _, Nat.le_refl _⟩) (fun r1 σ1 H locs hwp hw9 => ?_)
  have hw := hw9
  clear hw9
  refine r_aload_n C dL_law_787 hl rfl ?_
  refine r_aload_n C dL_law_788 hl rfl ?_
  refine r_iload_n C dL_law_789 hl rfl ?_
  refine r_const C dL_law_790 ?_
  refine r_iadd C dL_law_791 ?_
  refine r_sld C hX hbl hbA hw.2.2 hL (by omega) (by omega) dL_law_792 ?_
  refine r2_2L hA hw (run_v0 C (wd2_2 hw) clX9 rfl (c_X9_mean hwp) (cwV 1 C.2.2.2.2.1 gL_law_X9_mean rfl rfl rfl hd_X9_mean ⟨(Nat.le_of_ble_eq_true rfl), (Nat.le_of_ble_eq_true rfl)⟩) rfl rfl rfl hl dL_law_793 ⟨Nat.le_refl _, Nat.le_refl _⟩) (fun r2 σ2 H locs hwp hw9 => ?_)
  have hw := hw9
  clear hw9
  obtain ⟨ra, rb, e9, hwp⟩ := hwp
  refine r_lcmp C dL_law_796 ra rb ?_
  refine r_if_eq C (tgt := 1209) dL_law_797 rfl (lcp_rg _ _) (fun hc => ?_) (fun hc => absurd (lcp_eq e9) hc)
  exact law_t C hw hl (ih hwp)
set_option maxRecDepth 100000 in
theorem law_c22 (C : cx p s m #[Value.ref b] meth c lw_tbl RL cL_law 4 ret D cA) (hX : va_X b L xs s s.heap) (hbl : b < s.heap.size) (hL : L ≤ 3072) {k : Int → St → St → Prop} (ih : ∀ {i : Int} {σ τ : St}, k i σ τ → ∀ {H : Heap} {locs : List Loc} {ls : Array Slot}, wd2 D cA K_BT hx σ K_M hm2 τ (fun q => s.heap.size ≤ q) s.heap H locs → lh ls 4 [some (.ref b), some (.ref (hx 0)), some (.ref (hm2 0)), some (iv i)] → W p l e room_1 s m #[Value.ref b] below meth c H locs 600000 7302250 Q (F0 m 18 ls [])) {i : Int} (h0 : 0 ≤ i) (hi : ¬ ((L : Int) - 6 < i)) {σ τ : St} {H : Heap} {locs : List Loc} {ls : Array Slot} (hwp : wp_law_c22 xs k i σ τ) (hw : wd2 D cA K_BT hx σ K_M hm2 τ (fun q => s.heap.size ≤ q) s.heap H locs) (hl : lh ls 4 [some (.ref b), some (.ref (hx 0)), some (.ref (hm2 0)), some (iv i)]) : W p l e room_1 s m #[Value.ref b] below meth c H locs 600000 7302250 Q (F0 m 802 ls []) := by
  have hA : ∀ q : Nat, s.heap.size ≤ q → (fun q : Nat => s.heap.size ≤ q) q := fun _ h => h
  have hbA : ¬ (fun q : Nat => s.heap.size ≤ q) b := Nat.not_le.mpr hbl
  refine r_aload_n C dL_law_802 hl rfl ?_
  refine r_aload_n C dL_law_803 hl rfl ?_
  refine r_iload_n C dL_law_804 hl rfl ?_
  refine r_const C dL_law_805 ?_
  refine r_iadd C dL_law_806 ?_
  refine r_sld C hX hbl hbA hw.2.2 hL (by omega) (by omega) dL_law_807 ?_
  refine r_aload_n C dL_law_808 hl rfl ?_
  refine r_iload_n C dL_law_809 hl rfl ?_
  refine r_const C dL_law_810 ?_
  refine r_iadd C dL_law_811 ?_
  refine r_sld C hX hbl hbA hw.2.2 hL (by omega) (by omega) dL_law_812 ?_
  refine r2_1I hA hw (run_v0 C (wd2_1 hw) clX8 rfl (c_X8_event hwp) (cwV 2 C.2.2.2.2.1 gL_law_X8_event rfl rfl rfl hd_X8_event ⟨(Nat.le_of_ble_eq_true rfl), (Nat.le_of_ble_eq_true rfl)⟩) rfl rfl rfl hl dL_law_813 ⟨Nat.le_refl _, Nat.le_refl _⟩) (fun r1 σ1 H locs hwp hw9 => ?_)
  have hw := hw9
  clear hw9
  refine r_aload_n C dL_law_816 hl rfl ?_
  refine r_aload_n C dL_law_817 hl rfl ?_
  refine r_iload_n C dL_law_818 hl rfl ?_
  refine r_const C dL_law_819 ?_
  refine r_iadd C dL_law_820 ?_
  refine r_sld C hX hbl hbA hw.2.2 hL (by omega) (by omega) dL_law_821 ?_
  refine r_aload_n C dL_law_822 hl rfl ?_
  refine r_iload_n C dL_law_823 hl rfl ?_
  refine r_const C dL_law_824 ?_
  refine r_iadd C dL_law_825 ?_
  refine r_sld C hX hbl hbA hw.2.2 hL (by omega) (by omega) dL_law_826 ?_
  refine r2_2I hA hw (run_v0 C (wd2_2 hw) clX9 rfl (c_X9_event hwp) (cwV 2 C.2.2.2.2.1 gL_law_X9_event rfl rfl rfl hd_X9_event ⟨(Nat.le_of_ble_eq_true rfl), (Nat.le_of_ble_eq_true rfl)⟩) rfl rfl rfl hl dL_law_827 ⟨Nat.le_refl _, Nat.le_refl _⟩) (fun r2 σ2 H locs hwp hw9 => ?_)
  have hw := hw9
  clear hw9
  obtain ⟨ra, rb, e9, hwp⟩ := hwp
  refine r_icmp_eq C (tgt := 1209) dL_law_830 rfl ra rb (fun hc => ?_) (fun hc => absurd e9 hc)
  exact law_t C hw hl (ih hwp)
set_option maxRecDepth 100000 in
theorem law_c23 (C : cx p s m #[Value.ref b] meth c lw_tbl RL cL_law 4 ret D cA) (hX : va_X b L xs s s.heap) (hbl : b < s.heap.size) (hL : L ≤ 3072) {k : Int → St → St → Prop} (ih : ∀ {i : Int} {σ τ : St}, k i σ τ → ∀ {H : Heap} {locs : List Loc} {ls : Array Slot}, wd2 D cA K_BT hx σ K_M hm2 τ (fun q => s.heap.size ≤ q) s.heap H locs → lh ls 4 [some (.ref b), some (.ref (hx 0)), some (.ref (hm2 0)), some (iv i)] → W p l e room_1 s m #[Value.ref b] below meth c H locs 600000 7302250 Q (F0 m 18 ls [])) {i : Int} (h0 : 0 ≤ i) (hi : ¬ ((L : Int) - 6 < i)) {σ τ : St} {H : Heap} {locs : List Loc} {ls : Array Slot} (hwp : wp_law_c23 xs k i σ τ) (hw : wd2 D cA K_BT hx σ K_M hm2 τ (fun q => s.heap.size ≤ q) s.heap H locs) (hl : lh ls 4 [some (.ref b), some (.ref (hx 0)), some (.ref (hm2 0)), some (iv i)]) : W p l e room_1 s m #[Value.ref b] below meth c H locs 600000 7302250 Q (F0 m 835 ls []) := by
  have hA : ∀ q : Nat, s.heap.size ≤ q → (fun q : Nat => s.heap.size ≤ q) q := fun _ h => h
  have hbA : ¬ (fun q : Nat => s.heap.size ≤ q) b := Nat.not_le.mpr hbl
  refine r_aload_n C dL_law_835 hl rfl ?_
  refine r_aload_n C dL_law_836 hl rfl ?_
  refine r_iload_n C dL_law_837 hl rfl ?_
  refine r_const C dL_law_838 ?_
  refine r_iadd C dL_law_839 ?_
  refine r_sld C hX hbl hbA hw.2.2 hL (by omega) (by omega) dL_law_840 ?_
  refine r2_1I hA hw (run_v0 C (wd2_1 hw) clX8 rfl (c_X8_after hwp) (cwV 1 C.2.2.2.2.1 gL_law_X8_after rfl rfl rfl hd_X8_after ⟨(Nat.le_of_ble_eq_true rfl), (Nat.le_of_ble_eq_true rfl)⟩) rfl rfl rfl hl dL_law_841 ⟨Nat.le_refl _, Nat.le_refl _⟩) (fun r1 σ1 H locs hwp hw9 => ?_)
  have hw := hw9
  clear hw9
  refine r_aload_n C dL_law_844 hl rfl ?_
  refine r_aload_n C dL_law_845 hl rfl ?_
  refine r_iload_n C dL_law_846 hl rfl ?_
  refine r_const C dL_law_847 ?_
  refine r_iadd C dL_law_848 ?_
  refine r_sld C hX hbl hbA hw.2.2 hL (by omega) (by omega) dL_law_849 ?_
  refine r2_2I hA hw (run_v0 C (wd2_2 hw) clX9 rfl (c_X9_after hwp) (cwV 1 C.2.2.2.2.1 gL_law_X9_after rfl rfl rfl hd_X9_after ⟨(Nat.le_of_ble_eq_true rfl), (Nat.le_of_ble_eq_true rfl)⟩) rfl rfl rfl hl dL_law_850 ⟨Nat.le_refl _, Nat.le_refl _⟩) (fun r2 σ2 H locs hwp hw9 => ?_)
  have hw := hw9
  clear hw9
  obtain ⟨ra, rb, e9, hwp⟩ := hwp
  refine r_icmp_eq C (tgt := 1209) dL_law_853 rfl ra rb (fun hc => ?_) (fun hc => absurd e9 hc)
  exact law_t C hw hl (ih hwp)
set_option maxRecDepth 100000 in
theorem law_c24 (C : cx p s m #[Value.ref b] meth c lw_tbl RL cL_law 4 ret D cA) (hX : va_X b L xs s s.heap) (hbl : b < s.heap.size) (hL : L ≤ 3072) {k : Int → St → St → Prop} (ih : ∀ {i : Int} {σ τ : St}, k i σ τ → ∀ {H : Heap} {locs : List Loc} {ls : Array Slot}, wd2 D cA K_BT hx σ K_M hm2 τ (fun q => s.heap.size ≤ q) s.heap H locs → lh ls 4 [some (.ref b), some (.ref (hx 0)), some (.ref (hm2 0)), some (iv i)] → W p l e room_1 s m #[Value.ref b] below meth c H locs 600000 7302250 Q (F0 m 18 ls [])) {i : Int} (h0 : 0 ≤ i) (hi : ¬ ((L : Int) - 6 < i)) {σ τ : St} {H : Heap} {locs : List Loc} {ls : Array Slot} (hwp : wp_law_c24 xs k i σ τ) (hw : wd2 D cA K_BT hx σ K_M hm2 τ (fun q => s.heap.size ≤ q) s.heap H locs) (hl : lh ls 4 [some (.ref b), some (.ref (hx 0)), some (.ref (hm2 0)), some (iv i)]) : W p l e room_1 s m #[Value.ref b] below meth c H locs 600000 7302250 Q (F0 m 858 ls []) := by
  have hA : ∀ q : Nat, s.heap.size ≤ q → (fun q : Nat => s.heap.size ≤ q) q := fun _ h => h
  have hbA : ¬ (fun q : Nat => s.heap.size ≤ q) b := Nat.not_le.mpr hbl
  refine r_aload_n C dL_law_858 hl rfl ?_
  refine r_aload_n C dL_law_859 hl rfl ?_
  refine r_iload_n C dL_law_860 hl rfl ?_
  refine r_const C dL_law_861 ?_
  refine r_iadd C dL_law_862 ?_
  refine r_sld C hX hbl hbA hw.2.2 hL (by omega) (by omega) dL_law_863 ?_
  refine r_aload_n C dL_law_864 hl rfl ?_
  refine r_iload_n C dL_law_865 hl rfl ?_
  refine r_const C dL_law_866 ?_
  refine r_iadd C dL_law_867 ?_
  refine r_sld C hX hbl hbA hw.2.2 hL (by omega) (by omega) dL_law_868 ?_
  refine r2_1I hA hw (run_v0 C (wd2_1 hw) clX8 rfl (c_X8_book hwp) (cwV 2 C.2.2.2.2.1 gL_law_X8_book rfl rfl rfl hd_X8_book ⟨(Nat.le_of_ble_eq_true rfl), (Nat.le_of_ble_eq_true rfl)⟩) rfl rfl rfl hl dL_law_869 ⟨Nat.le_refl _, Nat.le_refl _⟩) (fun r1 σ1 H locs hwp hw9 => ?_)
  have hw := hw9
  clear hw9
  refine r_aload_n C dL_law_872 hl rfl ?_
  refine r_aload_n C dL_law_873 hl rfl ?_
  refine r_iload_n C dL_law_874 hl rfl ?_
  refine r_const C dL_law_875 ?_
  refine r_iadd C dL_law_876 ?_
  refine r_sld C hX hbl hbA hw.2.2 hL (by omega) (by omega) dL_law_877 ?_
  refine r_aload_n C dL_law_878 hl rfl ?_
  refine r_iload_n C dL_law_879 hl rfl ?_
  refine r_const C dL_law_880 ?_
  refine r_iadd C dL_law_881 ?_
  refine r_sld C hX hbl hbA hw.2.2 hL (by omega) (by omega) dL_law_882 ?_
  refine r2_2I hA hw (run_v0 C (wd2_2 hw) clX9 rfl (c_X9_book hwp) (cwV 2 C.2.2.2.2.1 gL_law_X9_book rfl rfl rfl hd_X9_book ⟨(Nat.le_of_ble_eq_true rfl), (Nat.le_of_ble_eq_true rfl)⟩) rfl rfl rfl hl dL_law_883 ⟨Nat.le_refl _, Nat.le_refl _⟩) (fun r2 σ2 H locs hwp hw9 => ?_)
  have hw := hw9
  clear hw9
  obtain ⟨ra, rb, e9, hwp⟩ := hwp
  refine r_icmp_eq C (tgt := 1209) dL_law_886 rfl ra rb (fun hc => ?_) (fun hc => absurd e9 hc)
  exact law_t C hw hl (ih hwp)
set_option maxRecDepth 100000 in
theorem law_c25 (C : cx p s m #[Value.ref b] meth c lw_tbl RL cL_law 4 ret D cA) (hX : va_X b L xs s s.heap) (hbl : b < s.heap.size) (hL : L ≤ 3072) {k : Int → St → St → Prop} (ih : ∀ {i : Int} {σ τ : St}, k i σ τ → ∀ {H : Heap} {locs : List Loc} {ls : Array Slot}, wd2 D cA K_BT hx σ K_M hm2 τ (fun q => s.heap.size ≤ q) s.heap H locs → lh ls 4 [some (.ref b), some (.ref (hx 0)), some (.ref (hm2 0)), some (iv i)] → W p l e room_1 s m #[Value.ref b] below meth c H locs 600000 7302250 Q (F0 m 18 ls [])) {i : Int} (h0 : 0 ≤ i) (hi : ¬ ((L : Int) - 6 < i)) {σ τ : St} {H : Heap} {locs : List Loc} {ls : Array Slot} (hwp : wp_law_c25 xs k i σ τ) (hw : wd2 D cA K_BT hx σ K_M hm2 τ (fun q => s.heap.size ≤ q) s.heap H locs) (hl : lh ls 4 [some (.ref b), some (.ref (hx 0)), some (.ref (hm2 0)), some (iv i)]) : W p l e room_1 s m #[Value.ref b] below meth c H locs 600000 7302250 Q (F0 m 891 ls []) := by
  have hA : ∀ q : Nat, s.heap.size ≤ q → (fun q : Nat => s.heap.size ≤ q) q := fun _ h => h
  have hbA : ¬ (fun q : Nat => s.heap.size ≤ q) b := Nat.not_le.mpr hbl
  refine r_aload_n C dL_law_891 hl rfl ?_
  refine r2_1I hA hw (run_v0 C (wd2_1 hw) clX8 rfl (c_X8_looked hwp) (cwV 0 C.2.2.2.2.1 gL_law_X8_looked rfl rfl rfl hd_X8_looked ⟨(Nat.le_of_ble_eq_true rfl), (Nat.le_of_ble_eq_true rfl)⟩) rfl rfl rfl hl dL_law_892 ⟨Nat.le_refl _, Nat.le_refl _⟩) (fun r1 σ1 H locs hwp hw9 => ?_)
  have hw := hw9
  clear hw9
  refine r_aload_n C dL_law_895 hl rfl ?_
  refine r2_2I hA hw (run_v0 C (wd2_2 hw) clX9 rfl (c_X9_looked hwp) (cwV 0 C.2.2.2.2.1 gL_law_X9_looked rfl rfl rfl hd_X9_looked ⟨(Nat.le_of_ble_eq_true rfl), (Nat.le_of_ble_eq_true rfl)⟩) rfl rfl rfl hl dL_law_896 ⟨Nat.le_refl _, Nat.le_refl _⟩) (fun r2 σ2 H locs hwp hw9 => ?_)
  have hw := hw9
  clear hw9
  obtain ⟨ra, rb, e9, hwp⟩ := hwp
  refine r_icmp_eq C (tgt := 1209) dL_law_899 rfl ra rb (fun hc => ?_) (fun hc => absurd e9 hc)
  exact law_t C hw hl (ih hwp)
set_option maxRecDepth 100000 in
theorem law_c26 (C : cx p s m #[Value.ref b] meth c lw_tbl RL cL_law 4 ret D cA) (hX : va_X b L xs s s.heap) (hbl : b < s.heap.size) (hL : L ≤ 3072) {k : Int → St → St → Prop} (ih : ∀ {i : Int} {σ τ : St}, k i σ τ → ∀ {H : Heap} {locs : List Loc} {ls : Array Slot}, wd2 D cA K_BT hx σ K_M hm2 τ (fun q => s.heap.size ≤ q) s.heap H locs → lh ls 4 [some (.ref b), some (.ref (hx 0)), some (.ref (hm2 0)), some (iv i)] → W p l e room_1 s m #[Value.ref b] below meth c H locs 600000 7302250 Q (F0 m 18 ls [])) {i : Int} (h0 : 0 ≤ i) (hi : ¬ ((L : Int) - 6 < i)) {σ τ : St} {H : Heap} {locs : List Loc} {ls : Array Slot} (hwp : wp_law_c26 xs k i σ τ) (hw : wd2 D cA K_BT hx σ K_M hm2 τ (fun q => s.heap.size ≤ q) s.heap H locs) (hl : lh ls 4 [some (.ref b), some (.ref (hx 0)), some (.ref (hm2 0)), some (iv i)]) : W p l e room_1 s m #[Value.ref b] below meth c H locs 600000 7302250 Q (F0 m 904 ls []) := by
  have hA : ∀ q : Nat, s.heap.size ≤ q → (fun q : Nat => s.heap.size ≤ q) q := fun _ h => h
  have hbA : ¬ (fun q : Nat => s.heap.size ≤ q) b := Nat.not_le.mpr hbl
  refine r_aload_n C dL_law_904 hl rfl ?_
  refine r_aload_n C dL_law_905 hl rfl ?_
  refine r_iload_n C dL_law_906 hl rfl ?_
  refine r_const C dL_law_907 ?_
  refine r_iadd C dL_law_908 ?_
  refine r_sld C hX hbl hbA hw.2.2 hL (by omega) (by omega) dL_law_909 ?_
  refine r_aload_n C dL_law_910 hl rfl ?_
  refine r_iload_n C dL_law_911 hl rfl ?_
  refine r_const C dL_law_912 ?_
  refine r_iadd C dL_law_913 ?_
  refine r_sld C hX hbl hbA hw.2.2 hL (by omega) (by omega) dL_law_914 ?_
  refine r_aload_n C dL_law_915 hl rfl ?_
  refine r_iload_n C dL_law_916 hl rfl ?_
  refine r_const C dL_law_917 ?_
  refine r_iadd C dL_law_918 ?_
  refine r_sld C hX hbl hbA hw.2.2 hL (by omega) (by omega) dL_law_919 ?_
  refine r2_1I hA hw (run_v0 C (wd2_1 hw) clX8 rfl (c_X8_judge hwp) (cwV 3 C.2.2.2.2.1 gL_law_X8_judge rfl rfl rfl hd_X8_judge ⟨(Nat.le_of_ble_eq_true rfl), (Nat.le_of_ble_eq_true rfl)⟩) rfl rfl rfl hl dL_law_920 ⟨Nat.le_refl _, Nat.le_refl _⟩) (fun r1 σ1 H locs hwp hw9 => ?_)
  have hw := hw9
  clear hw9
  refine r_aload_n C dL_law_923 hl rfl ?_
  refine r_aload_n C dL_law_924 hl rfl ?_
  refine r_iload_n C dL_law_925 hl rfl ?_
  refine r_const C dL_law_926 ?_
  refine r_iadd C dL_law_927 ?_
  refine r_sld C hX hbl hbA hw.2.2 hL (by omega) (by omega) dL_law_928 ?_
  refine r_aload_n C dL_law_929 hl rfl ?_
  refine r_iload_n C dL_law_930 hl rfl ?_
  refine r_const C dL_law_931 ?_
  refine r_iadd C dL_law_932 ?_
  refine r_sld C hX hbl hbA hw.2.2 hL (by omega) (by omega) dL_law_933 ?_
  refine r_aload_n C dL_law_934 hl rfl ?_
  refine r_iload_n C dL_law_935 hl rfl ?_
  refine r_const C dL_law_936 ?_
  refine r_iadd C dL_law_937 ?_
  refine r_sld C hX hbl hbA hw.2.2 hL (by omega) (by omega) dL_law_938 ?_
  refine r2_2I hA hw (run_v0 C (wd2_2 hw) clX9 rfl (c_X9_judge hwp) (cwV 3 C.2.2.2.2.1 gL_law_X9_judge rfl rfl rfl hd_X9_judge ⟨(Nat.le_of_ble_eq_true rfl), (Nat.le_of_ble_eq_true rfl)⟩) rfl rfl rfl hl dL_law_939 ⟨Nat.le_refl _, Nat.le_refl _⟩) (fun r2 σ2 H locs hwp hw9 => ?_)
  have hw := hw9
  clear hw9
  obtain ⟨ra, rb, e9, hwp⟩ := hwp
  refine r_icmp_eq C (tgt := 1209) dL_law_942 rfl ra rb (fun hc => ?_) (fun hc => absurd e9 hc)
  exact law_t C hw hl (ih hwp)
set_option maxRecDepth 100000 in
theorem law_c27 (C : cx p s m #[Value.ref b] meth c lw_tbl RL cL_law 4 ret D cA) (hX : va_X b L xs s s.heap) (hbl : b < s.heap.size) (hL : L ≤ 3072) {k : Int → St → St → Prop} (ih : ∀ {i : Int} {σ τ : St}, k i σ τ → ∀ {H : Heap} {locs : List Loc} {ls : Array Slot}, wd2 D cA K_BT hx σ K_M hm2 τ (fun q => s.heap.size ≤ q) s.heap H locs → lh ls 4 [some (.ref b), some (.ref (hx 0)), some (.ref (hm2 0)), some (iv i)] → W p l e room_1 s m #[Value.ref b] below meth c H locs 600000 7302250 Q (F0 m 18 ls [])) {i : Int} (h0 : 0 ≤ i) (hi : ¬ ((L : Int) - 6 < i)) {σ τ : St} {H : Heap} {locs : List Loc} {ls : Array Slot} (hwp : wp_law_c27 xs k i σ τ) (hw : wd2 D cA K_BT hx σ K_M hm2 τ (fun q => s.heap.size ≤ q) s.heap H locs) (hl : lh ls 4 [some (.ref b), some (.ref (hx 0)), some (.ref (hm2 0)), some (iv i)]) : W p l e room_1 s m #[Value.ref b] below meth c H locs 600000 7302250 Q (F0 m 947 ls []) := by
  have hA : ∀ q : Nat, s.heap.size ≤ q → (fun q : Nat => s.heap.size ≤ q) q := fun _ h => h
  have hbA : ¬ (fun q : Nat => s.heap.size ≤ q) b := Nat.not_le.mpr hbl
  refine r_aload_n C dL_law_947 hl rfl ?_
  refine r2_1I hA hw (run_v0 C (wd2_1 hw) clX8 rfl (c_X8_image hwp) (cwV 0 C.2.2.2.2.1 gL_law_X8_image rfl rfl rfl hd_X8_image ⟨(Nat.le_of_ble_eq_true rfl), (Nat.le_of_ble_eq_true rfl)⟩) rfl rfl rfl hl dL_law_948 ⟨Nat.le_refl _, Nat.le_refl _⟩) (fun r1 σ1 H locs hwp hw9 => ?_)
  have hw := hw9
  clear hw9
  refine r_aload_n C dL_law_951 hl rfl ?_
  refine r2_2I hA hw (run_v0 C (wd2_2 hw) clX9 rfl (c_X9_image hwp) (cwV 0 C.2.2.2.2.1 gL_law_X9_image rfl rfl rfl hd_X9_image ⟨(Nat.le_of_ble_eq_true rfl), (Nat.le_of_ble_eq_true rfl)⟩) rfl rfl rfl hl dL_law_952 ⟨Nat.le_refl _, Nat.le_refl _⟩) (fun r2 σ2 H locs hwp hw9 => ?_)
  have hw := hw9
  clear hw9
  obtain ⟨ra, rb, e9, hwp⟩ := hwp
  refine r_icmp_eq C (tgt := 1209) dL_law_955 rfl ra rb (fun hc => ?_) (fun hc => absurd e9 hc)
  exact law_t C hw hl (ih hwp)
set_option maxRecDepth 100000 in
theorem law_c28 (C : cx p s m #[Value.ref b] meth c lw_tbl RL cL_law 4 ret D cA) (hX : va_X b L xs s s.heap) (hbl : b < s.heap.size) (hL : L ≤ 3072) {k : Int → St → St → Prop} (ih : ∀ {i : Int} {σ τ : St}, k i σ τ → ∀ {H : Heap} {locs : List Loc} {ls : Array Slot}, wd2 D cA K_BT hx σ K_M hm2 τ (fun q => s.heap.size ≤ q) s.heap H locs → lh ls 4 [some (.ref b), some (.ref (hx 0)), some (.ref (hm2 0)), some (iv i)] → W p l e room_1 s m #[Value.ref b] below meth c H locs 600000 7302250 Q (F0 m 18 ls [])) {i : Int} (h0 : 0 ≤ i) (hi : ¬ ((L : Int) - 6 < i)) {σ τ : St} {H : Heap} {locs : List Loc} {ls : Array Slot} (hwp : wp_law_c28 xs k i σ τ) (hw : wd2 D cA K_BT hx σ K_M hm2 τ (fun q => s.heap.size ≤ q) s.heap H locs) (hl : lh ls 4 [some (.ref b), some (.ref (hx 0)), some (.ref (hm2 0)), some (iv i)]) : W p l e room_1 s m #[Value.ref b] below meth c H locs 600000 7302250 Q (F0 m 960 ls []) := by
  have hA : ∀ q : Nat, s.heap.size ≤ q → (fun q : Nat => s.heap.size ≤ q) q := fun _ h => h
  have hbA : ¬ (fun q : Nat => s.heap.size ≤ q) b := Nat.not_le.mpr hbl
  refine r_aload_n C dL_law_960 hl rfl ?_
  refine r2_1I hA hw (run_v0 C (wd2_1 hw) clX8 rfl (c_X8_undo hwp) (cwV 0 C.2.2.2.2.1 gL_law_X8_undo rfl rfl rfl hd_X8_undo ⟨(Nat.le_of_ble_eq_true rfl), (Nat.le_of_ble_eq_true rfl)⟩) rfl rfl rfl hl dL_law_961 ⟨Nat.le_refl _, Nat.le_refl _⟩) (fun r1 σ1 H locs hwp hw9 => ?_)
  have hw := hw9
  clear hw9
  refine r_aload_n C dL_law_964 hl rfl ?_
  refine r2_2I hA hw (run_v0 C (wd2_2 hw) clX9 rfl (c_X9_undo hwp) (cwV 0 C.2.2.2.2.1 gL_law_X9_undo rfl rfl rfl hd_X9_undo ⟨(Nat.le_of_ble_eq_true rfl), (Nat.le_of_ble_eq_true rfl)⟩) rfl rfl rfl hl dL_law_965 ⟨Nat.le_refl _, Nat.le_refl _⟩) (fun r2 σ2 H locs hwp hw9 => ?_)
  have hw := hw9
  clear hw9
  obtain ⟨ra, rb, e9, hwp⟩ := hwp
  refine r_icmp_eq C (tgt := 1209) dL_law_968 rfl ra rb (fun hc => ?_) (fun hc => absurd e9 hc)
  exact law_t C hw hl (ih hwp)
set_option maxRecDepth 100000 in
theorem law_c29 (C : cx p s m #[Value.ref b] meth c lw_tbl RL cL_law 4 ret D cA) (hX : va_X b L xs s s.heap) (hbl : b < s.heap.size) (hL : L ≤ 3072) {k : Int → St → St → Prop} (ih : ∀ {i : Int} {σ τ : St}, k i σ τ → ∀ {H : Heap} {locs : List Loc} {ls : Array Slot}, wd2 D cA K_BT hx σ K_M hm2 τ (fun q => s.heap.size ≤ q) s.heap H locs → lh ls 4 [some (.ref b), some (.ref (hx 0)), some (.ref (hm2 0)), some (iv i)] → W p l e room_1 s m #[Value.ref b] below meth c H locs 600000 7302250 Q (F0 m 18 ls [])) {i : Int} (h0 : 0 ≤ i) (hi : ¬ ((L : Int) - 6 < i)) {σ τ : St} {H : Heap} {locs : List Loc} {ls : Array Slot} (hwp : wp_law_c29 xs k i σ τ) (hw : wd2 D cA K_BT hx σ K_M hm2 τ (fun q => s.heap.size ≤ q) s.heap H locs) (hl : lh ls 4 [some (.ref b), some (.ref (hx 0)), some (.ref (hm2 0)), some (iv i)]) : W p l e room_1 s m #[Value.ref b] below meth c H locs 600000 7302250 Q (F0 m 973 ls []) := by
  have hA : ∀ q : Nat, s.heap.size ≤ q → (fun q : Nat => s.heap.size ≤ q) q := fun _ h => h
  have hbA : ¬ (fun q : Nat => s.heap.size ≤ q) b := Nat.not_le.mpr hbl
  refine r_aload_n C dL_law_973 hl rfl ?_
  refine r_aload_n C dL_law_974 hl rfl ?_
  refine r_iload_n C dL_law_975 hl rfl ?_
  refine r_const C dL_law_976 ?_
  refine r_iadd C dL_law_977 ?_
  refine r_sld C hX hbl hbA hw.2.2 hL (by omega) (by omega) dL_law_978 ?_
  refine r2_1I hA hw (run_v0 C (wd2_1 hw) clX8 rfl (c_X8_count hwp) (cwV 1 C.2.2.2.2.1 gL_law_X8_count rfl rfl rfl hd_X8_count ⟨(Nat.le_of_ble_eq_true rfl), (Nat.le_of_ble_eq_true rfl)⟩) rfl rfl rfl hl dL_law_979 ⟨Nat.le_refl _, Nat.le_refl _⟩) (fun r1 σ1 H locs hwp hw9 => ?_)
  obtain ⟨e9, hwp⟩ := hwp
  subst e9
  have hw := hw9
  clear hw9
  refine r_aload_n C dL_law_982 hl rfl ?_
  refine r_aload_n C dL_law_983 hl rfl ?_
  refine r_iload_n C dL_law_984 hl rfl ?_
  refine r_const C dL_law_985 ?_
  refine r_iadd C dL_law_986 ?_
  refine r_sld C hX hbl hbA hw.2.2 hL (by omega) (by omega) dL_law_987 ?_
  refine r2_2I hA hw (run_v0 C (wd2_2 hw) clX9 rfl (c_X9_count hwp) (cwV 1 C.2.2.2.2.1 gL_law_X9_count rfl rfl rfl hd_X9_count ⟨(Nat.le_of_ble_eq_true rfl), (Nat.le_of_ble_eq_true rfl)⟩) rfl rfl rfl hl dL_law_988 ⟨Nat.le_refl _, Nat.le_refl _⟩) (fun r2 σ2 H locs hwp hw9 => ?_)
  obtain ⟨e9, hwp⟩ := hwp
  subst e9
  have hw := hw9
  clear hw9
  obtain ⟨ra, rb, e9, hwp⟩ := hwp
  refine r_icmp_eq C (tgt := 1209) dL_law_991 rfl ra rb (fun hc => ?_) (fun hc => absurd e9 hc)
  exact law_t C hw hl (ih hwp)
set_option maxRecDepth 100000 in
theorem law_c30 (C : cx p s m #[Value.ref b] meth c lw_tbl RL cL_law 4 ret D cA) (hX : va_X b L xs s s.heap) (hbl : b < s.heap.size) (hL : L ≤ 3072) {k : Int → St → St → Prop} (ih : ∀ {i : Int} {σ τ : St}, k i σ τ → ∀ {H : Heap} {locs : List Loc} {ls : Array Slot}, wd2 D cA K_BT hx σ K_M hm2 τ (fun q => s.heap.size ≤ q) s.heap H locs → lh ls 4 [some (.ref b), some (.ref (hx 0)), some (.ref (hm2 0)), some (iv i)] → W p l e room_1 s m #[Value.ref b] below meth c H locs 600000 7302250 Q (F0 m 18 ls [])) {i : Int} (h0 : 0 ≤ i) (hi : ¬ ((L : Int) - 6 < i)) {σ τ : St} {H : Heap} {locs : List Loc} {ls : Array Slot} (hwp : wp_law_c30 xs k i σ τ) (hw : wd2 D cA K_BT hx σ K_M hm2 τ (fun q => s.heap.size ≤ q) s.heap H locs) (hl : lh ls 4 [some (.ref b), some (.ref (hx 0)), some (.ref (hm2 0)), some (iv i)]) : W p l e room_1 s m #[Value.ref b] below meth c H locs 600000 7302250 Q (F0 m 996 ls []) := by
  have hA : ∀ q : Nat, s.heap.size ≤ q → (fun q : Nat => s.heap.size ≤ q) q := fun _ h => h
  have hbA : ¬ (fun q : Nat => s.heap.size ≤ q) b := Nat.not_le.mpr hbl
  refine r_aload_n C dL_law_996 hl rfl ?_
  refine r_aload_n C dL_law_997 hl rfl ?_
  refine r_iload_n C dL_law_998 hl rfl ?_
  refine r_const C dL_law_999 ?_
  refine r_iadd C dL_law_1000 ?_
  refine r_sld C hX hbl hbA hw.2.2 hL (by omega) (by omega) dL_law_1001 ?_
  refine r_aload_n C dL_law_1002 hl rfl ?_
  refine r_iload_n C dL_law_1003 hl rfl ?_
  refine r_const C dL_law_1004 ?_
  refine r_iadd C dL_law_1005 ?_
  refine r_sld C hX hbl hbA hw.2.2 hL (by omega) (by omega) dL_law_1006 ?_
  refine r_aload_n C dL_law_1007 hl rfl ?_
  refine r_iload_n C dL_law_1008 hl rfl ?_
  refine r_const C dL_law_1009 ?_
  refine r_iadd C dL_law_1010 ?_
  refine r_sld C hX hbl hbA hw.2.2 hL (by omega) (by omega) dL_law_1011 ?_
  refine r2_1I hA hw (run_v0 C (wd2_1 hw) clX8 rfl (c_X8_tape hwp) (cwV 3 C.2.2.2.2.1 gL_law_X8_tape rfl rfl rfl hd_X8_tape ⟨(Nat.le_of_ble_eq_true rfl), (Nat.le_of_ble_eq_true rfl)⟩) rfl rfl rfl hl dL_law_1012 ⟨Nat.le_refl _, Nat.le_refl _⟩) (fun r1 σ1 H locs hwp hw9 => ?_)
  have hw := hw9
  clear hw9
  refine r_aload_n C dL_law_1015 hl rfl ?_
  refine r_aload_n C dL_law_1016 hl rfl ?_
  refine r_iload_n C dL_law_1017 hl rfl ?_
  refine r_const C dL_law_1018 ?_
  refine r_iadd C dL_law_1019 ?_
  refine r_sld C hX hbl hbA hw.2.2 hL (by omega) (by omega) dL_law_1020 ?_
  refine r_aload_n C dL_law_1021 hl rfl ?_
  refine r_iload_n C dL_law_1022 hl rfl ?_
  refine r_const C dL_law_1023 ?_
  refine r_iadd C dL_law_1024 ?_
  refine r_sld C hX hbl hbA hw.2.2 hL (by omega) (by omega) dL_law_1025 ?_
  refine r_aload_n C dL_law_1026 hl rfl ?_
  refine r_iload_n C dL_law_1027 hl rfl ?_
  refine r_const C dL_law_1028 ?_
  refine r_iadd C dL_law_1029 ?_
  refine r_sld C hX hbl hbA hw.2.2 hL (by omega) (by omega) dL_law_1030 ?_
  refine r2_2I hA hw (run_v0 C (wd2_2 hw) clX9 rfl (c_X9_tape hwp) (cwV 3 C.2.2.2.2.1 gL_law_X9_tape rfl rfl rfl hd_X9_tape ⟨(Nat.le_of_ble_eq_true rfl), (Nat.le_of_ble_eq_true rfl)⟩) rfl rfl rfl hl dL_law_1031 ⟨Nat.le_refl _, Nat.le_refl _⟩) (fun r2 σ2 H locs hwp hw9 => ?_)
  have hw := hw9
  clear hw9
  obtain ⟨ra, rb, e9, hwp⟩ := hwp
  refine r_icmp_eq C (tgt := 1209) dL_law_1034 rfl ra rb (fun hc => ?_) (fun hc => absurd e9 hc)
  exact law_t C hw hl (ih hwp)
set_option maxRecDepth 100000 in
theorem law_c31 (C : cx p s m #[Value.ref b] meth c lw_tbl RL cL_law 4 ret D cA) (hX : va_X b L xs s s.heap) (hbl : b < s.heap.size) (hL : L ≤ 3072) {k : Int → St → St → Prop} (ih : ∀ {i : Int} {σ τ : St}, k i σ τ → ∀ {H : Heap} {locs : List Loc} {ls : Array Slot}, wd2 D cA K_BT hx σ K_M hm2 τ (fun q => s.heap.size ≤ q) s.heap H locs → lh ls 4 [some (.ref b), some (.ref (hx 0)), some (.ref (hm2 0)), some (iv i)] → W p l e room_1 s m #[Value.ref b] below meth c H locs 600000 7302250 Q (F0 m 18 ls [])) {i : Int} (h0 : 0 ≤ i) (hi : ¬ ((L : Int) - 6 < i)) {σ τ : St} {H : Heap} {locs : List Loc} {ls : Array Slot} (hwp : wp_law_c31 xs k i σ τ) (hw : wd2 D cA K_BT hx σ K_M hm2 τ (fun q => s.heap.size ≤ q) s.heap H locs) (hl : lh ls 4 [some (.ref b), some (.ref (hx 0)), some (.ref (hm2 0)), some (iv i)]) : W p l e room_1 s m #[Value.ref b] below meth c H locs 600000 7302250 Q (F0 m 1039 ls []) := by
  have hA : ∀ q : Nat, s.heap.size ≤ q → (fun q : Nat => s.heap.size ≤ q) q := fun _ h => h
  have hbA : ¬ (fun q : Nat => s.heap.size ≤ q) b := Nat.not_le.mpr hbl
  refine r_aload_n C dL_law_1039 hl rfl ?_
  refine r_aload_n C dL_law_1040 hl rfl ?_
  refine r_iload_n C dL_law_1041 hl rfl ?_
  refine r_const C dL_law_1042 ?_
  refine r_iadd C dL_law_1043 ?_
  refine r_sld C hX hbl hbA hw.2.2 hL (by omega) (by omega) dL_law_1044 ?_
  refine r_aload_n C dL_law_1045 hl rfl ?_
  refine r_iload_n C dL_law_1046 hl rfl ?_
  refine r_const C dL_law_1047 ?_
  refine r_iadd C dL_law_1048 ?_
  refine r_sld C hX hbl hbA hw.2.2 hL (by omega) (by omega) dL_law_1049 ?_
  refine r_aload_n C dL_law_1050 hl rfl ?_
  refine r_iload_n C dL_law_1051 hl rfl ?_
  refine r_const C dL_law_1052 ?_
  refine r_iadd C dL_law_1053 ?_
  refine r_sld C hX hbl hbA hw.2.2 hL (by omega) (by omega) dL_law_1054 ?_
  refine r_i2l C dL_law_1055 (sc_rg _ _) ?_
  refine r_bipush C dL_law_1056 (by decide +kernel) ?_
  refine r_lshl C dL_law_1058 ?_
  refine r_aload_n C dL_law_1059 hl rfl ?_
  refine r_iload_n C dL_law_1060 hl rfl ?_
  refine r_const C dL_law_1061 ?_
  refine r_iadd C dL_law_1062 ?_
  refine r_sld C hX hbl hbA hw.2.2 hL (by omega) (by omega) dL_law_1063 ?_
  refine r_i2l C dL_law_1064 (sc_rg _ _) ?_
  refine r_ldc2 C (n := 4294967295) inK dL_law_1065 ?_
  refine r_land C dL_law_1068 ?_
  refine r_lor C dL_law_1069 ?_
  refine r2_1I hA hw (run_v0 C (wd2_1 hw) clX8 rfl (cq_X8_item hwp) (cwV 3 C.2.2.2.2.1 gL_law_X8_item rfl rfl rfl hd_X8_item ⟨(Nat.le_of_ble_eq_true rfl), (Nat.le_of_ble_eq_true rfl)⟩) rfl rfl rfl hl dL_law_1070 ⟨Nat.le_refl _, Nat.le_refl _⟩) (fun r1 σ1 H locs hwp hw9 => ?_)
  have hw := hw9
  clear hw9
  refine r_aload_n C dL_law_1073 hl rfl ?_
  refine r_aload_n C dL_law_1074 hl rfl ?_
  refine r_iload_n C dL_law_1075 hl rfl ?_
  refine r_const C dL_law_1076 ?_
  refine r_iadd C dL_law_1077 ?_
  refine r_sld C hX hbl hbA hw.2.2 hL (by omega) (by omega) dL_law_1078 ?_
  refine r_aload_n C dL_law_1079 hl rfl ?_
  refine r_iload_n C dL_law_1080 hl rfl ?_
  refine r_const C dL_law_1081 ?_
  refine r_iadd C dL_law_1082 ?_
  refine r_sld C hX hbl hbA hw.2.2 hL (by omega) (by omega) dL_law_1083 ?_
  refine r_aload_n C dL_law_1084 hl rfl ?_
  refine r_iload_n C dL_law_1085 hl rfl ?_
  refine r_const C dL_law_1086 ?_
  refine r_iadd C dL_law_1087 ?_
  refine r_sld C hX hbl hbA hw.2.2 hL (by omega) (by omega) dL_law_1088 ?_
  refine r_i2l C dL_law_1089 (sc_rg _ _) ?_
  refine r_bipush C dL_law_1090 (by decide +kernel) ?_
  refine r_lshl C dL_law_1092 ?_
  refine r_aload_n C dL_law_1093 hl rfl ?_
  refine r_iload_n C dL_law_1094 hl rfl ?_
  refine r_const C dL_law_1095 ?_
  refine r_iadd C dL_law_1096 ?_
  refine r_sld C hX hbl hbA hw.2.2 hL (by omega) (by omega) dL_law_1097 ?_
  refine r_i2l C dL_law_1098 (sc_rg _ _) ?_
  refine r_ldc2 C (n := 4294967295) inK dL_law_1099 ?_
  refine r_land C dL_law_1102 ?_
  refine r_lor C dL_law_1103 ?_
  refine r2_2I hA hw (run_v0 C (wd2_2 hw) clX9 rfl (cq_X9_item hwp) (cwV 3 C.2.2.2.2.1 gL_law_X9_item rfl rfl rfl hd_X9_item ⟨(Nat.le_of_ble_eq_true rfl), (Nat.le_of_ble_eq_true rfl)⟩) rfl rfl rfl hl dL_law_1104 ⟨Nat.le_refl _, Nat.le_refl _⟩) (fun r2 σ2 H locs hwp hw9 => ?_)
  have hw := hw9
  clear hw9
  obtain ⟨ra, rb, e9, hwp⟩ := hwp
  refine r_icmp_eq C (tgt := 1209) dL_law_1107 rfl ra rb (fun hc => ?_) (fun hc => absurd e9 hc)
  exact law_t C hw hl (ih hwp)
set_option maxRecDepth 100000 in
theorem law_c32 (C : cx p s m #[Value.ref b] meth c lw_tbl RL cL_law 4 ret D cA) (hX : va_X b L xs s s.heap) (hbl : b < s.heap.size) (hL : L ≤ 3072) {k : Int → St → St → Prop} (ih : ∀ {i : Int} {σ τ : St}, k i σ τ → ∀ {H : Heap} {locs : List Loc} {ls : Array Slot}, wd2 D cA K_BT hx σ K_M hm2 τ (fun q => s.heap.size ≤ q) s.heap H locs → lh ls 4 [some (.ref b), some (.ref (hx 0)), some (.ref (hm2 0)), some (iv i)] → W p l e room_1 s m #[Value.ref b] below meth c H locs 600000 7302250 Q (F0 m 18 ls [])) {i : Int} (h0 : 0 ≤ i) (hi : ¬ ((L : Int) - 6 < i)) {σ τ : St} {H : Heap} {locs : List Loc} {ls : Array Slot} (hwp : wp_law_c32 xs k i σ τ) (hw : wd2 D cA K_BT hx σ K_M hm2 τ (fun q => s.heap.size ≤ q) s.heap H locs) (hl : lh ls 4 [some (.ref b), some (.ref (hx 0)), some (.ref (hm2 0)), some (iv i)]) : W p l e room_1 s m #[Value.ref b] below meth c H locs 600000 7302250 Q (F0 m 1112 ls []) := by
  have hA : ∀ q : Nat, s.heap.size ≤ q → (fun q : Nat => s.heap.size ≤ q) q := fun _ h => h
  have hbA : ¬ (fun q : Nat => s.heap.size ≤ q) b := Nat.not_le.mpr hbl
  refine r_aload_n C dL_law_1112 hl rfl ?_
  refine r_aload_n C dL_law_1113 hl rfl ?_
  refine r_iload_n C dL_law_1114 hl rfl ?_
  refine r_const C dL_law_1115 ?_
  refine r_iadd C dL_law_1116 ?_
  refine r_sld C hX hbl hbA hw.2.2 hL (by omega) (by omega) dL_law_1117 ?_
  refine r_aload_n C dL_law_1118 hl rfl ?_
  refine r_iload_n C dL_law_1119 hl rfl ?_
  refine r_const C dL_law_1120 ?_
  refine r_iadd C dL_law_1121 ?_
  refine r_sld C hX hbl hbA hw.2.2 hL (by omega) (by omega) dL_law_1122 ?_
  refine r2_1L hA hw (run_v0 C (wd2_1 hw) clX8 rfl (c_X8_peek hwp) (cwV 2 C.2.2.2.2.1 gL_law_X8_peek rfl rfl rfl hd_X8_peek ⟨(Nat.le_of_ble_eq_true rfl), (Nat.le_of_ble_eq_true rfl)⟩) rfl rfl rfl hl dL_law_1123 ⟨Nat.le_refl _, Nat.le_refl _⟩) (fun r1 σ1 H locs hwp hw9 => ?_)
  obtain ⟨e9, hwp⟩ := hwp
  subst e9
  have hw := hw9
  clear hw9
  refine r_aload_n C dL_law_1126 hl rfl ?_
  refine r_aload_n C dL_law_1127 hl rfl ?_
  refine r_iload_n C dL_law_1128 hl rfl ?_
  refine r_const C dL_law_1129 ?_
  refine r_iadd C dL_law_1130 ?_
  refine r_sld C hX hbl hbA hw.2.2 hL (by omega) (by omega) dL_law_1131 ?_
  refine r_aload_n C dL_law_1132 hl rfl ?_
  refine r_iload_n C dL_law_1133 hl rfl ?_
  refine r_const C dL_law_1134 ?_
  refine r_iadd C dL_law_1135 ?_
  refine r_sld C hX hbl hbA hw.2.2 hL (by omega) (by omega) dL_law_1136 ?_
  refine r2_2L hA hw (run_v0 C (wd2_2 hw) clX9 rfl (c_X9_peek hwp) (cwV 2 C.2.2.2.2.1 gL_law_X9_peek rfl rfl rfl hd_X9_peek ⟨(Nat.le_of_ble_eq_true rfl), (Nat.le_of_ble_eq_true rfl)⟩) rfl rfl rfl hl dL_law_1137 ⟨Nat.le_refl _, Nat.le_refl _⟩) (fun r2 σ2 H locs hwp hw9 => ?_)
  obtain ⟨e9, hwp⟩ := hwp
  subst e9
  have hw := hw9
  clear hw9
  obtain ⟨ra, rb, e9, hwp⟩ := hwp
  refine r_lcmp C dL_law_1140 ra rb ?_
  refine r_if_eq C (tgt := 1209) dL_law_1141 rfl (lcp_rg _ _) (fun hc => ?_) (fun hc => absurd (lcp_eq e9) hc)
  exact law_t C hw hl (ih hwp)
set_option maxRecDepth 100000 in
theorem law_c33 (C : cx p s m #[Value.ref b] meth c lw_tbl RL cL_law 4 ret D cA) (hX : va_X b L xs s s.heap) (hbl : b < s.heap.size) (hL : L ≤ 3072) {k : Int → St → St → Prop} (ih : ∀ {i : Int} {σ τ : St}, k i σ τ → ∀ {H : Heap} {locs : List Loc} {ls : Array Slot}, wd2 D cA K_BT hx σ K_M hm2 τ (fun q => s.heap.size ≤ q) s.heap H locs → lh ls 4 [some (.ref b), some (.ref (hx 0)), some (.ref (hm2 0)), some (iv i)] → W p l e room_1 s m #[Value.ref b] below meth c H locs 600000 7302250 Q (F0 m 18 ls [])) {i : Int} (h0 : 0 ≤ i) (hi : ¬ ((L : Int) - 6 < i)) {σ τ : St} {H : Heap} {locs : List Loc} {ls : Array Slot} (hwp : wp_law_c33 xs k i σ τ) (hw : wd2 D cA K_BT hx σ K_M hm2 τ (fun q => s.heap.size ≤ q) s.heap H locs) (hl : lh ls 4 [some (.ref b), some (.ref (hx 0)), some (.ref (hm2 0)), some (iv i)]) : W p l e room_1 s m #[Value.ref b] below meth c H locs 600000 7302250 Q (F0 m 1146 ls []) := by
  have hA : ∀ q : Nat, s.heap.size ≤ q → (fun q : Nat => s.heap.size ≤ q) q := fun _ h => h
  have hbA : ¬ (fun q : Nat => s.heap.size ≤ q) b := Nat.not_le.mpr hbl
  refine r_aload_n C dL_law_1146 hl rfl ?_
  refine r_aload_n C dL_law_1147 hl rfl ?_
  refine r_iload_n C dL_law_1148 hl rfl ?_
  refine r_const C dL_law_1149 ?_
  refine r_iadd C dL_law_1150 ?_
  refine r_sld C hX hbl hbA hw.2.2 hL (by omega) (by omega) dL_law_1151 ?_
  refine r_aload_n C dL_law_1152 hl rfl ?_
  refine r_iload_n C dL_law_1153 hl rfl ?_
  refine r_const C dL_law_1154 ?_
  refine r_iadd C dL_law_1155 ?_
  refine r_sld C hX hbl hbA hw.2.2 hL (by omega) (by omega) dL_law_1156 ?_
  refine r_aload_n C dL_law_1157 hl rfl ?_
  refine r_iload_n C dL_law_1158 hl rfl ?_
  refine r_const C dL_law_1159 ?_
  refine r_iadd C dL_law_1160 ?_
  refine r_sld C hX hbl hbA hw.2.2 hL (by omega) (by omega) dL_law_1161 ?_
  refine r_aload_n C dL_law_1162 hl rfl ?_
  refine r_iload_n C dL_law_1163 hl rfl ?_
  refine r_const C dL_law_1164 ?_
  refine r_iadd C dL_law_1165 ?_
  refine r_sld C hX hbl hbA hw.2.2 hL (by omega) (by omega) dL_law_1166 ?_
  refine r_aload_n C dL_law_1167 hl rfl ?_
  refine r_iload_n C dL_law_1168 hl rfl ?_
  refine r_const C dL_law_1169 ?_
  refine r_iadd C dL_law_1170 ?_
  refine r_sld C hX hbl hbA hw.2.2 hL (by omega) (by omega) dL_law_1171 ?_
  refine r2_1I hA hw (run_v0 C (wd2_1 hw) clX8 rfl (c_X8_shift hwp) (cwV 5 C.2.2.2.2.1 gL_law_X8_shift rfl rfl rfl hd_X8_shift ⟨(Nat.le_of_ble_eq_true rfl), (Nat.le_of_ble_eq_true rfl)⟩) rfl rfl rfl hl dL_law_1172 ⟨Nat.le_refl _, Nat.le_refl _⟩) (fun r1 σ1 H locs hwp hw9 => ?_)
  have hw := hw9
  clear hw9
  refine r_aload_n C dL_law_1175 hl rfl ?_
  refine r_aload_n C dL_law_1176 hl rfl ?_
  refine r_iload_n C dL_law_1177 hl rfl ?_
  refine r_const C dL_law_1178 ?_
  refine r_iadd C dL_law_1179 ?_
  refine r_sld C hX hbl hbA hw.2.2 hL (by omega) (by omega) dL_law_1180 ?_
  refine r_aload_n C dL_law_1181 hl rfl ?_
  refine r_iload_n C dL_law_1182 hl rfl ?_
  refine r_const C dL_law_1183 ?_
  refine r_iadd C dL_law_1184 ?_
  refine r_sld C hX hbl hbA hw.2.2 hL (by omega) (by omega) dL_law_1185 ?_
  refine r_aload_n C dL_law_1186 hl rfl ?_
  refine r_iload_n C dL_law_1187 hl rfl ?_
  refine r_const C dL_law_1188 ?_
  refine r_iadd C dL_law_1189 ?_
  refine r_sld C hX hbl hbA hw.2.2 hL (by omega) (by omega) dL_law_1190 ?_
  refine r_aload_n C dL_law_1191 hl rfl ?_
  refine r_iload_n C dL_law_1192 hl rfl ?_
  refine r_const C dL_law_1193 ?_
  refine r_iadd C dL_law_1194 ?_
  refine r_sld C hX hbl hbA hw.2.2 hL (by omega) (by omega) dL_law_1195 ?_
  refine r_aload_n C dL_law_1196 hl rfl ?_
  refine r_iload_n C dL_law_1197 hl rfl ?_
  refine r_const C dL_law_1198 ?_
  refine r_iadd C dL_law_1199 ?_
  refine r_sld C hX hbl hbA hw.2.2 hL (by omega) (by omega) dL_law_1200 ?_
  refine r2_2I hA hw (run_v0 C (wd2_2 hw) clX9 rfl (c_X9_shift hwp) (cwV 5 C.2.2.2.2.1 gL_law_X9_shift rfl rfl rfl hd_X9_shift ⟨(Nat.le_of_ble_eq_true rfl), (Nat.le_of_ble_eq_true rfl)⟩) rfl rfl rfl hl dL_law_1201 ⟨Nat.le_refl _, Nat.le_refl _⟩) (fun r2 σ2 H locs hwp hw9 => ?_)
  have hw := hw9
  clear hw9
  obtain ⟨ra, rb, e9, hwp⟩ := hwp
  refine r_icmp_eq C (tgt := 1209) dL_law_1204 rfl ra rb (fun hc => ?_) (fun hc => absurd e9 hc)
  exact law_t C hw hl (ih hwp)
theorem law_loop (C : cx p s m #[Value.ref b] meth c lw_tbl RL cL_law 4 ret D cA) (hX : va_X b L xs s s.heap) (hbl : b < s.heap.size) (hL : L ≤ 3072) (hend : ∀ {H : Heap} {locs : List Loc} {ls : Array Slot}, (∀ q ∈ locs, s.heap.size ≤ q.base) → W p l e room_1 s m #[Value.ref b] below meth c H locs 600000 7302250 Q (F0 m 1215 ls [])) : ∀ (n : Nat) {i : Int} {σ τ : St}, wp_law (L : Int) xs n i σ τ → ∀ {H : Heap} {locs : List Loc} {ls : Array Slot}, wd2 D cA K_BT hx σ K_M hm2 τ (fun q => s.heap.size ≤ q) s.heap H locs → lh ls 4 [some (.ref b), some (.ref (hx 0)), some (.ref (hm2 0)), some (iv i)] → W p l e room_1 s m #[Value.ref b] below meth c H locs 600000 7302250 Q (F0 m 18 ls []) := by
  have hA : ∀ q : Nat, s.heap.size ≤ q → (fun q : Nat => s.heap.size ≤ q) q := fun _ h => h
  have hbA : ¬ (fun q : Nat => s.heap.size ≤ q) b := Nat.not_le.mpr hbl
  intro n; induction n with
  | zero => intros; rename_i hwp _ _ _ _ _; exact hwp.elim
  | succ n ih =>
    intro i σ τ hwp H locs ls hw hl
    obtain ⟨ri, hwp⟩ := hwp
    refine r_iload_n C dL_law_18 hl rfl ?_
    refine r_aload_n C dL_law_19 hl rfl ?_
    refine r_slen C hX hbl hbA hw.2.2 dL_law_20 ?_
    refine r_bipush C dL_law_21 (by decide +kernel) ?_
    refine r_isub C dL_law_23 ?_
    refine r_icmp_gt C (tgt := 1215) dL_law_24 rfl ri ⟨by omega, by omega⟩ (fun hc => hend hw.2.2.2.2) (fun hi => ?_)
    obtain ⟨h0, hS0, hS1, hS2, hS3, hS4, hS5, hS6, hS7, hS8, hS9, hS10, hS11, hS12, hS13, hS14, hS15, hS16, hS17, hS18, hS19, hS20, hS21, hS22, hS23, hS24, hS25, hS26, hS27, hS28, hS29, hS30, hS31, hS32, hS33, hDf⟩ := hwp hi
    refine r_aload_n C dL_law_27 hl rfl ?_
    refine r_iload_n C dL_law_28 hl rfl ?_
    refine r_sld C hX hbl hbA hw.2.2 hL h0 (by omega) dL_law_29 ?_
    refine r_bipush C dL_law_30 (by decide +kernel) ?_
    refine r_iand C dL_law_32 ?_
    rcases sw_0_33 (bnd63 (sc xs i)) with hc | hc | hc | hc | hc | hc | hc | hc | hc | hc | hc | hc | hc | hc | hc | hc | hc | hc | hc | hc | hc | hc | hc | hc | hc | hc | hc | hc | hc | hc | hc | hc | hc | hc | hc
    · refine r_tin C (tgt := 184) dL_law_33 (bnd63 _) 0 hc (by decide) (by decide) rfl rfl ?_
      exact law_c0 C hX hbl hL (fun h => ih h) h0 hi (hS0 hc) hw hl
    · refine r_tin C (tgt := 207) dL_law_33 (bnd63 _) 1 hc (by decide) (by decide) rfl rfl ?_
      exact law_c1 C hX hbl hL (fun h => ih h) h0 hi (hS1 hc) hw hl
    · refine r_tin C (tgt := 230) dL_law_33 (bnd63 _) 2 hc (by decide) (by decide) rfl rfl ?_
      exact law_c2 C hX hbl hL (fun h => ih h) h0 hi (hS2 hc) hw hl
    · refine r_tin C (tgt := 263) dL_law_33 (bnd63 _) 3 hc (by decide) (by decide) rfl rfl ?_
      exact law_c3 C hX hbl hL (fun h => ih h) h0 hi (hS3 hc) hw hl
    · refine r_tin C (tgt := 296) dL_law_33 (bnd63 _) 4 hc (by decide) (by decide) rfl rfl ?_
      exact law_c4 C hX hbl hL (fun h => ih h) h0 hi (hS4 hc) hw hl
    · refine r_tin C (tgt := 319) dL_law_33 (bnd63 _) 5 hc (by decide) (by decide) rfl rfl ?_
      exact law_c5 C hX hbl hL (fun h => ih h) h0 hi (hS5 hc) hw hl
    · refine r_tin C (tgt := 352) dL_law_33 (bnd63 _) 6 hc (by decide) (by decide) rfl rfl ?_
      exact law_c6 C hX hbl hL (fun h => ih h) h0 hi (hS6 hc) hw hl
    · refine r_tin C (tgt := 375) dL_law_33 (bnd63 _) 7 hc (by decide) (by decide) rfl rfl ?_
      exact law_c7 C hX hbl hL (fun h => ih h) h0 hi (hS7 hc) hw hl
    · refine r_tin C (tgt := 388) dL_law_33 (bnd63 _) 8 hc (by decide) (by decide) rfl rfl ?_
      exact law_c8 C hX hbl hL (fun h => ih h) h0 hi (hS8 hc) hw hl
    · refine r_tin C (tgt := 421) dL_law_33 (bnd63 _) 9 hc (by decide) (by decide) rfl rfl ?_
      exact law_c9 C hX hbl hL (fun h => ih h) h0 hi (hS9 hc) hw hl
    · refine r_tin C (tgt := 444) dL_law_33 (bnd63 _) 10 hc (by decide) (by decide) rfl rfl ?_
      exact law_c10 C hX hbl hL (fun h => ih h) h0 hi (hS10 hc) hw hl
    · refine r_tin C (tgt := 477) dL_law_33 (bnd63 _) 11 hc (by decide) (by decide) rfl rfl ?_
      exact law_c11 C hX hbl hL (fun h => ih h) h0 hi (hS11 hc) hw hl
    · refine r_tin C (tgt := 510) dL_law_33 (bnd63 _) 12 hc (by decide) (by decide) rfl rfl ?_
      exact law_c12 C hX hbl hL (fun h => ih h) h0 hi (hS12 hc) hw hl
    · refine r_tin C (tgt := 533) dL_law_33 (bnd63 _) 13 hc (by decide) (by decide) rfl rfl ?_
      exact law_c13 C hX hbl hL (fun h => ih h) h0 hi (hS13 hc) hw hl
    · refine r_tin C (tgt := 556) dL_law_33 (bnd63 _) 14 hc (by decide) (by decide) rfl rfl ?_
      exact law_c14 C hX hbl hL (fun h => ih h) h0 hi (hS14 hc) hw hl
    · refine r_tin C (tgt := 579) dL_law_33 (bnd63 _) 15 hc (by decide) (by decide) rfl rfl ?_
      exact law_c15 C hX hbl hL (fun h => ih h) h0 hi (hS15 hc) hw hl
    · refine r_tin C (tgt := 612) dL_law_33 (bnd63 _) 16 hc (by decide) (by decide) rfl rfl ?_
      exact law_c16 C hX hbl hL (fun h => ih h) h0 hi (hS16 hc) hw hl
    · refine r_tin C (tgt := 635) dL_law_33 (bnd63 _) 17 hc (by decide) (by decide) rfl rfl ?_
      exact law_c17 C hX hbl hL (fun h => ih h) h0 hi (hS17 hc) hw hl
    · refine r_tin C (tgt := 668) dL_law_33 (bnd63 _) 18 hc (by decide) (by decide) rfl rfl ?_
      exact law_c18 C hX hbl hL (fun h => ih h) h0 hi (hS18 hc) hw hl
    · refine r_tin C (tgt := 711) dL_law_33 (bnd63 _) 19 hc (by decide) (by decide) rfl rfl ?_
      exact law_c19 C hX hbl hL (fun h => ih h) h0 hi (hS19 hc) hw hl
    · refine r_tin C (tgt := 734) dL_law_33 (bnd63 _) 20 hc (by decide) (by decide) rfl rfl ?_
      exact law_c20 C hX hbl hL (fun h => ih h) h0 hi (hS20 hc) hw hl
    · refine r_tin C (tgt := 778) dL_law_33 (bnd63 _) 21 hc (by decide) (by decide) rfl rfl ?_
      exact law_c21 C hX hbl hL (fun h => ih h) h0 hi (hS21 hc) hw hl
    · refine r_tin C (tgt := 802) dL_law_33 (bnd63 _) 22 hc (by decide) (by decide) rfl rfl ?_
      exact law_c22 C hX hbl hL (fun h => ih h) h0 hi (hS22 hc) hw hl
    · refine r_tin C (tgt := 835) dL_law_33 (bnd63 _) 23 hc (by decide) (by decide) rfl rfl ?_
      exact law_c23 C hX hbl hL (fun h => ih h) h0 hi (hS23 hc) hw hl
    · refine r_tin C (tgt := 858) dL_law_33 (bnd63 _) 24 hc (by decide) (by decide) rfl rfl ?_
      exact law_c24 C hX hbl hL (fun h => ih h) h0 hi (hS24 hc) hw hl
    · refine r_tin C (tgt := 891) dL_law_33 (bnd63 _) 25 hc (by decide) (by decide) rfl rfl ?_
      exact law_c25 C hX hbl hL (fun h => ih h) h0 hi (hS25 hc) hw hl
    · refine r_tin C (tgt := 904) dL_law_33 (bnd63 _) 26 hc (by decide) (by decide) rfl rfl ?_
      exact law_c26 C hX hbl hL (fun h => ih h) h0 hi (hS26 hc) hw hl
    · refine r_tin C (tgt := 947) dL_law_33 (bnd63 _) 27 hc (by decide) (by decide) rfl rfl ?_
      exact law_c27 C hX hbl hL (fun h => ih h) h0 hi (hS27 hc) hw hl
    · refine r_tin C (tgt := 960) dL_law_33 (bnd63 _) 28 hc (by decide) (by decide) rfl rfl ?_
      exact law_c28 C hX hbl hL (fun h => ih h) h0 hi (hS28 hc) hw hl
    · refine r_tin C (tgt := 973) dL_law_33 (bnd63 _) 29 hc (by decide) (by decide) rfl rfl ?_
      exact law_c29 C hX hbl hL (fun h => ih h) h0 hi (hS29 hc) hw hl
    · refine r_tin C (tgt := 996) dL_law_33 (bnd63 _) 30 hc (by decide) (by decide) rfl rfl ?_
      exact law_c30 C hX hbl hL (fun h => ih h) h0 hi (hS30 hc) hw hl
    · refine r_tin C (tgt := 1039) dL_law_33 (bnd63 _) 31 hc (by decide) (by decide) rfl rfl ?_
      exact law_c31 C hX hbl hL (fun h => ih h) h0 hi (hS31 hc) hw hl
    · refine r_tin C (tgt := 1112) dL_law_33 (bnd63 _) 32 hc (by decide) (by decide) rfl rfl ?_
      exact law_c32 C hX hbl hL (fun h => ih h) h0 hi (hS32 hc) hw hl
    · refine r_tin C (tgt := 1146) dL_law_33 (bnd63 _) 33 hc (by decide) (by decide) rfl rfl ?_
      exact law_c33 C hX hbl hL (fun h => ih h) h0 hi (hS33 hc) hw hl
    · refine r_tout C (tgt := 1209) dL_law_33 (bnd63 _) hc rfl ?_
      exact law_t C hw hl (ih (hDf hc))
end
