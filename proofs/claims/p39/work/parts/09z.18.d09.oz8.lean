/-! More of what the functions leave. -/
